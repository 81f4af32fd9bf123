section
-- ===== PART A: goes FIRST, ahead of the names: the tables' words, and 'selects' of the private methods out of them =====
/-- a private method of a class that the tables say can be made, by its rows of tables_1 -/
def lw_okq (q : MethodName × Nat) : Prop := (q.1.cls ≠ "java/lang/invoke/MethodHandle" ∧ q.1.cls ≠ "java/lang/invoke/VarHandle") ∧ Cond.instantiable q.1.cls q.2 ∈ tables_1 ∧ Cond.privateMethod q.1 ∈ tables_1 ∧ Cond.instanceMethod q.1 ∈ tables_1
theorem lw_p0 : lw_okq (⟨"java/lang/Throwable", "fillInStackTrace", "(I)Ljava/lang/Throwable;"⟩, 6) := ⟨⟨by decide +kernel, by decide +kernel⟩, List.mem_of_getElem? (i := 154) (by decide +kernel), List.mem_of_getElem? (i := 152) (by decide +kernel), List.mem_of_getElem? (i := 153) (by decide +kernel)⟩
theorem lw_p1 : lw_okq (⟨"Groupbooks$Holdings", "millionthsAfter", "(II)I"⟩, 6) := ⟨⟨by decide +kernel, by decide +kernel⟩, List.mem_of_getElem? (i := 20) (by decide +kernel), List.mem_of_getElem? (i := 184) (by decide +kernel), List.mem_of_getElem? (i := 185) (by decide +kernel)⟩
theorem lw_p2 : lw_okq (⟨"Groupbooks$Holdings", "playRound", "()V"⟩, 6) := ⟨⟨by decide +kernel, by decide +kernel⟩, List.mem_of_getElem? (i := 20) (by decide +kernel), List.mem_of_getElem? (i := 189) (by decide +kernel), List.mem_of_getElem? (i := 190) (by decide +kernel)⟩
theorem lw_p3 : lw_okq (⟨"Groupbooks$Books", "enterRates", "(IIII)V"⟩, 7) := ⟨⟨by decide +kernel, by decide +kernel⟩, List.mem_of_getElem? (i := 47) (by decide +kernel), List.mem_of_getElem? (i := 200) (by decide +kernel), List.mem_of_getElem? (i := 201) (by decide +kernel)⟩
theorem lw_p4 : lw_okq (⟨"Groupbooks$Holdings", "percentOf", "(II)I"⟩, 6) := ⟨⟨by decide +kernel, by decide +kernel⟩, List.mem_of_getElem? (i := 20) (by decide +kernel), List.mem_of_getElem? (i := 226) (by decide +kernel), List.mem_of_getElem? (i := 227) (by decide +kernel)⟩
theorem lw_p5 : lw_okq (⟨"Groupbooks$Holdings", "take", "(III)Z"⟩, 6) := ⟨⟨by decide +kernel, by decide +kernel⟩, List.mem_of_getElem? (i := 20) (by decide +kernel), List.mem_of_getElem? (i := 230) (by decide +kernel), List.mem_of_getElem? (i := 231) (by decide +kernel)⟩
theorem lw_p6 : lw_okq (⟨"Groupbooks$Holdings", "heldByAll", "(I)I"⟩, 6) := ⟨⟨by decide +kernel, by decide +kernel⟩, List.mem_of_getElem? (i := 20) (by decide +kernel), List.mem_of_getElem? (i := 234) (by decide +kernel), List.mem_of_getElem? (i := 235) (by decide +kernel)⟩
theorem lw_p7 : lw_okq (⟨"Groupbooks$Holdings", "determineShares", "()Z"⟩, 6) := ⟨⟨by decide +kernel, by decide +kernel⟩, List.mem_of_getElem? (i := 20) (by decide +kernel), List.mem_of_getElem? (i := 238) (by decide +kernel), List.mem_of_getElem? (i := 239) (by decide +kernel)⟩
theorem lw_p8 : lw_okq (⟨"Groupbooks$Holdings", "writeEquations", "()V"⟩, 6) := ⟨⟨by decide +kernel, by decide +kernel⟩, List.mem_of_getElem? (i := 20) (by decide +kernel), List.mem_of_getElem? (i := 242) (by decide +kernel), List.mem_of_getElem? (i := 243) (by decide +kernel)⟩
theorem lw_p9 : lw_okq (⟨"Groupbooks$Holdings", "clearColumn", "(IJJ)V"⟩, 6) := ⟨⟨by decide +kernel, by decide +kernel⟩, List.mem_of_getElem? (i := 20) (by decide +kernel), List.mem_of_getElem? (i := 247) (by decide +kernel), List.mem_of_getElem? (i := 248) (by decide +kernel)⟩
theorem lw_p10 : lw_okq (⟨"Groupbooks$Holdings", "clearEntry", "(IIJJ)V"⟩, 6) := ⟨⟨by decide +kernel, by decide +kernel⟩, List.mem_of_getElem? (i := 20) (by decide +kernel), List.mem_of_getElem? (i := 251) (by decide +kernel), List.mem_of_getElem? (i := 252) (by decide +kernel)⟩
theorem lw_p11 : lw_okq (⟨"Groupbooks$Holdings", "keepShares", "(J)V"⟩, 6) := ⟨⟨by decide +kernel, by decide +kernel⟩, List.mem_of_getElem? (i := 20) (by decide +kernel), List.mem_of_getElem? (i := 255) (by decide +kernel), List.mem_of_getElem? (i := 256) (by decide +kernel)⟩
theorem lw_p12 : lw_okq (⟨"Groupbooks$Books", "netOf", "(I)I"⟩, 7) := ⟨⟨by decide +kernel, by decide +kernel⟩, List.mem_of_getElem? (i := 47) (by decide +kernel), List.mem_of_getElem? (i := 286) (by decide +kernel), List.mem_of_getElem? (i := 287) (by decide +kernel)⟩
theorem lw_p13 : lw_okq (⟨"Groupbooks$Books", "assetsOf", "(I)I"⟩, 7) := ⟨⟨by decide +kernel, by decide +kernel⟩, List.mem_of_getElem? (i := 47) (by decide +kernel), List.mem_of_getElem? (i := 290) (by decide +kernel), List.mem_of_getElem? (i := 291) (by decide +kernel)⟩
theorem lw_p14 : lw_okq (⟨"Groupbooks$Books", "debtsOf", "(I)I"⟩, 7) := ⟨⟨by decide +kernel, by decide +kernel⟩, List.mem_of_getElem? (i := 47) (by decide +kernel), List.mem_of_getElem? (i := 300) (by decide +kernel), List.mem_of_getElem? (i := 301) (by decide +kernel)⟩
theorem lw_p15 : lw_okq (⟨"Groupbooks$Balances", "replaceClaim", "(III)I"⟩, 2) := ⟨⟨by decide +kernel, by decide +kernel⟩, List.mem_of_getElem? (i := 75) (by decide +kernel), List.mem_of_getElem? (i := 309) (by decide +kernel), List.mem_of_getElem? (i := 310) (by decide +kernel)⟩
def lw_privs_1 : List (MethodName × Nat) := [(⟨"java/lang/Throwable", "fillInStackTrace", "(I)Ljava/lang/Throwable;"⟩, 6), (⟨"Groupbooks$Holdings", "millionthsAfter", "(II)I"⟩, 6), (⟨"Groupbooks$Holdings", "playRound", "()V"⟩, 6), (⟨"Groupbooks$Books", "enterRates", "(IIII)V"⟩, 7), (⟨"Groupbooks$Holdings", "percentOf", "(II)I"⟩, 6), (⟨"Groupbooks$Holdings", "take", "(III)Z"⟩, 6), (⟨"Groupbooks$Holdings", "heldByAll", "(I)I"⟩, 6), (⟨"Groupbooks$Holdings", "determineShares", "()Z"⟩, 6), (⟨"Groupbooks$Holdings", "writeEquations", "()V"⟩, 6), (⟨"Groupbooks$Holdings", "clearColumn", "(IJJ)V"⟩, 6), (⟨"Groupbooks$Holdings", "clearEntry", "(IIJJ)V"⟩, 6), (⟨"Groupbooks$Holdings", "keepShares", "(J)V"⟩, 6), (⟨"Groupbooks$Books", "netOf", "(I)I"⟩, 7), (⟨"Groupbooks$Books", "assetsOf", "(I)I"⟩, 7), (⟨"Groupbooks$Books", "debtsOf", "(I)I"⟩, 7), (⟨"Groupbooks$Balances", "replaceClaim", "(III)I"⟩, 2)]
theorem lw_r1 : ∀ q ∈ lw_privs_1, lw_okq q := List.forall_mem_cons.mpr ⟨lw_p0, List.forall_mem_cons.mpr ⟨lw_p1, List.forall_mem_cons.mpr ⟨lw_p2, List.forall_mem_cons.mpr ⟨lw_p3, List.forall_mem_cons.mpr ⟨lw_p4, List.forall_mem_cons.mpr ⟨lw_p5, List.forall_mem_cons.mpr ⟨lw_p6, List.forall_mem_cons.mpr ⟨lw_p7, List.forall_mem_cons.mpr ⟨lw_p8, List.forall_mem_cons.mpr ⟨lw_p9, List.forall_mem_cons.mpr ⟨lw_p10, List.forall_mem_cons.mpr ⟨lw_p11, List.forall_mem_cons.mpr ⟨lw_p12, List.forall_mem_cons.mpr ⟨lw_p13, List.forall_mem_cons.mpr ⟨lw_p14, List.forall_mem_cons.mpr ⟨lw_p15, fun _ h => absurd h List.not_mem_nil⟩⟩⟩⟩⟩⟩⟩⟩⟩⟩⟩⟩⟩⟩⟩⟩
theorem lw_p16 : lw_okq (⟨"Groupbooks$Balances", "replaceAdmitted", "(III)I"⟩, 2) := ⟨⟨by decide +kernel, by decide +kernel⟩, List.mem_of_getElem? (i := 75) (by decide +kernel), List.mem_of_getElem? (i := 318) (by decide +kernel), List.mem_of_getElem? (i := 319) (by decide +kernel)⟩
theorem lw_p17 : lw_okq (⟨"Groupbooks$Holdings", "members", "()I"⟩, 6) := ⟨⟨by decide +kernel, by decide +kernel⟩, List.mem_of_getElem? (i := 20) (by decide +kernel), List.mem_of_getElem? (i := 331) (by decide +kernel), List.mem_of_getElem? (i := 332) (by decide +kernel)⟩
theorem lw_p18 : lw_okq (⟨"Groupbooks$Holdings", "withControlled", "(I)I"⟩, 6) := ⟨⟨by decide +kernel, by decide +kernel⟩, List.mem_of_getElem? (i := 20) (by decide +kernel), List.mem_of_getElem? (i := 335) (by decide +kernel), List.mem_of_getElem? (i := 336) (by decide +kernel)⟩
theorem lw_p19 : lw_okq (⟨"Groupbooks$Holdings", "heldAmong", "(II)I"⟩, 6) := ⟨⟨by decide +kernel, by decide +kernel⟩, List.mem_of_getElem? (i := 20) (by decide +kernel), List.mem_of_getElem? (i := 339) (by decide +kernel), List.mem_of_getElem? (i := 340) (by decide +kernel)⟩
theorem lw_p20 : lw_okq (⟨"Groupbooks$Books", "profitOf", "(I)I"⟩, 7) := ⟨⟨by decide +kernel, by decide +kernel⟩, List.mem_of_getElem? (i := 47) (by decide +kernel), List.mem_of_getElem? (i := 347) (by decide +kernel), List.mem_of_getElem? (i := 348) (by decide +kernel)⟩
theorem lw_p21 : lw_okq (⟨"Groupbooks$Holdings", "partOfParent", "(II)I"⟩, 6) := ⟨⟨by decide +kernel, by decide +kernel⟩, List.mem_of_getElem? (i := 20) (by decide +kernel), List.mem_of_getElem? (i := 351) (by decide +kernel), List.mem_of_getElem? (i := 352) (by decide +kernel)⟩
theorem lw_p22 : lw_okq (⟨"Groupbooks$Books", "carryResults", "()V"⟩, 7) := ⟨⟨by decide +kernel, by decide +kernel⟩, List.mem_of_getElem? (i := 47) (by decide +kernel), List.mem_of_getElem? (i := 361) (by decide +kernel), List.mem_of_getElem? (i := 362) (by decide +kernel)⟩
theorem lw_p23 : lw_okq (⟨"Groupbooks$Balances", "disputed", "(II)I"⟩, 2) := ⟨⟨by decide +kernel, by decide +kernel⟩, List.mem_of_getElem? (i := 75) (by decide +kernel), List.mem_of_getElem? (i := 369) (by decide +kernel), List.mem_of_getElem? (i := 370) (by decide +kernel)⟩
theorem lw_p24 : lw_okq (⟨"Groupbooks$Books", "enter", "(IIIII)V"⟩, 7) := ⟨⟨by decide +kernel, by decide +kernel⟩, List.mem_of_getElem? (i := 47) (by decide +kernel), List.mem_of_getElem? (i := 387) (by decide +kernel), List.mem_of_getElem? (i := 388) (by decide +kernel)⟩
theorem lw_p25 : lw_okq (⟨"Groupbooks$Holdings", "numeratorOf", "(I)J"⟩, 6) := ⟨⟨by decide +kernel, by decide +kernel⟩, List.mem_of_getElem? (i := 20) (by decide +kernel), List.mem_of_getElem? (i := 398) (by decide +kernel), List.mem_of_getElem? (i := 399) (by decide +kernel)⟩
theorem lw_p26 : lw_okq (⟨"Groupbooks$Holdings", "denominatorOf", "(I)J"⟩, 6) := ⟨⟨by decide +kernel, by decide +kernel⟩, List.mem_of_getElem? (i := 20) (by decide +kernel), List.mem_of_getElem? (i := 406) (by decide +kernel), List.mem_of_getElem? (i := 407) (by decide +kernel)⟩
theorem lw_p27 : lw_okq (⟨"Groupbooks$Books", "equityOf", "(I)I"⟩, 7) := ⟨⟨by decide +kernel, by decide +kernel⟩, List.mem_of_getElem? (i := 47) (by decide +kernel), List.mem_of_getElem? (i := 449) (by decide +kernel), List.mem_of_getElem? (i := 450) (by decide +kernel)⟩
theorem lw_p28 : lw_okq (⟨"Groupbooks", "minorityAmong", "(II)I"⟩, 6) := ⟨⟨by decide +kernel, by decide +kernel⟩, List.mem_of_getElem? (i := 12) (by decide +kernel), List.mem_of_getElem? (i := 465) (by decide +kernel), List.mem_of_getElem? (i := 466) (by decide +kernel)⟩
theorem lw_p29 : lw_okq (⟨"Groupbooks$Holdings", "partOfOthers", "(II)I"⟩, 6) := ⟨⟨by decide +kernel, by decide +kernel⟩, List.mem_of_getElem? (i := 20) (by decide +kernel), List.mem_of_getElem? (i := 469) (by decide +kernel), List.mem_of_getElem? (i := 470) (by decide +kernel)⟩
theorem lw_p30 : lw_okq (⟨"Groupbooks$Balances", "agreedAmong", "(I)I"⟩, 2) := ⟨⟨by decide +kernel, by decide +kernel⟩, List.mem_of_getElem? (i := 75) (by decide +kernel), List.mem_of_getElem? (i := 490) (by decide +kernel), List.mem_of_getElem? (i := 491) (by decide +kernel)⟩
def lw_privs_2 : List (MethodName × Nat) := [(⟨"Groupbooks$Balances", "replaceAdmitted", "(III)I"⟩, 2), (⟨"Groupbooks$Holdings", "members", "()I"⟩, 6), (⟨"Groupbooks$Holdings", "withControlled", "(I)I"⟩, 6), (⟨"Groupbooks$Holdings", "heldAmong", "(II)I"⟩, 6), (⟨"Groupbooks$Books", "profitOf", "(I)I"⟩, 7), (⟨"Groupbooks$Holdings", "partOfParent", "(II)I"⟩, 6), (⟨"Groupbooks$Books", "carryResults", "()V"⟩, 7), (⟨"Groupbooks$Balances", "disputed", "(II)I"⟩, 2), (⟨"Groupbooks$Books", "enter", "(IIIII)V"⟩, 7), (⟨"Groupbooks$Holdings", "numeratorOf", "(I)J"⟩, 6), (⟨"Groupbooks$Holdings", "denominatorOf", "(I)J"⟩, 6), (⟨"Groupbooks$Books", "equityOf", "(I)I"⟩, 7), (⟨"Groupbooks", "minorityAmong", "(II)I"⟩, 6), (⟨"Groupbooks$Holdings", "partOfOthers", "(II)I"⟩, 6), (⟨"Groupbooks$Balances", "agreedAmong", "(I)I"⟩, 2)]
theorem lw_r2 : ∀ q ∈ lw_privs_2, lw_okq q := List.forall_mem_cons.mpr ⟨lw_p16, List.forall_mem_cons.mpr ⟨lw_p17, List.forall_mem_cons.mpr ⟨lw_p18, List.forall_mem_cons.mpr ⟨lw_p19, List.forall_mem_cons.mpr ⟨lw_p20, List.forall_mem_cons.mpr ⟨lw_p21, List.forall_mem_cons.mpr ⟨lw_p22, List.forall_mem_cons.mpr ⟨lw_p23, List.forall_mem_cons.mpr ⟨lw_p24, List.forall_mem_cons.mpr ⟨lw_p25, List.forall_mem_cons.mpr ⟨lw_p26, List.forall_mem_cons.mpr ⟨lw_p27, List.forall_mem_cons.mpr ⟨lw_p28, List.forall_mem_cons.mpr ⟨lw_p29, List.forall_mem_cons.mpr ⟨lw_p30, fun _ h => absurd h List.not_mem_nil⟩⟩⟩⟩⟩⟩⟩⟩⟩⟩⟩⟩⟩⟩⟩
def lw_privs : List (MethodName × Nat) := lw_privs_1 ++ (lw_privs_2)
def lw_tbl : List Cond := k2_sels lw_privs ++ tables_1
theorem lw_privs_ok : ∀ q ∈ lw_privs, lw_okq q := by
  show ∀ q ∈ lw_privs_1 ++ (lw_privs_2), lw_okq q
  exact List.forall_mem_append.mpr ⟨lw_r1, lw_r2⟩
end
section
/-! ===== BEGIN words of one list among another's, by their places ===== -/
theorem goodIn_r {big : List Cond} (ws : List Cond) (ps : List Nat) (hp : ws = ps.filterMap (fun i => big[i]?)) (h : ws.all goodWord = true) : GoodIn big ws := by
  intro w hw
  have h1 := List.all_eq_true.mp h w hw
  rw [hp] at hw
  obtain ⟨i, -, hi⟩ := List.mem_filterMap.mp hw
  have hm : w ∈ big := by first | exact List.mem_of_getElem? hi | exact List.getElem?_mem hi
  exact ⟨hm, good_of_word h1⟩
theorem goodIn_app {big a b : List Cond} (ha : GoodIn big a) (hb : GoodIn big b) : GoodIn big (a ++ b) := fun w h => (List.mem_append.mp h).elim (ha w) (hb w)
theorem goodIn_ca {big a b : List Cond} {c : Cond} (ha : GoodIn big (c :: a)) (hb : GoodIn big b) : GoodIn big (c :: (a ++ b)) := fun w h => (List.mem_cons.mp h).elim (fun e => ha w (List.mem_cons.mpr (Or.inl e))) (fun h => (List.mem_append.mp h).elim (fun h => ha w (List.mem_cons.mpr (Or.inr h))) (hb w))
theorem goodIn_sub {big ws : List Cond} (hm : ∀ w ∈ ws, w ∈ big) (h : ws.all goodWord = true) : GoodIn big ws := fun w hw => ⟨hm w hw, good_of_word (List.all_eq_true.mp h w hw)⟩
/-! ===== END ===== -/

/-! ===== BEGIN exceptions that leave a method, and their catching by the caller (launches without stack traces) ===== -/
section VXA
/-! The laws vx_back, vx_callV, vx_callS, vx_callSW, vx_throw0, vx_throwS follow proofs of the library, with one case more: JvmDerived/Free/Laws.lean (Back.of_free), Shelf42/LK1.lean (callV, callS), Shelf/KitTraced.lean (throwNew0V, throwNewS). -/
/-- where a method has thrown q: the class by its name, the cell, what was written, the world -/
def vx_T (XC : String → State → State → Prop) (st : State) (q : Addr) (t : State) (mc ms : Nat) (free : Addr → Prop) : Prop :=
  ∃ (E : String) (ce : Cell) (L : List Loc), XC E st t ∧ t.heap[q]? = some ce ∧ ce.vm = .none ∧ st.vm.findClass E = some ce.cls ∧ st.WarmedH t.vm ∧ st.sameButNew ({ t with vm := st.vm } : State) L mc ms ∧ ∀ z ∈ L, free z.base
def vx_Q (Qc : Array Value → State → Outcome → State → Prop) (XC : String → State → State → Prop) (mc ms : Nat) (free : Addr → Prop) : Array Value → State → Outcome → State → Prop := fun a st o t =>
  (Qc a st o t ∧ ∃ L, FrameEnd st o t L mc ms ∧ ∀ q ∈ L, free q.base) ∨ ∃ q, o = .threw q ∧ vx_T XC st q t mc ms free
/-- a callee that returns or throws -/
def vx_Met (l : Launch) (y : MethodName) (ws : List Cond) (rm : Room) (Pc : Array Value → State → Prop) (Qc : Array Value → State → Outcome → State → Prop) (XC : String → State → State → Prop) (mc ms : Nat) (free : Addr → Prop) : Prop :=
  MetFree l y (headSpec ws rm) Pc (fun _ _ _ _ _ => True) (vx_Q Qc XC mc ms free)
def vx_Post (XC : String → State → State → Prop) (mc ms : Nat) (free : Addr → Prop) : Pt → Array Value → Addr → Pt → Prop := fun A a q B =>
  ∃ (g : JFrame) (mk : MethodId) (t : State) (L : List Loc) (E : String) (ce : Cell), B.U.heap = t.heap ∧ B.U.vm = t.vm ∧ XC E (A.U.calling g mk a) t ∧ t.heap[q]? = some ce ∧ ce.vm = .none ∧ A.U.vm.findClass E = some ce.cls ∧ B.locs = A.locs ++ L ∧ (∀ z ∈ L, free z.base) ∧ B.cells = A.cells + mc ∧ B.slots = A.slots + ms
def vx_Back (l : Launch) (R : Room) (p : Program) (e : Env) (below : List Frame) (s : State) (sargs : Array Value) (y : MethodName) (len W9 : Nat)
    (Pre : Pt → Array Value → Prop) (Post : Pt → Array Value → Option Value → Pt → Prop) (PostX : Pt → Array Value → Addr → Pt → Prop) : Prop :=
  ∀ (m : MethodId) (meth : Method) (c : Code) (A : Pt) (g : JFrame) (ig : Instr) (mk : MethodId) (a : Array Value),
    Stand p l e R s m sargs below meth c A.U A.locs A.cells A.slots → g.method = m → g.locals.size = c.maxLocals → decode c.code g.pc = .ok (ig, len) →
    2 * g.monitorRoom + (g.stack.map fun v => v.category).sum ≤ W9 → A.U.methodNamed? y = some mk → Pre A a →
    (∃ (v : Option Value) (B : Pt), Stand p l e R s m sargs below meth c B.U B.locs B.cells B.slots ∧ Post A a v B ∧
      Steps p.tables e below (doInvoke e (A.U.setTop g) [] mk a).1 (B.U.setTop { g with pc := g.pc + len, stack := v.toList ++ g.stack })) ∨
    (∃ (q : Addr) (B : Pt), Stand p l e R s m sargs below meth c B.U B.locs B.cells B.slots ∧ PostX A a q B ∧
      Steps p.tables e below (doInvoke e (A.U.setTop g) [] mk a).1 ((B.U.setTop g).pushFrame (.throwing q)))
section Payer
variable {l : Launch} {R : Room} {p : Program} {e : Env} {below : List Frame} {s : State} {sargs : Array Value} {y : MethodName} {len W9 : Nat}
theorem vx_back {ws : List Cond} {rm : Room} {Pc : Array Value → State → Prop} {Qc : Array Value → State → Outcome → State → Prop} {XC : String → State → State → Prop} {mc ms : Nat} {free : Addr → Prop} {bytes : ByteArray} {maxL : Nat} {ret : Option FieldType}
    (hM : vx_Met l y ws rm Pc Qc XC mc ms free) (hblind : FrameBlind Pc) (hrc : rm.cells = mc) (hrs : rm.slots = ms)
    (hframes : rm.frames + 1 ≤ R.frames) (hlocals : W9 + (maxL + 11) + rm.locals ≤ R.locals)
    (hws : ∀ w ∈ ws, ∀ a' U, s.WarmedH U.vm → w.before a' U = true) (hcode : Cond.code y bytes maxL ret ∈ ws) (hinit : ∀ a' U, s.WarmedH U.vm → (Cond.initialized y.cls).before a' U = true) :
    vx_Back l R p e below s sargs y len W9 (PreOf R mc ms Pc) (PostOf Qc mc ms free) (vx_Post XC mc ms free) := by
  intro m meth c A g ig mk a X hg hsize hdg hW hn hp
  have h1 : (headSpec ws rm).pre.before a A.U = true := atoms_intro fun w hw => hws w hw _ _ X.warmed
  have h2 : (Cond.code y bytes maxL ret).before a A.U = true := hws _ hcode _ _ X.warmed
  have h3 : (Cond.initialized y.cls).before a A.U = true := hinit _ _ X.warmed
  have h4 : A.cells + (headSpec ws rm).room.cells ≤ R.cells := by rw [show (headSpec ws rm).room.cells = mc from hrc]; exact hp.1
  have h5 : A.slots + (headSpec ws rm).room.slots ≤ R.slots := by rw [show (headSpec ws rm).room.slots = ms from hrs]; exact hp.2.1
  have hPc : Pc a (A.U.calling g mk a) := hblind _ _ _ _ hp.2.2
  obtain ⟨U, Ls, c0, s0⟩ := A
  dsimp only [Pt.U, Pt.locs, Pt.cells, Pt.slots] at h1 h2 h3 h4 h5 X hn hPc ⊢
  obtain ⟨methY, cY, hmY, hcY, -, hlY, -, -, -, -⟩ := Cond.code_spec hn h2
  obtain ⟨kY, hkY, -⟩ := className_of_methodNamed hn
  have hinitY : kY.init = .initialized := Cond.initialized_spec (findClass_of_methodNamed hn) hkY h3
  have h : At U g.method c below := by rw [hg]; exact X.here
  have hlocals9 : W9 + (maxL + 11) + (headSpec ws rm).room.locals ≤ R.locals := hlocals
  have happ : (headSpec ws rm).appliesLoose y e.platform (U.calling g mk a) = true :=
    Spec.appliesLoose_calling (g := g) h hdg hn hkY hinitY
      (X.room_calling (g := g) (R' := (headSpec ws rm).room) hsize hmY hcY hframes (by rw [hlY]; omega) h4 h5) h1
  obtain ⟨mid, hmid⟩ := h.above
  have hfr : (U.setTop g).frames = (.java g :: mid) ++ below := by rw [State.frames_setTop' g h.top, hmid]; rfl
  obtain ⟨o, s₂, hsteps, -, hend, hq⟩ := Steps.callFree hM p X.admits X.cas X.clock (acts := []) hfr happ hPc trivial
  have hq' : vx_Q Qc XC mc ms free a (U.calling g mk a) o s₂ := hq
  rw [State.frames_setTop' g h.top] at hend
  obtain ⟨g₀, hg0⟩ := Option.isSome_iff_exists.mp h.top
  obtain ⟨r, hr⟩ := State.topJava?_eq_some.mp hg0
  have hr' : (({ U with heap := s₂.heap, slotsUsed := s₂.slotsUsed } : State).setVm s₂.vm).frames = .java g₀ :: r := hr
  rcases hq' with ⟨hqc, L, hfe, hL⟩ | ⟨q, rfl, E, ce, L, hx, hce, hcv, hcl, hW₂, hsm, hL⟩
  · obtain ⟨⟨v, rfl⟩, hW₂, e2, q2, q3, q4, q5, q6⟩ := id hfe
    have e3 : s₂ = ({ (U.calling g mk a).setFrames s₂.frames with heap := s₂.heap, slotsUsed := s₂.slotsUsed } : State).setVm s₂.vm := by
      have : s₂ = ({ s₂ with vm := (U.calling g mk a).vm } : State).setVm s₂.vm := rfl
      rw [e2] at this
      exact this
    obtain ⟨c₂, i₂, len₂, hc₂, hd₂, hf₂⟩ := hend
    have hW' : U.WarmedH s₂.vm := hW₂
    have hcc : c₂ = c := by
      have h1 : s₂.code? g.method = U.code? g.method := by
        rw [State.code?_eq, State.code?_eq, hW'.alike.method?]
      exact Option.some.inj (hc₂.symm.trans (h1.trans h.code))
    subst hcc
    have hlen : len₂ = len := by rw [hdg] at hd₂; cases hd₂; rfl
    subst hlen
    have hs₂ : s₂ = (({ U with heap := s₂.heap, slotsUsed := s₂.slotsUsed } : State).setVm s₂.vm).setTop { g with pc := g.pc + len₂, stack := v.toList ++ g.stack } := by
      refine e3.trans ?_
      rw [hf₂, State.calling_eq h.top, State.setFrames_setFrames, State.setTop_of_frames _ hr', hr]
      rfl
    have hsame : U.sameButNew ({ U with heap := s₂.heap, slotsUsed := s₂.slotsUsed } : State) L mc ms := by
      refine ⟨?_, q2, q3, q4, q5, q6⟩
      obtain ⟨t, ht, -⟩ := State.frames_cons hr
      show ({ U with heap := s₂.heap, slotsUsed := s₂.slotsUsed } : State) = { U.setFrames U.frames with heap := s₂.heap, slotsUsed := s₂.slotsUsed }
      rw [State.setFrames_self ht]
    subst hg
    refine Or.inl ⟨v, ⟨(({ U with heap := s₂.heap, slotsUsed := s₂.slotsUsed } : State).setVm s₂.vm), Ls ++ L, c0 + mc, s0 + ms⟩,
      ⟨X.admits, X.cas, X.clock, X.frames, X.room, X.hears, X.method, X.code, (X.here.setHeapUsed s₂.heap s₂.slotsUsed).setVm hW'.alike, X.tail, State.WarmedH.trans X.warmed hW', X.limits, X.bytes, X.same.trans (hsame.setVm s.vm)⟩,
      ⟨g, mk, s₂, L, rfl, rfl, hqc, rfl, hL, rfl, rfl⟩, ?_⟩
    show Steps p.tables e below _ ((({ U with heap := s₂.heap, slotsUsed := s₂.slotsUsed } : State).setVm s₂.vm).setTop { g with pc := g.pc + len₂, stack := v.toList ++ g.stack })
    rw [← hs₂]
    exact hsteps
  · obtain ⟨e2, q2, q3, q4, q5, q6⟩ := id hsm
    have e3 : s₂ = ({ (U.calling g mk a).setFrames s₂.frames with heap := s₂.heap, slotsUsed := s₂.slotsUsed } : State).setVm s₂.vm := by
      have : s₂ = ({ s₂ with vm := (U.calling g mk a).vm } : State).setVm s₂.vm := rfl
      rw [e2] at this
      exact this
    have hf₂ : s₂.frames = .throwing q :: .java g :: U.frames.tail := hend
    have hW' : U.WarmedH s₂.vm := hW₂
    have hs₂ : s₂ = ((({ U with heap := s₂.heap, slotsUsed := s₂.slotsUsed } : State).setVm s₂.vm).setTop g).pushFrame (.throwing q) := by
      refine e3.trans ?_
      rw [hf₂, State.calling_eq h.top, State.setFrames_setFrames, State.pushFrame, State.frames_setTop _ hr', State.setTop_of_frames _ hr', State.setFrames_setFrames, hr]
      rfl
    have hsame : U.sameButNew ({ U with heap := s₂.heap, slotsUsed := s₂.slotsUsed } : State) L mc ms := by
      refine ⟨?_, q2, q3, q4, q5, q6⟩
      obtain ⟨t, ht, -⟩ := State.frames_cons hr
      show ({ U with heap := s₂.heap, slotsUsed := s₂.slotsUsed } : State) = { U.setFrames U.frames with heap := s₂.heap, slotsUsed := s₂.slotsUsed }
      rw [State.setFrames_self ht]
    subst hg
    refine Or.inr ⟨q, ⟨(({ U with heap := s₂.heap, slotsUsed := s₂.slotsUsed } : State).setVm s₂.vm), Ls ++ L, c0 + mc, s0 + ms⟩,
      ⟨X.admits, X.cas, X.clock, X.frames, X.room, X.hears, X.method, X.code, (X.here.setHeapUsed s₂.heap s₂.slotsUsed).setVm hW'.alike, X.tail, State.WarmedH.trans X.warmed hW', X.limits, X.bytes, X.same.trans (hsame.setVm s.vm)⟩,
      ⟨g, mk, s₂, L, E, ce, rfl, rfl, hx, hce, hcv, hcl, rfl, hL, rfl, rfl⟩, ?_⟩
    show Steps p.tables e below _ (((({ U with heap := s₂.heap, slotsUsed := s₂.slotsUsed } : State).setVm s₂.vm).setTop g).pushFrame (.throwing q))
    rw [← hs₂]
    exact hsteps
end Payer
section Calls
variable {p : Program} {l : Launch} {e : Env} {R : Room} {s : State} {m : MethodId} {args : Array Value} {below : List Frame} {meth : Method} {c : Code} {T : State} {locs : List Loc} {cells slots : Nat}
theorem vx_callV (X : Stand p l e R s m args below meth c T locs cells slots) (hexec : p.tables.exec = Jvm.exec) {own C : String} {index : Nat} {y : MethodName} {bytes : ByteArray} {maxL : Nat} {ret : Option FieldType}
    (hown : s.vm.findClass own = some m.cls) (hlink : (Cond.methodLink own index y).before args s = true) (hinst : (Cond.instanceMethod y).before args s = true) (hsel : (Cond.selects C y y).before args s = true)
    (hcode : (Cond.code y bytes maxL ret).before args s = true) (hy : y.cls ≠ "java/lang/invoke/MethodHandle" ∧ y.cls ≠ "java/lang/invoke/VarHandle")
    {W9 : Nat} {Pre : Pt → Array Value → Prop} {Post : Pt → Array Value → Option Value → Pt → Prop} {PostX : Pt → Array Value → Addr → Pt → Prop} (hK : vx_Back l R p e below s args y 3 W9 Pre Post PostX)
    {b : Addr} {cellB : Cell} (hcell : T.heap[b]? = some cellB) (hobj : cellB.vm.isStatics = false) (hcls : s.vm.findClass C = some cellB.cls)
    {g : JFrame} (hg : g.method = m) (hsize : g.locals.size = c.maxLocals) {argsL rest : List Value} (hlen : ∀ sig, parseMethodDescriptor y.desc = some sig → argsL.length = sig.parameters.length)
    (hstack : g.stack = argsL.reverse ++ .ref b :: rest) (hW : 2 * g.monitorRoom + (rest.map fun v => v.category).sum ≤ W9) (hdg : decode c.code g.pc = .ok (.invokevirtual index, 3))
    (hpre : ∀ vm₁, s.WarmedH vm₁ → Pre ⟨T.setVm vm₁, locs, cells, slots⟩ (Value.ref b :: argsL).toArray) :
    (∃ (v : Option Value) (vm₁ : Vm) (B : Pt), s.WarmedH vm₁ ∧ Stand p l e R s m args below meth c B.U B.locs B.cells B.slots ∧ Post ⟨T.setVm vm₁, locs, cells, slots⟩ (Value.ref b :: argsL).toArray v B ∧
      ∀ target, Steps p.tables e below (B.U.setTop { g with pc := g.pc + 3, stack := v.toList ++ rest }) target → Steps p.tables e below (T.setTop g) target) ∨
    (∃ (q : Addr) (vm₁ : Vm) (B : Pt), s.WarmedH vm₁ ∧ Stand p l e R s m args below meth c B.U B.locs B.cells B.slots ∧ PostX ⟨T.setVm vm₁, locs, cells, slots⟩ (Value.ref b :: argsL).toArray q B ∧
      Steps p.tables e below (T.setTop g) ((B.U.setTop { g with stack := rest }).pushFrame (.throwing q))) := by
  obtain ⟨mk, methM, hnamed, hmethM, hstM, habM⟩ := Cond.instanceMethod_spec hinst
  obtain ⟨methM', cM, hmethM', -, -, -, -, -, -, hsigM⟩ := Cond.code_spec hnamed hcode
  cases hmethM.symm.trans hmethM'
  obtain ⟨c2, r2, m2, q1, q2, q3, q4, kP, hkP, hkPi⟩ := Cond.selects_spec hsel
  cases hcls.symm.trans q1
  cases (State.methodFound?_of_named hnamed hy).symm.trans q2
  cases hnamed.symm.trans q3
  have hselP : selectMethod e.platform s.vm cellB.cls mk = .method mk := by rw [Launch.admits_selectMethod X.admits]; exact q4
  obtain ⟨vm₁, X₁, hstep₁⟩ := X.invokevirtual hexec hown hlink hnamed hmethM hstM hkP hkPi hy (a := b) (cell := cellB) hcell
    (fun z h => by rw [h] at hobj; cases hobj) hselP hmethM habM hkP hkPi (g := g) hg (argsL := argsL) (rest := rest) (hlen _ hsigM) hstack hdg
  rcases hK m meth c ⟨T.setVm vm₁, locs, cells, slots⟩ { g with stack := rest } (.invokevirtual index) mk (Value.ref b :: argsL).toArray X₁ hg hsize hdg hW (X₁.named hnamed) (hpre vm₁ X₁.warmed) with ⟨v, B, X', hpost, hsteps⟩ | ⟨q, B, X', hpost, hsteps⟩
  · exact Or.inl ⟨v, vm₁, B, X₁.warmed, X', hpost, fun target h => hstep₁ _ fun acts => by rw [doInvoke_state]; exact hsteps.trans h⟩
  · exact Or.inr ⟨q, vm₁, B, X₁.warmed, X', hpost, hstep₁ _ fun acts => by rw [doInvoke_state]; exact hsteps⟩
theorem vx_callS (X : Stand p l e R s m args below meth c T locs cells slots) (hexec : p.tables.exec = Jvm.exec) {own : String} {index : Nat} {y : MethodName} {bytes : ByteArray} {maxL : Nat} {ret : Option FieldType}
    (hown : s.vm.findClass own = some m.cls) (hlink : (Cond.methodLink own index y).before args s = true) (hstat : (Cond.static y).before args s = true) (hinit : (Cond.initialized y.cls).before args s = true)
    (hcode : (Cond.code y bytes maxL ret).before args s = true) (hy : y.cls ≠ "java/lang/invoke/MethodHandle" ∧ y.cls ≠ "java/lang/invoke/VarHandle")
    {W9 : Nat} {Pre : Pt → Array Value → Prop} {Post : Pt → Array Value → Option Value → Pt → Prop} {PostX : Pt → Array Value → Addr → Pt → Prop} (hK : vx_Back l R p e below s args y 3 W9 Pre Post PostX)
    {g : JFrame} (hg : g.method = m) (hsize : g.locals.size = c.maxLocals) {argsL rest : List Value} (hlen : ∀ sig, parseMethodDescriptor y.desc = some sig → argsL.length = sig.parameters.length)
    (hstack : g.stack = argsL.reverse ++ rest) (hW : 2 * g.monitorRoom + (rest.map fun v => v.category).sum ≤ W9) (hdg : decode c.code g.pc = .ok (.invokestatic index, 3))
    (hpre : ∀ vm₁, s.WarmedH vm₁ → Pre ⟨T.setVm vm₁, locs, cells, slots⟩ argsL.toArray) :
    (∃ (v : Option Value) (vm₁ : Vm) (B : Pt), s.WarmedH vm₁ ∧ Stand p l e R s m args below meth c B.U B.locs B.cells B.slots ∧ Post ⟨T.setVm vm₁, locs, cells, slots⟩ argsL.toArray v B ∧
      ∀ target, Steps p.tables e below (B.U.setTop { g with pc := g.pc + 3, stack := v.toList ++ rest }) target → Steps p.tables e below (T.setTop g) target) ∨
    (∃ (q : Addr) (vm₁ : Vm) (B : Pt), s.WarmedH vm₁ ∧ Stand p l e R s m args below meth c B.U B.locs B.cells B.slots ∧ PostX ⟨T.setVm vm₁, locs, cells, slots⟩ argsL.toArray q B ∧
      Steps p.tables e below (T.setTop g) ((B.U.setTop { g with stack := rest }).pushFrame (.throwing q))) := by
  obtain ⟨mk, hnamed⟩ := Cond.code_named hcode
  obtain ⟨methM, cM, hmethM, -, -, -, -, -, -, hsigM⟩ := Cond.code_spec hnamed hcode
  have hstatic : methM.isStatic = true := Cond.static_spec hnamed hmethM hstat
  obtain ⟨kP, hkP, -⟩ := className_of_methodNamed hnamed
  have hinitP : kP.init = .initialized := Cond.initialized_spec (findClass_of_methodNamed hnamed) hkP hinit
  obtain ⟨vm₁, X₁, hstep₁⟩ := X.invokestatic hexec hown hlink hnamed hmethM hstatic hkP hinitP hy (g := g) hg (argsL := argsL) (rest := rest) (hlen _ hsigM) hstack hdg
  rcases hK m meth c ⟨T.setVm vm₁, locs, cells, slots⟩ { g with stack := rest } (.invokestatic index) mk argsL.toArray X₁ hg hsize hdg hW (X₁.named hnamed) (hpre vm₁ X₁.warmed) with ⟨v, B, X', hpost, hsteps⟩ | ⟨q, B, X', hpost, hsteps⟩
  · exact Or.inl ⟨v, vm₁, B, X₁.warmed, X', hpost, fun target h => hstep₁ _ fun acts => by rw [doInvoke_state]; exact hsteps.trans h⟩
  · exact Or.inr ⟨q, vm₁, B, X₁.warmed, X', hpost, hstep₁ _ fun acts => by rw [doInvoke_state]; exact hsteps⟩
end Calls
theorem vx_cls {s : State} {T : State} {vm₁ : Vm} {E : String} {k : ClassId} (hW : s.WarmedH vm₁) (h : (T.setVm vm₁).vm.findClass E = some k) : s.vm.findClass E = some k := by
  have h1 : vm₁.findClass E = some k := h
  rw [hW.alike.findClass] at h1
  exact h1
/-- the method's frame g, with q thrown over it -/
def vx_W (p : Program) (l : Launch) (e : Env) (R : Room) (s : State) (m : MethodId) (args : Array Value) (below : List Frame) (meth : Method) (c : Code) (H : Heap) (locs : List Loc) (cells slots : Nat) (Q : State → Prop) (g : JFrame) (q : Addr) : Prop :=
  ∀ T : State, T.heap = H → Stand p l e R s m args below meth c T locs cells slots → ∃ t, Steps p.tables e below ((T.setTop g).pushFrame (.throwing q)) t ∧ Q t
def vx_Run (p : Program) (l : Launch) (e : Env) (R : Room) (s : State) (m : MethodId) (args : Array Value) (below : List Frame) (meth : Method) (c : Code) (H : Heap) (locs : List Loc) (cells slots mc ms : Nat) (g : JFrame) (rest : List Value) (Qa : State → Outcome → State → Prop) (XC : String → State → State → Prop) (free : Addr → Prop) : Prop :=
  ∀ T : State, T.heap = H → Stand p l e R s m args below meth c T locs cells slots →
    (∃ (v : Option Value) (st₀ t T' : State) (L : List Loc), st₀.heap = H ∧ Stand p l e R s m args below meth c T' (locs ++ L) (cells + mc) (slots + ms) ∧ (∀ q ∈ L, free q.base) ∧ T'.heap = t.heap ∧ T'.vm = t.vm ∧ Qa st₀ (.returned v) t ∧
      Goes p e below T g T' { g with pc := g.pc + 3, stack := v.toList ++ rest }) ∨
    (∃ (q : Addr) (st₀ t T' : State) (L : List Loc) (E : String) (ce : Cell), st₀.heap = H ∧ Stand p l e R s m args below meth c T' (locs ++ L) (cells + mc) (slots + ms) ∧ (∀ z ∈ L, free z.base) ∧ T'.heap = t.heap ∧ T'.vm = t.vm ∧ XC E st₀ t ∧ t.heap[q]? = some ce ∧ ce.vm = .none ∧ s.vm.findClass E = some ce.cls ∧
      Steps p.tables e below (T.setTop g) ((T'.setTop { g with stack := rest }).pushFrame (.throwing q)))
def vx_X {S : Type} (px : S → Prop) (B : String → S → State → Prop) (A : Nat → Prop) : String → State → State → Prop := fun E st t => ∃ u : S, px u ∧ B E u t ∧ va_F A st t
section Runs
variable {p : Program} {l : Launch} {e : Env} {R : Room} {s : State} {m : MethodId} {args : Array Value} {below : List Frame} {meth : Method} {c : Code} {H : Heap} {locs : List Loc} {cells slots : Nat}
variable {y : MethodName} {bytes cc : ByteArray} {maxL nL mc ms n index : Nat} {ret : Option FieldType} {ws : List Cond} {rm : Room} {Pc : Array Value → State → Prop} {Qc : Array Value → State → Outcome → State → Prop} {XC : String → State → State → Prop} {free : Addr → Prop} {Ts : List Cond} {own C : String} {b : Addr} {As rest : List Value} {g : JFrame}
theorem vx_callBack (cb : CallB R s args own index y bytes maxL ret ws rm mc ms n) (hM : vx_Met l y ws rm Pc Qc XC mc ms free) (hbl : FrameBlind Pc) : vx_Back l R p e below s args y 3 8 (PreOf R mc ms Pc) (PostOf Qc mc ms free) (vx_Post XC mc ms free) := by
  obtain ⟨hrc, hrs, hfr, hlo, hws, hcw, -, hini, -⟩ := cb
  exact vx_back (bytes := bytes) (maxL := maxL) (ret := ret) hM hbl hrc hrs hfr hlo hws hcw (fun a' U hW => word_at hW (Or.inl (by first | rfl | simp [Cond.onTables, Cond.keeps, Cond.steady])) hini)
theorem vx_runV (S : CallFix p m c cc nL s args Ts own) (hM : vx_Met l y ws rm Pc Qc XC mc ms free) (cw : CallW R s args own C index y bytes maxL ret ws rm mc ms n) (hp : PreV s H C b Pc As)
    (hg : g.method = m) (hn : As.length = n) (hsize : g.locals.size = nL) (hstack : g.stack = As.reverse ++ .ref b :: rest) (hW : 2 * g.monitorRoom + (rest.map fun v => v.category).sum ≤ 8) (hdg : decode cc g.pc = .ok (.invokevirtual index, 3)) (hf : cells + mc ≤ R.cells ∧ slots + ms ≤ R.slots) :
    vx_Run p l e R s m args below meth c H locs cells slots mc ms g rest (Qc (Value.ref b :: As).toArray) XC free := by
  have hK : vx_Back l R p e below s args y 3 8 (PreOf R mc ms Pc) (PostOf Qc mc ms free) (vx_Post XC mc ms free) := vx_callBack cw.1 hM hp.1
  obtain ⟨⟨-, -, -, -, -, -, hcode, -, hy, hlen, hl⟩, hin, hse⟩ := cw
  obtain ⟨hx, hb, hml, ho, -⟩ := S
  obtain ⟨-, ⟨cellB, hcB, hoB, hclB⟩, hPc⟩ := hp
  intro T hT X
  rcases vx_callV X hx (C := C) (bytes := bytes) (maxL := maxL) (ret := ret) ho hl hin hse hcode hy hK (by rw [hT]; exact hcB) hoB hclB hg (hsize.trans hml.symm) (argsL := As) (rest := rest) (fun sig h => hn.trans (hlen sig h)) hstack hW (by rw [hb]; exact hdg)
    (fun vm₁ hW₁ => ⟨hf.1, hf.2, hPc (T.setVm vm₁) hT hW₁⟩) with ⟨v, vm₁, ⟨U', l2, c2, s2⟩, hW₁, X', ⟨g', mk, t, L, e1, e2, hq, h1, hL, h2, h3⟩, st⟩ | ⟨q, vm₁, ⟨U', l2, c2, s2⟩, hW₁, X', ⟨g', mk, t, L, E, ce, e1, e2, hq, hce, hcv, hcl, h1, hL, h2, h3⟩, st⟩
  · dsimp only [Pt.U, Pt.locs, Pt.cells, Pt.slots] at X' e1 e2 h1 h2 h3 st
    subst h1; subst h2; subst h3
    exact Or.inl ⟨v, (T.setVm vm₁).calling g' mk (Value.ref b :: As).toArray, t, U', L, hT, X', hL, e1, e2, hq, st⟩
  · dsimp only [Pt.U, Pt.locs, Pt.cells, Pt.slots] at X' e1 e2 h1 h2 h3 st hcl
    subst h1; subst h2; subst h3
    exact Or.inr ⟨q, (T.setVm vm₁).calling g' mk (Value.ref b :: As).toArray, t, U', L, E, ce, hT, X', hL, e1, e2, hq, hce, hcv, vx_cls hW₁ hcl, st⟩
theorem vx_runS (S : CallFix p m c cc nL s args Ts own) (hM : vx_Met l y ws rm Pc Qc XC mc ms free) (cw : CallB R s args own index y bytes maxL ret ws rm mc ms n ∧ (Cond.static y).before args s = true) (hp : PreS s H Pc As)
    (hg : g.method = m) (hn : As.length = n) (hsize : g.locals.size = nL) (hstack : g.stack = As.reverse ++ rest) (hW : 2 * g.monitorRoom + (rest.map fun v => v.category).sum ≤ 8) (hdg : decode cc g.pc = .ok (.invokestatic index, 3)) (hf : cells + mc ≤ R.cells ∧ slots + ms ≤ R.slots) :
    vx_Run p l e R s m args below meth c H locs cells slots mc ms g rest (Qc As.toArray) XC free := by
  have hK : vx_Back l R p e below s args y 3 8 (PreOf R mc ms Pc) (PostOf Qc mc ms free) (vx_Post XC mc ms free) := vx_callBack cw.1 hM hp.1
  obtain ⟨⟨-, -, -, -, -, -, hcode, hini, hy, hlen, hl⟩, hstt⟩ := cw
  obtain ⟨hx, hb, hml, ho, -⟩ := S
  intro T hT X
  rcases vx_callS X hx (bytes := bytes) (maxL := maxL) (ret := ret) ho hl hstt hini hcode hy hK hg (hsize.trans hml.symm) (argsL := As) (rest := rest) (fun sig h => hn.trans (hlen sig h)) hstack hW (by rw [hb]; exact hdg)
    (fun vm₁ hW₁ => ⟨hf.1, hf.2, hp.2 (T.setVm vm₁) hT hW₁⟩) with ⟨v, vm₁, ⟨U', l2, c2, s2⟩, hW₁, X', ⟨g', mk, t, L, e1, e2, hq, h1, hL, h2, h3⟩, st⟩ | ⟨q, vm₁, ⟨U', l2, c2, s2⟩, hW₁, X', ⟨g', mk, t, L, E, ce, e1, e2, hq, hce, hcv, hcl, h1, hL, h2, h3⟩, st⟩
  · dsimp only [Pt.U, Pt.locs, Pt.cells, Pt.slots] at X' e1 e2 h1 h2 h3 st
    subst h1; subst h2; subst h3
    exact Or.inl ⟨v, (T.setVm vm₁).calling g' mk As.toArray, t, U', L, hT, X', hL, e1, e2, hq, st⟩
  · dsimp only [Pt.U, Pt.locs, Pt.cells, Pt.slots] at X' e1 e2 h1 h2 h3 st hcl
    subst h1; subst h2; subst h3
    exact Or.inr ⟨q, (T.setVm vm₁).calling g' mk As.toArray, t, U', L, E, ce, hT, X', hL, e1, e2, hq, hce, hcv, vx_cls hW₁ hcl, st⟩
end Runs
section Rows
variable {p : Program} {l : Launch} {e : Env} {R : Room} {s : State} {m : MethodId} {args : Array Value} {below : List Frame} {meth : Method} {c : Code} {H : Heap} {locs : List Loc} {cells slots : Nat} {Q : State → Prop}
variable {mc ms : Nat} {free : Addr → Prop} {A0 A1 : Nat → Prop} {H0 : Heap} {a : Array Value} {pc : Nat} {ls : Array Slot} {st0 rest : List Value}
theorem vx_keep {st₀ t T' : State} {L : List Loc} (h0 : st₀.heap = H) (e1 : T'.heap = t.heap) (hS : va_S A0 H0 H locs) (hA : ∀ q, q < H.size → A1 q → A0 q) (hf : ∀ q, free q → A0 q) (hL : ∀ q ∈ L, free q.base) (hF : va_F A1 st₀ t) :
    H.size ≤ T'.heap.size ∧ (∀ q : Nat, q < H.size → ¬ A1 q → T'.heap[q]? = H[q]?) ∧ va_S A0 H0 T'.heap (locs ++ L) := by
  obtain ⟨hz, hk⟩ := hF
  rw [h0] at hz hk
  exact ⟨by rw [e1]; exact hz, fun q h1 h2 => by rw [e1]; exact hk q h1 h2,
    ⟨Nat.le_trans hS.1 (by rw [e1]; exact hz), fun q h1 h2 => by rw [e1, hk q (Nat.lt_of_lt_of_le h1 hS.1) (fun z => h2 (hA q (Nat.lt_of_lt_of_le h1 hS.1) z))]; exact hS.2.1 q h1 h2, fun q hq => by
      rcases List.mem_append.mp hq with h | h
      · exact hS.2.2 q h
      · exact hf _ (hL q h)⟩⟩
theorem vx_calli {S SX : Type} {post : Int32 → S → Prop} {px : SX → Prop} {B : S → State → Prop} {BX : String → SX → State → Prop} {AX : Nat → Prop} (hr : vx_Run p l e R s m args below meth c H locs cells slots mc ms (F0 m pc ls st0) rest (va_Qi post B A1 a) (vx_X px BX AX) free) (hS : va_S A0 H0 H locs) (hA : ∀ q, q < H.size → A1 q → A0 q) (hf : ∀ q, free q → A0 q) (hAX : ∀ q, q < H.size → AX q → A0 q)
    (kx : ∀ (E : String) (ce : Cell) (q9 : Addr) (u : SX) (t : State) (H1 : Heap) (locs1 : List Loc), t.heap = H1 → s.vm.Alike t.vm → px u → BX E u t → H.size ≤ H1.size → (∀ q : Nat, q < H.size → ¬ AX q → H1[q]? = H[q]?) → va_S A0 H0 H1 locs1 → H1[q9]? = some ce → ce.vm = .none → s.vm.findClass E = some ce.cls → vx_W p l e R s m args below meth c H1 locs1 (cells + mc) (slots + ms) Q (F0 m pc ls rest) q9)
    (kk : ∀ (r : Int32) (u : S) (t : State) (H1 : Heap) (locs1 : List Loc), t.heap = H1 → s.vm.Alike t.vm → post r u → B u t → H.size ≤ H1.size → (∀ q : Nat, q < H.size → ¬ A1 q → H1[q]? = H[q]?) → va_S A0 H0 H1 locs1 → W p l e R s m args below meth c H1 locs1 (cells + mc) (slots + ms) Q (F0 m (pc + 3) ls (.int r :: rest))) : W p l e R s m args below meth c H locs cells slots Q (F0 m pc ls st0) := by
  intro T hT X
  rcases hr T hT X with ⟨v, st₀, t, T', L, h0, X', hL, e1, e2, ⟨⟨r, u, hv, hp, hb⟩, hF⟩, st⟩ | ⟨q, st₀, t, T', L, E, ce, h0, X', hL, e1, e2, ⟨u, hp, hb, hF⟩, hce, hcv, hcl, st⟩
  · cases hv
    obtain ⟨k1, k2, k3⟩ := vx_keep h0 e1 hS hA hf hL hF
    obtain ⟨t2, a1, b1⟩ := kk r u t T'.heap (locs ++ L) e1.symm (by rw [← e2]; exact X'.warmed.alike) hp hb k1 k2 k3 T' rfl X'
    exact ⟨t2, st t2 a1, b1⟩
  · obtain ⟨k1, k2, k3⟩ := vx_keep h0 e1 hS hAX hf hL hF
    obtain ⟨t2, a1, b1⟩ := kx E ce q u t T'.heap (locs ++ L) e1.symm (by rw [← e2]; exact X'.warmed.alike) hp hb k1 k2 k3 (by rw [e1]; exact hce) hcv hcl T' rfl X'
    exact ⟨t2, st.trans a1, b1⟩
theorem vx_calll {S SX : Type} {post : Int64 → S → Prop} {px : SX → Prop} {B : S → State → Prop} {BX : String → SX → State → Prop} {AX : Nat → Prop} (hr : vx_Run p l e R s m args below meth c H locs cells slots mc ms (F0 m pc ls st0) rest (va_Ql post B A1 a) (vx_X px BX AX) free) (hS : va_S A0 H0 H locs) (hA : ∀ q, q < H.size → A1 q → A0 q) (hf : ∀ q, free q → A0 q) (hAX : ∀ q, q < H.size → AX q → A0 q)
    (kx : ∀ (E : String) (ce : Cell) (q9 : Addr) (u : SX) (t : State) (H1 : Heap) (locs1 : List Loc), t.heap = H1 → s.vm.Alike t.vm → px u → BX E u t → H.size ≤ H1.size → (∀ q : Nat, q < H.size → ¬ AX q → H1[q]? = H[q]?) → va_S A0 H0 H1 locs1 → H1[q9]? = some ce → ce.vm = .none → s.vm.findClass E = some ce.cls → vx_W p l e R s m args below meth c H1 locs1 (cells + mc) (slots + ms) Q (F0 m pc ls rest) q9)
    (kk : ∀ (r : Int64) (u : S) (t : State) (H1 : Heap) (locs1 : List Loc), t.heap = H1 → s.vm.Alike t.vm → post r u → B u t → H.size ≤ H1.size → (∀ q : Nat, q < H.size → ¬ A1 q → H1[q]? = H[q]?) → va_S A0 H0 H1 locs1 → W p l e R s m args below meth c H1 locs1 (cells + mc) (slots + ms) Q (F0 m (pc + 3) ls (.long r :: rest))) : W p l e R s m args below meth c H locs cells slots Q (F0 m pc ls st0) := by
  intro T hT X
  rcases hr T hT X with ⟨v, st₀, t, T', L, h0, X', hL, e1, e2, ⟨⟨r, u, hv, hp, hb⟩, hF⟩, st⟩ | ⟨q, st₀, t, T', L, E, ce, h0, X', hL, e1, e2, ⟨u, hp, hb, hF⟩, hce, hcv, hcl, st⟩
  · cases hv
    obtain ⟨k1, k2, k3⟩ := vx_keep h0 e1 hS hA hf hL hF
    obtain ⟨t2, a1, b1⟩ := kk r u t T'.heap (locs ++ L) e1.symm (by rw [← e2]; exact X'.warmed.alike) hp hb k1 k2 k3 T' rfl X'
    exact ⟨t2, st t2 a1, b1⟩
  · obtain ⟨k1, k2, k3⟩ := vx_keep h0 e1 hS hAX hf hL hF
    obtain ⟨t2, a1, b1⟩ := kx E ce q u t T'.heap (locs ++ L) e1.symm (by rw [← e2]; exact X'.warmed.alike) hp hb k1 k2 k3 (by rw [e1]; exact hce) hcv hcl T' rfl X'
    exact ⟨t2, st.trans a1, b1⟩
theorem vx_callf {S SX : Type} {post : UInt32 → S → Prop} {px : SX → Prop} {B : S → State → Prop} {BX : String → SX → State → Prop} {AX : Nat → Prop} (hr : vx_Run p l e R s m args below meth c H locs cells slots mc ms (F0 m pc ls st0) rest (va_Qf post B A1 a) (vx_X px BX AX) free) (hS : va_S A0 H0 H locs) (hA : ∀ q, q < H.size → A1 q → A0 q) (hf : ∀ q, free q → A0 q) (hAX : ∀ q, q < H.size → AX q → A0 q)
    (kx : ∀ (E : String) (ce : Cell) (q9 : Addr) (u : SX) (t : State) (H1 : Heap) (locs1 : List Loc), t.heap = H1 → s.vm.Alike t.vm → px u → BX E u t → H.size ≤ H1.size → (∀ q : Nat, q < H.size → ¬ AX q → H1[q]? = H[q]?) → va_S A0 H0 H1 locs1 → H1[q9]? = some ce → ce.vm = .none → s.vm.findClass E = some ce.cls → vx_W p l e R s m args below meth c H1 locs1 (cells + mc) (slots + ms) Q (F0 m pc ls rest) q9)
    (kk : ∀ (r : UInt32) (u : S) (t : State) (H1 : Heap) (locs1 : List Loc), t.heap = H1 → s.vm.Alike t.vm → post r u → B u t → H.size ≤ H1.size → (∀ q : Nat, q < H.size → ¬ A1 q → H1[q]? = H[q]?) → va_S A0 H0 H1 locs1 → W p l e R s m args below meth c H1 locs1 (cells + mc) (slots + ms) Q (F0 m (pc + 3) ls (.float r :: rest))) : W p l e R s m args below meth c H locs cells slots Q (F0 m pc ls st0) := by
  intro T hT X
  rcases hr T hT X with ⟨v, st₀, t, T', L, h0, X', hL, e1, e2, ⟨⟨r, u, hv, hp, hb⟩, hF⟩, st⟩ | ⟨q, st₀, t, T', L, E, ce, h0, X', hL, e1, e2, ⟨u, hp, hb, hF⟩, hce, hcv, hcl, st⟩
  · cases hv
    obtain ⟨k1, k2, k3⟩ := vx_keep h0 e1 hS hA hf hL hF
    obtain ⟨t2, a1, b1⟩ := kk r u t T'.heap (locs ++ L) e1.symm (by rw [← e2]; exact X'.warmed.alike) hp hb k1 k2 k3 T' rfl X'
    exact ⟨t2, st t2 a1, b1⟩
  · obtain ⟨k1, k2, k3⟩ := vx_keep h0 e1 hS hAX hf hL hF
    obtain ⟨t2, a1, b1⟩ := kx E ce q u t T'.heap (locs ++ L) e1.symm (by rw [← e2]; exact X'.warmed.alike) hp hb k1 k2 k3 (by rw [e1]; exact hce) hcv hcl T' rfl X'
    exact ⟨t2, st.trans a1, b1⟩
theorem vx_calld {S SX : Type} {post : UInt64 → S → Prop} {px : SX → Prop} {B : S → State → Prop} {BX : String → SX → State → Prop} {AX : Nat → Prop} (hr : vx_Run p l e R s m args below meth c H locs cells slots mc ms (F0 m pc ls st0) rest (va_Qd post B A1 a) (vx_X px BX AX) free) (hS : va_S A0 H0 H locs) (hA : ∀ q, q < H.size → A1 q → A0 q) (hf : ∀ q, free q → A0 q) (hAX : ∀ q, q < H.size → AX q → A0 q)
    (kx : ∀ (E : String) (ce : Cell) (q9 : Addr) (u : SX) (t : State) (H1 : Heap) (locs1 : List Loc), t.heap = H1 → s.vm.Alike t.vm → px u → BX E u t → H.size ≤ H1.size → (∀ q : Nat, q < H.size → ¬ AX q → H1[q]? = H[q]?) → va_S A0 H0 H1 locs1 → H1[q9]? = some ce → ce.vm = .none → s.vm.findClass E = some ce.cls → vx_W p l e R s m args below meth c H1 locs1 (cells + mc) (slots + ms) Q (F0 m pc ls rest) q9)
    (kk : ∀ (r : UInt64) (u : S) (t : State) (H1 : Heap) (locs1 : List Loc), t.heap = H1 → s.vm.Alike t.vm → post r u → B u t → H.size ≤ H1.size → (∀ q : Nat, q < H.size → ¬ A1 q → H1[q]? = H[q]?) → va_S A0 H0 H1 locs1 → W p l e R s m args below meth c H1 locs1 (cells + mc) (slots + ms) Q (F0 m (pc + 3) ls (.double r :: rest))) : W p l e R s m args below meth c H locs cells slots Q (F0 m pc ls st0) := by
  intro T hT X
  rcases hr T hT X with ⟨v, st₀, t, T', L, h0, X', hL, e1, e2, ⟨⟨r, u, hv, hp, hb⟩, hF⟩, st⟩ | ⟨q, st₀, t, T', L, E, ce, h0, X', hL, e1, e2, ⟨u, hp, hb, hF⟩, hce, hcv, hcl, st⟩
  · cases hv
    obtain ⟨k1, k2, k3⟩ := vx_keep h0 e1 hS hA hf hL hF
    obtain ⟨t2, a1, b1⟩ := kk r u t T'.heap (locs ++ L) e1.symm (by rw [← e2]; exact X'.warmed.alike) hp hb k1 k2 k3 T' rfl X'
    exact ⟨t2, st t2 a1, b1⟩
  · obtain ⟨k1, k2, k3⟩ := vx_keep h0 e1 hS hAX hf hL hF
    obtain ⟨t2, a1, b1⟩ := kx E ce q u t T'.heap (locs ++ L) e1.symm (by rw [← e2]; exact X'.warmed.alike) hp hb k1 k2 k3 (by rw [e1]; exact hce) hcv hcl T' rfl X'
    exact ⟨t2, st.trans a1, b1⟩
theorem vx_callv {S SX : Type} {post : S → Prop} {px : SX → Prop} {B : S → State → Prop} {BX : String → SX → State → Prop} {AX : Nat → Prop} (hr : vx_Run p l e R s m args below meth c H locs cells slots mc ms (F0 m pc ls st0) rest (va_Qv post B A1 a) (vx_X px BX AX) free) (hS : va_S A0 H0 H locs) (hA : ∀ q, q < H.size → A1 q → A0 q) (hf : ∀ q, free q → A0 q) (hAX : ∀ q, q < H.size → AX q → A0 q)
    (kx : ∀ (E : String) (ce : Cell) (q9 : Addr) (u : SX) (t : State) (H1 : Heap) (locs1 : List Loc), t.heap = H1 → s.vm.Alike t.vm → px u → BX E u t → H.size ≤ H1.size → (∀ q : Nat, q < H.size → ¬ AX q → H1[q]? = H[q]?) → va_S A0 H0 H1 locs1 → H1[q9]? = some ce → ce.vm = .none → s.vm.findClass E = some ce.cls → vx_W p l e R s m args below meth c H1 locs1 (cells + mc) (slots + ms) Q (F0 m pc ls rest) q9)
    (kk : ∀ (u : S) (t : State) (H1 : Heap) (locs1 : List Loc), t.heap = H1 → s.vm.Alike t.vm → post u → B u t → H.size ≤ H1.size → (∀ q : Nat, q < H.size → ¬ A1 q → H1[q]? = H[q]?) → va_S A0 H0 H1 locs1 → W p l e R s m args below meth c H1 locs1 (cells + mc) (slots + ms) Q (F0 m (pc + 3) ls (rest))) : W p l e R s m args below meth c H locs cells slots Q (F0 m pc ls st0) := by
  intro T hT X
  rcases hr T hT X with ⟨v, st₀, t, T', L, h0, X', hL, e1, e2, ⟨⟨u, hv, hp, hb⟩, hF⟩, st⟩ | ⟨q, st₀, t, T', L, E, ce, h0, X', hL, e1, e2, ⟨u, hp, hb, hF⟩, hce, hcv, hcl, st⟩
  · cases hv
    obtain ⟨k1, k2, k3⟩ := vx_keep h0 e1 hS hA hf hL hF
    obtain ⟨t2, a1, b1⟩ := kk u t T'.heap (locs ++ L) e1.symm (by rw [← e2]; exact X'.warmed.alike) hp hb k1 k2 k3 T' rfl X'
    exact ⟨t2, st t2 a1, b1⟩
  · obtain ⟨k1, k2, k3⟩ := vx_keep h0 e1 hS hAX hf hL hF
    obtain ⟨t2, a1, b1⟩ := kx E ce q u t T'.heap (locs ++ L) e1.symm (by rw [← e2]; exact X'.warmed.alike) hp hb k1 k2 k3 (by rw [e1]; exact hce) hcv hcl T' rfl X'
    exact ⟨t2, st.trans a1, b1⟩
/-- caught by the row x of this method's table; the rows ahead don't take it -/
theorem vx_catch {own name : String} {E : String} {ce : Cell} {q : Addr} (hown : s.vm.findClass own = some m.cls) (pre : List ExceptionTableEntry) (x : ExceptionTableEntry) (suf : List ExceptionTableEntry) (hsplit : c.exceptionTable.toList = pre ++ x :: suf)
    (hpass : ∀ z ∈ pre, covers z pc = false ∨ (z.catchType ≠ 0 ∧ ∃ nm : String, (Cond.classLink own z.catchType nm).before args s = true ∧ va_Nc E nm s)) (hx : covers x pc = true) (h0 : x.catchType ≠ 0)
    (hlink : (Cond.classLink own x.catchType name).before args s = true) (hcast : (Cond.castable E name).before args s = true) (hcell : H[q]? = some ce) (hv : ce.vm = .none) (hcl : s.vm.findClass E = some ce.cls)
    (kk : W p l e R s m args below meth c H locs cells slots Q (F0 m x.handlerPc ls [.ref q])) : vx_W p l e R s m args below meth c H locs cells slots Q (F0 m pc ls rest) q := by
  intro T hT X
  have hpl : e.platform.magicAccessors = ({} : Platform).magicAccessors := by rw [X.admits.platform]
  obtain ⟨c3, c4, hc3, hc4, hasg⟩ := Cond.castable_spec hcast
  cases Option.some.inj (hc3.symm.trans hcl)
  obtain ⟨c5, hc5, hcl5⟩ := Cond.classLink_spec hown hlink e.platform hpl
  cases Option.some.inj (hc4.symm.trans hc5)
  obtain ⟨vm', X', st⟩ := X.thenCaughtThrough q (g := F0 m pc ls rest) rfl (Steps.refl _) (by rw [hT]; exact hcell) (by rw [hv]; rfl) (by obtain ⟨k9, h9, -⟩ := Vm.findClass_spec hcl; exact ⟨k9, h9⟩) pre x suf hsplit
    (fun z hz => by
      rcases hpass z hz with h | ⟨hz0, nm, hl1, hn1⟩
      · exact Or.inl h
      · obtain ⟨c6, hc6, hcl6⟩ := Cond.classLink_spec hown hl1 e.platform hpl
        obtain ⟨a8, b8, h1, h2, h3⟩ := hn1
        cases Option.some.inj (h1.symm.trans hcl)
        cases Option.some.inj (h2.symm.trans hc6)
        exact Or.inr ⟨hz0, _, hcl6, h3⟩) hx (Or.inr ⟨h0, c4, hcl5, hasg⟩)
  obtain ⟨t, a1, b1⟩ := kk (T.setVm vm') hT X'
  exact ⟨t, st.trans a1, b1⟩
end Rows
section Ends
variable {p : Program} {l : Launch} {e : Env} {R : Room} {s : State} {m : MethodId} {args : Array Value} {below : List Frame} {meth : Method} {c : Code} {H : Heap} {locs : List Loc} {cells slots : Nat} {Q : State → Prop}
variable {mc ms : Nat} {free : Addr → Prop} {A0 A1 : Nat → Prop} {H0 : Heap} {a : Array Value} {ls : Array Slot} {st0 rest : List Value}
variable {Qc : Array Value → State → Outcome → State → Prop} {XC : String → State → State → Prop}
/-- what a body that may throw owes at its end -/
def vx_MQ (below : List Frame) (Qc : Array Value → State → Outcome → State → Prop) (XC : String → State → State → Prop) (a : Array Value) (s : State) (mc ms : Nat) (free : Addr → Prop) : State → Prop := fun t =>
  ∃ o, t.status = .running ∧ Ended t below o ∧ vx_Q Qc XC mc ms free a s o t
theorem vx_ret {g : JFrame} {mc ms : Nat} (k : W p l e R s m args below meth c H locs cells slots (MQ below Qc args s mc ms free) g) : W p l e R s m args below meth c H locs cells slots (vx_MQ below Qc XC args s mc ms free) g := by
  intro T hT X
  obtain ⟨t, a1, o, b1, b2, b3, b4⟩ := k T hT X
  exact ⟨t, a1, o, b1, b2, Or.inl ⟨b3, b4⟩⟩
/-- not caught here: it goes on to the caller -/
theorem vx_widen {g : JFrame} {q : Addr} {k n : Nat} (h1 : cells ≤ k) (h2 : slots ≤ n) (kk : vx_W p l e R s m args below meth c H locs k n Q g q) : vx_W p l e R s m args below meth c H locs cells slots Q g q := fun T hT X => kk T hT (stand_widen X h1 h2)
theorem vx_out {pc : Nat} {E : String} {ce : Cell} {q : Addr} {mc ms : Nat} (hout : ∀ x ∈ c.exceptionTable.toList, covers x pc = false) (hlocks : meth.locks = false) (hcell : H[q]? = some ce) (hv : ce.vm = .none) (hcl : s.vm.findClass E = some ce.cls)
    (hx : ∀ t : State, t.heap = H → s.vm.Alike t.vm → XC E s t) (hf : ∀ z ∈ locs, free z.base) (hc : cells ≤ mc) (hs : slots ≤ ms) :
    vx_W p l e R s m args below meth c H locs cells slots (vx_MQ below Qc XC args s mc ms free) (F0 m pc ls rest) q := by
  intro T hT X
  obtain ⟨st1, hrun, hend, hW, hsm⟩ := X.leaveThrown q (g := F0 m pc ls rest) rfl rfl rfl hout hlocks
  have hcell9 : (T.setFrames (.throwing q :: below)).heap[q]? = some ce := by
    show T.heap[q]? = some ce
    rw [hT]; exact hcell
  exact ⟨_, st1, .threw q, hrun, hend, Or.inr ⟨q, rfl, E, ce, locs, hx _ hT hW.alike, hcell9, hv, hcl, hW, hsm.mono hc hs, hf⟩⟩
theorem vx_frame {U : State} {k n : Nat} (h : s.sameButNew ({ U with vm := s.vm } : State) locs k n) : s.heap.size ≤ U.heap.size ∧ ∀ q : Nat, q < s.heap.size → (∀ z ∈ locs, z.base ≠ q) → U.heap[q]? = s.heap[q]? := by
  obtain ⟨-, h2, -, -, -, h6⟩ := h
  refine ⟨h2, fun q hq hz => ?_⟩
  obtain ⟨c9, e1, e2, e3, e4⟩ := h6 q _ (Array.getElem?_eq_getElem hq)
  have hs : c9.slots = (s.heap[q]).slots := Array.ext_getElem? fun i => e4 i fun hm => hz _ hm rfl
  have h9 : c9 = s.heap[q] := by
    rw [hs] at e2
    exact e2
  have e5 : U.heap[q]? = some c9 := e1
  rw [e5, h9, Array.getElem?_eq_getElem hq]
/-- the words of a throw but the four that speak of the heap -/
def vx_no (w : Cond) : Bool := decide (w ≠ .isRef (.static Bundle.tN "UNASSIGNED_STACK" Bundle.steD)) && decide (w ≠ .isRef (.static Bundle.tN "SUPPRESSED_SENTINEL" Bundle.listD)) && decide (w ≠ .laysStatic Bundle.tN "UNASSIGNED_STACK" Bundle.steD) && decide (w ≠ .laysStatic Bundle.tN "SUPPRESSED_SENTINEL" Bundle.listD)
def vx_at0 (own : String) (ic : Nat) (X : String) (names : List String) : List Cond := (Bundle.ownAtoms0 own ic X names).filter vx_no
def vx_atS (own : String) (ic : Nat) (X : String) (names : List String) : List Cond := (Bundle.ownAtoms own ic X names).filter vx_no
/-- a word that the tables alone decide, or a good one -/
def vx_ot (w : Cond) : Bool := w.onTables || goodWord w
theorem vx_ot_at {args a' : Array Value} {s U : State} {w : Cond} (hW : s.WarmedH U.vm) (hvm : s.vm = U.vm) (hg : vx_ot w = true) (h : w.before args s = true) : w.before a' U = true := by
  simp only [vx_ot, Bool.or_eq_true] at hg
  rcases hg with hg | hg
  · exact va_tabs hg hvm h
  · exact word_at hW (good_of_word hg) h
/-- a list's words: the good ones out of the method's own list, the others by premises of their own -/
theorem vx_hat {args : Array Value} {s : State} {L B : List Cond} (h1 : ∀ w ∈ L.filter goodWord, w.before args s = true) (h2 : ∀ w ∈ L.filter (fun w => !goodWord w), w ∈ B) (h3 : ∀ w ∈ B, w.before args s = true) : ∀ w ∈ L, w.before args s = true := by
  intro w hw
  by_cases g : goodWord w = true
  · exact h1 w (List.mem_filter.mpr ⟨hw, g⟩)
  · refine h3 w (h2 w (List.mem_filter.mpr ⟨hw, ?_⟩))
    show (!goodWord w) = true
    cases hgw : goodWord w
    · rfl
    · exact absurd hgw g
theorem vx_c {args : Array Value} {s : State} {w : Cond} {B : List Cond} (h : w.before args s = true) (t : ∀ w ∈ B, w.before args s = true) : ∀ w' ∈ w :: B, w'.before args s = true := fun w' h' => (List.mem_cons.mp h').elim (fun e => by rw [e]; exact h) (t w')
theorem vx_n {args : Array Value} {s : State} : ∀ w ∈ ([] : List Cond), w.before args s = true := fun _ h => nomatch h
theorem vx_own {args : Array Value} {s : State} {L : List Cond} (h1 : ∀ w ∈ L.filter vx_no, w.before args s = true)
    (hU : (Cond.isRef (.static Bundle.tN "UNASSIGNED_STACK" Bundle.steD)).before args s = true) (hN : (Cond.isRef (.static Bundle.tN "SUPPRESSED_SENTINEL" Bundle.listD)).before args s = true)
    (lU : (Cond.laysStatic Bundle.tN "UNASSIGNED_STACK" Bundle.steD).before args s = true) (lN : (Cond.laysStatic Bundle.tN "SUPPRESSED_SENTINEL" Bundle.listD).before args s = true) : ∀ w ∈ L, w.before args s = true := by
  intro w hw
  by_cases e1 : w = .isRef (.static Bundle.tN "UNASSIGNED_STACK" Bundle.steD)
  · rw [e1]; exact hU
  · by_cases e2 : w = .isRef (.static Bundle.tN "SUPPRESSED_SENTINEL" Bundle.listD)
    · rw [e2]; exact hN
    · by_cases e3 : w = .laysStatic Bundle.tN "UNASSIGNED_STACK" Bundle.steD
      · rw [e3]; exact lU
      · by_cases e4 : w = .laysStatic Bundle.tN "SUPPRESSED_SENTINEL" Bundle.listD
        · rw [e4]; exact lN
        · exact h1 w (List.mem_filter.mpr ⟨hw, by unfold vx_no; rw [decide_eq_true e1, decide_eq_true e2, decide_eq_true e3, decide_eq_true e4]; rfl⟩)
/-- where a static field lies, its class's statics cell in H -/
def vx_L (C n d : String) (A : Nat → Prop) (U : State) (H : Heap) : Prop := ∃ (c : ClassId) (k : Class) (i : Nat) (f : Field) (a : Nat) (cell : Cell), U.vm.findClass C = some c ∧ U.fieldFound? C n d = some (c, k, i, f) ∧ f.isStatic = true ∧ k.statics = some a ∧ H[a]? = some cell ∧ cell.vm.isStatics = true ∧ cell.cls = c ∧ f.slot < cell.slots.size ∧ k.staticTypes[f.slot]? = some f.type ∧ ¬ A a
theorem vx_L.moved {C n d : String} {A : Nat → Prop} {u U : State} {H : Heap} (hvm : u.vm.Alike U.vm) (h : vx_L C n d A u H) : vx_L C n d A U H := by
  obtain ⟨c, k, i, f, a, cell, h1, h2, h3, h4, h5, h6, h7, h8, h9, h10⟩ := h
  obtain ⟨k', hi', he⟩ := State.fieldFound?_setVm hvm h2
  exact ⟨c, k', i, f, a, cell, by rw [hvm.findClass]; exact h1, hi', h3, by rw [he]; exact h4, h5, h6, h7, h8, by rw [he]; exact h9, h10⟩
theorem vx_L.kept {C n d : String} {A : Nat → Prop} {U : State} {H H1 : Heap} (h : vx_L C n d A U H) (hq : ∀ a : Nat, a < H.size → ¬ A a → H1[a]? = H[a]?) : vx_L C n d A U H1 := by
  obtain ⟨c, k, i, f, a, cell, h1, h2, h3, h4, h5, h6, h7, h8, h9, h10⟩ := h
  exact ⟨c, k, i, f, a, cell, h1, h2, h3, h4, by rw [hq a (Array.getElem?_eq_some_iff.mp h5).1 h10]; exact h5, h6, h7, h8, h9, h10⟩
theorem vx_L.narrow {C n d : String} {A B : Nat → Prop} {U : State} {H : Heap} (h : vx_L C n d A U H) (hAB : ∀ q, B q → A q) : vx_L C n d B U H := by
  obtain ⟨c, k, i, f, a, cell, h1, h2, h3, h4, h5, h6, h7, h8, h9, h10⟩ := h
  exact ⟨c, k, i, f, a, cell, h1, h2, h3, h4, h5, h6, h7, h8, h9, fun z => h10 (hAB _ z)⟩
theorem vx_L.word {C n d : String} {A : Nat → Prop} {s : State} {args : Array Value} (h : vx_L C n d A s s.heap) : (Cond.laysStatic C n d).before args s = true := by
  obtain ⟨c, k, i, f, a, cell, h1, h2, h3, h4, h5, h6, h7, h8, h9, -⟩ := h
  show (Cond.laysStatic C n d).holds args s none s [] = true
  exact Cond.laysStatic_of h1 h2 h3 h4 h5 h6 h7 h8 h9
/-- .. and what it holds: null or some reference -/
def vx_Zq (C n d : String) (A : Nat → Prop) (U : State) (H : Heap) : Prop := va_Zq C n d A U H ∧ vx_L C n d A U H
theorem vx_Zq.moved {C n d : String} {A : Nat → Prop} {u U : State} {H : Heap} (hvm : u.vm.Alike U.vm) (h : vx_Zq C n d A u H) : vx_Zq C n d A U H := ⟨va_Zq.moved hvm h.1, vx_L.moved hvm h.2⟩
theorem vx_Zq.kept {C n d : String} {A : Nat → Prop} {U : State} {H H1 : Heap} (h : vx_Zq C n d A U H) (hq : ∀ a : Nat, a < H.size → ¬ A a → H1[a]? = H[a]?) : vx_Zq C n d A U H1 := ⟨va_Zq.kept h.1 hq, vx_L.kept h.2 hq⟩
theorem vx_Zq.narrow {C n d : String} {A B : Nat → Prop} {U : State} {H : Heap} (h : vx_Zq C n d A U H) (hAB : ∀ q, B q → A q) : vx_Zq C n d B U H := ⟨va_Zq.narrow h.1 hAB, vx_L.narrow h.2 hAB⟩
theorem vx_Zqof {args : Array Value} {s : State} {C n d : String} {A : Nat → Prop} (hl : (Cond.laysStatic C n d).before args s = true) (hini : (Cond.initialized C).before args s = true) (h : (Cond.isRef (.static C n d)).before args s = true) (hA : ∀ a : Nat, a < s.heap.size → ¬ A a) : vx_Zq C n d A s s.heap := by
  refine ⟨va_Zqof hl hini h hA, ?_⟩
  obtain ⟨c, k, i, f, a, cell, h1, h2, h3, h4, h5, h6, h7, h8, h9⟩ := Cond.laysStatic_spec hl
  exact ⟨c, k, i, f, a, cell, h1, h2, h3, h4, h5, h6, h7, h8, h9, hA a (Array.getElem?_eq_some_iff.mp h5).1⟩
theorem vx_isRef {C n d : String} {v : Value} {A : Nat → Prop} {s : State} {args : Array Value} (h : va_Z C n d v A s s.heap) (hv : v.isRef = true) : (Cond.isRef (.static C n d)).before args s = true := by
  obtain ⟨cf, kf, fi, f, a, cell, h1, h2, h3, h4, h5, h6, h7, -⟩ := h
  have he : (Term.static C n d).eval args s none [] s = some v := by
    simp [Term.eval, State.fieldNamed?, h1, h2, h4, h5, h6, h7]
  simp only [Cond.before, Cond.holds, Cond.value, he]
  cases v <;> simp_all [Value.isRef]
theorem vx_isRefq {C n d : String} {A : Nat → Prop} {s : State} {args : Array Value} (h : va_Zq C n d A s s.heap) : (Cond.isRef (.static C n d)).before args s = true := by
  rcases h with h | ⟨t, h⟩
  · exact vx_isRef h rfl
  · exact vx_isRef h rfl
/-- the same frame, seen from here: as if the method were called anew in this heap -/
theorem vx_rebase {T : State} (X : Stand p l e R s m args below meth c T locs cells slots) {R' : Room} (hf : R'.frames ≤ R.frames) (hl : R'.locals ≤ R.locals) (hc : cells + R'.cells ≤ R.cells) (hs : slots + R'.slots ≤ R.slots) :
    Stand p l e R' ((T.setVm s.vm).setFrames (.invoking m args :: below)) m args below meth c T [] 0 0 := by
  have htop : (T.setVm s.vm).topJava?.isSome := X.here.top
  have hF : ((T.setVm s.vm).setFrames (.invoking m args :: below)).frames = .invoking m args :: below := State.frames_setFrames _ (State.cur_lt_of_top htop)
  obtain ⟨g₀, hg0⟩ := Option.isSome_iff_exists.mp htop
  obtain ⟨r, hr⟩ := State.topJava?_eq_some.mp hg0
  have hl9 : e.platform.stackLimits (T.setVm s.vm).me = e.platform.stackLimits s.me := X.limits
  have hb9 : (T.setVm s.vm).me.stackBytes = s.me.stackBytes := X.bytes
  refine ⟨X.admits, X.cas, X.clock, hF, ?_, X.hears, X.method, X.code, X.here, X.tail, X.warmed, ?_, ?_, ?_⟩
  · have h := X.room
    have hU : ((T.setVm s.vm).setFrames (.invoking m args :: below)).localsInUse = s.localsInUse := by
      rw [State.localsInUse_invoking hF (meth := meth) (c := c) X.method X.code, State.localsInUse_invoking X.frames X.method X.code]
    simp only [State.hasRoom, Bool.and_eq_true, decide_eq_true_eq] at h ⊢
    obtain ⟨⟨⟨⟨h1, h2, h3, h4, h5, h6⟩, h7⟩, h8⟩, h9⟩ := h
    rw [X.frames, List.length_cons] at h2 h3
    have q1 := X.heapSize
    have q2 := X.used
    simp only [hF, hU, List.length_cons, State.stackLimits_setFrames, State.stackBytes_setFrames, hl9, hb9]
    refine ⟨⟨⟨⟨by omega, by omega, by omega, by omega, by omega, h6⟩, ?_⟩, ?_⟩, X.book⟩
    · show T.heap.size + R'.cells ≤ e.platform.maxCells
      omega
    · show T.slotsUsed + R'.slots ≤ e.platform.maxSlots
      omega
  · rw [State.stackLimits_setFrames]; rfl
  · rw [State.stackBytes_setFrames]; rfl
  · refine ⟨?_, Nat.le_refl _, Nat.le_refl _, ?_, ?_, fun a c9 h9 => ⟨c9, h9, rfl, rfl, fun _ _ => rfl⟩⟩
    · obtain ⟨t, ht, -⟩ := State.frames_cons hr
      show T.setVm s.vm = { ((T.setVm s.vm).setFrames (.invoking m args :: below)).setFrames (T.setVm s.vm).frames with heap := T.heap, slotsUsed := T.slotsUsed }
      rw [State.setFrames_setFrames, State.setFrames_self ht]
      rfl
    · show T.slotsUsed = T.slotsUsed + ((T.heap.toList.drop T.heap.size).map (·.slots.size)).sum
      rw [List.drop_eq_nil_of_le (Nat.le_of_eq Array.length_toList)]
      rfl
    · show ((T.heap.toList.drop T.heap.size).map (·.slots.size)).sum ≤ 0
      rw [List.drop_eq_nil_of_le (Nat.le_of_eq Array.length_toList)]
      exact Nat.le_refl _
/-- 'throw new E()': new; dup; invokespecial; athrow -/
theorem vx_throw0 {cc : ByteArray} {pc : Nat} (hexec : p.tables.exec = Jvm.exec) (hb : c.code = cc) (hl : l.stackTraces = false) {own cls : String} {names : List String} {ik ic mc ms : Nat} {A : Nat → Prop}
    (hown : s.vm.findClass own = some m.cls) (hcls : Bundle.fit cls = true) (hnames : ∀ n ∈ names, Bundle.fit n = true)
    (hk : (Cond.classLink own ik cls).before args s = true) (hini : (Cond.initialized cls).before args s = true) (hat : ∀ w ∈ vx_at0 own ic cls names, w.before args s = true)
    (hgood : ∀ w ∈ Cond.classLink own ik cls :: Cond.initialized cls :: vx_at0 own ic cls names, vx_ot w = true)
    (hU : vx_Zq Bundle.tN "UNASSIGNED_STACK" Bundle.steD A s s.heap) (hN : vx_Zq Bundle.tN "SUPPRESSED_SENTINEL" Bundle.listD A s s.heap) (hS : va_S A s.heap H locs) (hsize : ls.size = c.maxLocals)
    (d0 : decode cc pc = .ok (.new ik, 3)) (d3 : decode cc (pc + 3) = .ok (.dup, 1)) (d4 : decode cc (pc + 4) = .ok (.invokespecial ic, 3)) (d7 : decode cc (pc + 7) = .ok (.athrow, 1))
    (hout : ∀ x ∈ c.exceptionTable.toList, covers x (pc + 7) = false)
    (hRframes : names.length + 3 < R.frames) (hRlocals : (rest.map fun v => v.category).sum + (13 * (names.length + 1) + 42) ≤ R.locals) (hRcells : cells + 1 ≤ R.cells) (hRslots : slots + 6 ≤ R.slots) (hlocks : meth.locks = false)
    (hx : ∀ t : State, s.vm.Alike t.vm → H.size ≤ t.heap.size → (∀ q : Nat, q < H.size → t.heap[q]? = H[q]?) → XC cls s t)
    (hf : ∀ z ∈ locs, free z.base) (hc : cells + 1 ≤ mc) (hs : slots + 6 ≤ ms) :
    W p l e R s m args below meth c H locs cells slots (vx_MQ below Qc XC args s mc ms free) (F0 m pc ls rest) := by
  intro T hT X
  have htr : e.platform.stackTraces = false := (show e.platform.stackTraces = l.stackTraces by rw [X.admits.platform]).trans hl
  have Y := vx_rebase X (R' := { frames := R.frames, locals := R.locals, cells := 1, slots := 6 }) (Nat.le_refl _) (Nat.le_refl _) hRcells hRslots
  obtain ⟨s', hA⟩ : ∃ z, z = (T.setVm s.vm).setFrames (.invoking m args :: below) := ⟨_, rfl⟩
  rw [← hA] at Y
  have hvm : s'.vm = s.vm := by rw [hA]; rfl
  have hhp : s'.heap = H := by rw [hA]; exact hT
  have hW0 : s.WarmedH s'.vm := by rw [hvm]; exact State.WarmedH.refl s
  have hat' : ∀ w ∈ vx_at0 own ic cls names, w.before args s' = true := fun w hw => vx_ot_at hW0 hvm.symm (hgood w (List.mem_cons_of_mem _ (List.mem_cons_of_mem _ hw))) (hat w hw)
  have hk' : (Cond.classLink own ik cls).before args s' = true := vx_ot_at hW0 hvm.symm (hgood _ List.mem_cons_self) hk
  have hini' : (Cond.initialized cls).before args s' = true := vx_ot_at hW0 hvm.symm (hgood _ (List.mem_cons_of_mem _ List.mem_cons_self)) hini
  have hU' : vx_Zq Bundle.tN "UNASSIGNED_STACK" Bundle.steD A s' s'.heap := by rw [hhp]; exact vx_Zq.moved hW0.alike (hU.kept hS.2.1)
  have hN' : vx_Zq Bundle.tN "SUPPRESSED_SENTINEL" Bundle.listD A s' s'.heap := by rw [hhp]; exact vx_Zq.moved hW0.alike (hN.kept hS.2.1)
  have h : ∀ w ∈ Bundle.ownAtoms0 own ic cls names, w.before args s' = true := vx_own hat' (vx_isRefq hU'.1) (vx_isRefq hN'.1) hU'.2.word hN'.2.word
  have hown' : s'.vm.findClass own = some m.cls := by rw [hvm]; exact hown
  have hins : (Cond.instantiable cls 6).before args s' = true := h _ (by simp [Bundle.ownAtoms0])
  obtain ⟨vm₁, cX, kX, hfX, hkX, -, -, X₁, st1⟩ := Y.newCold hexec (own := own) (C := cls) (index := ik) (n := 6) hown' hk' hins hini'
    (g := F0 m pc ls rest) rfl (by rw [hb]; exact d0) (Nat.le_refl _) (Nat.le_refl _)
  generalize hT1 : (T.setVm vm₁).pushCell { cls := cX, slots := kX.instanceTypes.map defaultValue, vm := .none } = T1 at X₁ st1
  have hcat : (Value.ref T.heap.size).category = 1 := rfl
  have hcellA : T1.heap[T.heap.size]? = some (freshCell cX kX) := by rw [← hT1]; exact State.heap_pushCell_size _ _
  have d3' : decode c.code (pc + 3) = .ok (.dup, 1) := by rw [hb]; exact d3
  obtain ⟨U, hsteps, hrun, hend, hW, hsame, ce, hce, hO⟩ := X₁.ctorThrow0 hexec htr (own := own) (cls := cls) (names := names) (ic := ic) hown' hcls hnames h (fun x hx => nomatch hx) hfX hkX hcellA (by rw [hhp, hT]; exact Nat.le_refl _)
    (g := { method := m, pc := pc + 4, locals := ls, stack := .ref T.heap.size :: .ref T.heap.size :: rest, locked := none }) rfl hsize rfl rfl (rest := rest) rfl
    (by rw [hb]; exact d4) (by rw [hb]; exact d7) hout hRframes (by simp only [List.map_cons, List.sum_cons, hcat]; omega) hlocks
  obtain ⟨f1, f2⟩ := vx_frame hsame
  rw [hhp] at f1 f2
  have hWs : s.WarmedH U.vm := State.WarmedH.trans hW0 hW
  have hcl : s.vm.findClass cls = some ce.cls := by
    have h9 := hO.cls
    rw [hvm] at h9
    exact h9
  have hall : s.sameButNew ({ U with vm := s.vm } : State) locs mc ms := by
    subst hA
    obtain ⟨e1, e2⟩ := hsame
    rw [State.setFrames_setFrames] at e1
    have h2 : (T.setVm s.vm).sameButNew ({ U with vm := s.vm } : State) [] (0 + 1) (0 + 6) := ⟨e1, e2⟩
    have h3 := X.same.trans h2
    rw [List.append_nil] at h3
    exact h3.mono hc hs
  refine ⟨U, ?_, .threw T.heap.size, hrun, hend, Or.inr ⟨T.heap.size, rfl, cls, ce, locs, hx U hWs.alike f1 (fun q hq => f2 q hq (fun z hz => nomatch hz)), hce, hO.vm, hcl, hWs, hall, hf⟩⟩
  refine st1 _ ?_
  show Steps p.tables e below (T1.setTop { method := m, pc := pc + 3, locals := ls, stack := .ref T.heap.size :: rest, locked := none }) _
  jvm_step X₁.here [X₁.here.top, hexec, d3', Value.category]
  exact hsteps
/-- 'throw new E("text")': new; dup; ldc; invokespecial; athrow -/
theorem vx_throwS {cc : ByteArray} {pc : Nat} (hexec : p.tables.exec = Jvm.exec) (hb : c.code = cc) (hl : l.stackTraces = false) {own cls text : String} {names : List String} {ik is ic mc ms sa : Nat} {A : Nat → Prop}
    (hown : s.vm.findClass own = some m.cls) (hcls : Bundle.fit cls = true) (hnames : ∀ n ∈ names, Bundle.fit n = true)
    (hk : (Cond.classLink own ik cls).before args s = true) (hini : (Cond.initialized cls).before args s = true) (hstr : vk_R own is text sa s) (hat : ∀ w ∈ vx_atS own ic cls names, w.before args s = true)
    (hgood : ∀ w ∈ Cond.classLink own ik cls :: Cond.initialized cls :: vx_atS own ic cls names, vx_ot w = true)
    (hU : vx_Zq Bundle.tN "UNASSIGNED_STACK" Bundle.steD A s s.heap) (hN : vx_Zq Bundle.tN "SUPPRESSED_SENTINEL" Bundle.listD A s s.heap) (hS : va_S A s.heap H locs) (hsize : ls.size = c.maxLocals)
    (d0 : decode cc pc = .ok (.new ik, 3)) (d3 : decode cc (pc + 3) = .ok (.dup, 1)) (d4 : decode cc (pc + 4) = .ok (.ldc is, 2)) (d6 : decode cc (pc + 6) = .ok (.invokespecial ic, 3)) (d9 : decode cc (pc + 9) = .ok (.athrow, 1))
    (hout : ∀ x ∈ c.exceptionTable.toList, covers x (pc + 9) = false)
    (hRframes : names.length + 3 < R.frames) (hRlocals : (rest.map fun v => v.category).sum + (13 * (names.length + 1) + 43) ≤ R.locals) (hRcells : cells + 1 ≤ R.cells) (hRslots : slots + 6 ≤ R.slots) (hlocks : meth.locks = false)
    (hx : ∀ t : State, s.vm.Alike t.vm → H.size ≤ t.heap.size → (∀ q : Nat, q < H.size → t.heap[q]? = H[q]?) → XC cls s t)
    (hf : ∀ z ∈ locs, free z.base) (hc : cells + 1 ≤ mc) (hs : slots + 6 ≤ ms) :
    W p l e R s m args below meth c H locs cells slots (vx_MQ below Qc XC args s mc ms free) (F0 m pc ls rest) := by
  intro T hT X
  have htr : e.platform.stackTraces = false := (show e.platform.stackTraces = l.stackTraces by rw [X.admits.platform]).trans hl
  have Y := vx_rebase X (R' := { frames := R.frames, locals := R.locals, cells := 1, slots := 6 }) (Nat.le_refl _) (Nat.le_refl _) hRcells hRslots
  obtain ⟨s', hA⟩ : ∃ z, z = (T.setVm s.vm).setFrames (.invoking m args :: below) := ⟨_, rfl⟩
  rw [← hA] at Y
  have hvm : s'.vm = s.vm := by rw [hA]; rfl
  have hhp : s'.heap = H := by rw [hA]; exact hT
  have hW0 : s.WarmedH s'.vm := by rw [hvm]; exact State.WarmedH.refl s
  have hat' : ∀ w ∈ vx_atS own ic cls names, w.before args s' = true := fun w hw => vx_ot_at hW0 hvm.symm (hgood w (List.mem_cons_of_mem _ (List.mem_cons_of_mem _ hw))) (hat w hw)
  have hk' : (Cond.classLink own ik cls).before args s' = true := vx_ot_at hW0 hvm.symm (hgood _ List.mem_cons_self) hk
  have hini' : (Cond.initialized cls).before args s' = true := vx_ot_at hW0 hvm.symm (hgood _ (List.mem_cons_of_mem _ List.mem_cons_self)) hini
  have hU' : vx_Zq Bundle.tN "UNASSIGNED_STACK" Bundle.steD A s' s'.heap := by rw [hhp]; exact vx_Zq.moved hW0.alike (hU.kept hS.2.1)
  have hN' : vx_Zq Bundle.tN "SUPPRESSED_SENTINEL" Bundle.listD A s' s'.heap := by rw [hhp]; exact vx_Zq.moved hW0.alike (hN.kept hS.2.1)
  have h : ∀ w ∈ Bundle.ownAtoms own ic cls names, w.before args s' = true := vx_own hat' (vx_isRefq hU'.1) (vx_isRefq hN'.1) hU'.2.word hN'.2.word
  have hown' : s'.vm.findClass own = some m.cls := by rw [hvm]; exact hown
  have hins : (Cond.instantiable cls 6).before args s' = true := h _ (by simp [Bundle.ownAtoms])
  obtain ⟨vm₁, cX, kX, hfX, hkX, -, -, X₁, st1⟩ := Y.newCold hexec (own := own) (C := cls) (index := ik) (n := 6) hown' hk' hins hini'
    (g := F0 m pc ls rest) rfl (by rw [hb]; exact d0) (Nat.le_refl _) (Nat.le_refl _)
  generalize hT1 : (T.setVm vm₁).pushCell { cls := cX, slots := kX.instanceTypes.map defaultValue, vm := .none } = T1 at X₁ st1
  have hcat : (Value.ref T.heap.size).category = 1 := rfl
  have hcellA : T1.heap[T.heap.size]? = some (freshCell cX kX) := by rw [← hT1]; exact State.heap_pushCell_size _ _
  have d3' : decode c.code (pc + 3) = .ok (.dup, 1) := by rw [hb]; exact d3
  have d4' : decode c.code (pc + 4) = .ok (.ldc is, 2) := by rw [hb]; exact d4
  have hstr' : vk_R own is text sa s' := vk_R.warm hW0 hstr
  obtain ⟨U, hsteps, hrun, hend, hW, hsame, ce, hce, hO⟩ := X₁.ctorThrowS hexec htr (own := own) (cls := cls) (names := names) (ic := ic) hown' hcls hnames h (fun x hx => nomatch hx) hfX hkX hcellA (by rw [hhp, hT]; exact Nat.le_refl _) (msg := .ref sa) rfl
    (g := { method := m, pc := pc + 6, locals := ls, stack := .ref sa :: .ref T.heap.size :: .ref T.heap.size :: rest, locked := none }) rfl hsize rfl rfl (rest := rest) rfl
    (by rw [hb]; exact d6) (by rw [hb]; exact d9) hout hRframes (by simp only [List.map_cons, List.sum_cons, hcat]; omega) hlocks
  obtain ⟨f1, f2⟩ := vx_frame hsame
  rw [hhp] at f1 f2
  have hWs : s.WarmedH U.vm := State.WarmedH.trans hW0 hW
  have hcl : s.vm.findClass cls = some ce.cls := by
    have h9 := hO.cls
    rw [hvm] at h9
    exact h9
  have hall : s.sameButNew ({ U with vm := s.vm } : State) locs mc ms := by
    subst hA
    obtain ⟨e1, e2⟩ := hsame
    rw [State.setFrames_setFrames] at e1
    have h2 : (T.setVm s.vm).sameButNew ({ U with vm := s.vm } : State) [] (0 + 1) (0 + 6) := ⟨e1, e2⟩
    have h3 := X.same.trans h2
    rw [List.append_nil] at h3
    exact h3.mono hc hs
  refine ⟨U, ?_, .threw T.heap.size, hrun, hend, Or.inr ⟨T.heap.size, rfl, cls, ce, locs, hx U hWs.alike f1 (fun q hq => f2 q hq (fun z hz => nomatch hz)), hce, hO.vm, hcl, hWs, hall, hf⟩⟩
  refine st1 _ ?_
  show Steps p.tables e below (T1.setTop { method := m, pc := pc + 3, locals := ls, stack := .ref T.heap.size :: rest, locked := none }) _
  jvm_step X₁.here [X₁.here.top, hexec, d3', Value.category]
  exact X₁.ldcString hexec (own := own) (text := text) (index := is) (a := sa) hown' hstr'.1 hstr'.2
    (g := { method := m, pc := pc + 4, locals := ls, stack := .ref T.heap.size :: .ref T.heap.size :: rest, locked := none }) rfl d4' _ hsteps
/-- 'throw new E("text")', the text by a wide index -/
theorem vx_throwSW {cc : ByteArray} {pc : Nat} (hexec : p.tables.exec = Jvm.exec) (hb : c.code = cc) (hl : l.stackTraces = false) {own cls text : String} {names : List String} {ik is ic mc ms sa : Nat} {A : Nat → Prop}
    (hown : s.vm.findClass own = some m.cls) (hcls : Bundle.fit cls = true) (hnames : ∀ n ∈ names, Bundle.fit n = true)
    (hk : (Cond.classLink own ik cls).before args s = true) (hini : (Cond.initialized cls).before args s = true) (hstr : vk_R own is text sa s) (hat : ∀ w ∈ vx_atS own ic cls names, w.before args s = true)
    (hgood : ∀ w ∈ Cond.classLink own ik cls :: Cond.initialized cls :: vx_atS own ic cls names, vx_ot w = true)
    (hU : vx_Zq Bundle.tN "UNASSIGNED_STACK" Bundle.steD A s s.heap) (hN : vx_Zq Bundle.tN "SUPPRESSED_SENTINEL" Bundle.listD A s s.heap) (hS : va_S A s.heap H locs) (hsize : ls.size = c.maxLocals)
    (d0 : decode cc pc = .ok (.new ik, 3)) (d3 : decode cc (pc + 3) = .ok (.dup, 1)) (d4 : decode cc (pc + 4) = .ok (.ldc_w is, 3)) (d7 : decode cc (pc + 7) = .ok (.invokespecial ic, 3)) (d10 : decode cc (pc + 10) = .ok (.athrow, 1))
    (hout : ∀ x ∈ c.exceptionTable.toList, covers x (pc + 10) = false)
    (hRframes : names.length + 3 < R.frames) (hRlocals : (rest.map fun v => v.category).sum + (13 * (names.length + 1) + 43) ≤ R.locals) (hRcells : cells + 1 ≤ R.cells) (hRslots : slots + 6 ≤ R.slots) (hlocks : meth.locks = false)
    (hx : ∀ t : State, s.vm.Alike t.vm → H.size ≤ t.heap.size → (∀ q : Nat, q < H.size → t.heap[q]? = H[q]?) → XC cls s t)
    (hf : ∀ z ∈ locs, free z.base) (hc : cells + 1 ≤ mc) (hs : slots + 6 ≤ ms) :
    W p l e R s m args below meth c H locs cells slots (vx_MQ below Qc XC args s mc ms free) (F0 m pc ls rest) := by
  intro T hT X
  have htr : e.platform.stackTraces = false := (show e.platform.stackTraces = l.stackTraces by rw [X.admits.platform]).trans hl
  have Y := vx_rebase X (R' := { frames := R.frames, locals := R.locals, cells := 1, slots := 6 }) (Nat.le_refl _) (Nat.le_refl _) hRcells hRslots
  obtain ⟨s', hA⟩ : ∃ z, z = (T.setVm s.vm).setFrames (.invoking m args :: below) := ⟨_, rfl⟩
  rw [← hA] at Y
  have hvm : s'.vm = s.vm := by rw [hA]; rfl
  have hhp : s'.heap = H := by rw [hA]; exact hT
  have hW0 : s.WarmedH s'.vm := by rw [hvm]; exact State.WarmedH.refl s
  have hat' : ∀ w ∈ vx_atS own ic cls names, w.before args s' = true := fun w hw => vx_ot_at hW0 hvm.symm (hgood w (List.mem_cons_of_mem _ (List.mem_cons_of_mem _ hw))) (hat w hw)
  have hk' : (Cond.classLink own ik cls).before args s' = true := vx_ot_at hW0 hvm.symm (hgood _ List.mem_cons_self) hk
  have hini' : (Cond.initialized cls).before args s' = true := vx_ot_at hW0 hvm.symm (hgood _ (List.mem_cons_of_mem _ List.mem_cons_self)) hini
  have hU' : vx_Zq Bundle.tN "UNASSIGNED_STACK" Bundle.steD A s' s'.heap := by rw [hhp]; exact vx_Zq.moved hW0.alike (hU.kept hS.2.1)
  have hN' : vx_Zq Bundle.tN "SUPPRESSED_SENTINEL" Bundle.listD A s' s'.heap := by rw [hhp]; exact vx_Zq.moved hW0.alike (hN.kept hS.2.1)
  have h : ∀ w ∈ Bundle.ownAtoms own ic cls names, w.before args s' = true := vx_own hat' (vx_isRefq hU'.1) (vx_isRefq hN'.1) hU'.2.word hN'.2.word
  have hown' : s'.vm.findClass own = some m.cls := by rw [hvm]; exact hown
  have hins : (Cond.instantiable cls 6).before args s' = true := h _ (by simp [Bundle.ownAtoms])
  obtain ⟨vm₁, cX, kX, hfX, hkX, -, -, X₁, st1⟩ := Y.newCold hexec (own := own) (C := cls) (index := ik) (n := 6) hown' hk' hins hini'
    (g := F0 m pc ls rest) rfl (by rw [hb]; exact d0) (Nat.le_refl _) (Nat.le_refl _)
  generalize hT1 : (T.setVm vm₁).pushCell { cls := cX, slots := kX.instanceTypes.map defaultValue, vm := .none } = T1 at X₁ st1
  have hcat : (Value.ref T.heap.size).category = 1 := rfl
  have hcellA : T1.heap[T.heap.size]? = some (freshCell cX kX) := by rw [← hT1]; exact State.heap_pushCell_size _ _
  have d3' : decode c.code (pc + 3) = .ok (.dup, 1) := by rw [hb]; exact d3
  have d4' : decode c.code (pc + 4) = .ok (.ldc_w is, 3) := by rw [hb]; exact d4
  have hstr' : vk_R own is text sa s' := vk_R.warm hW0 hstr
  obtain ⟨U, hsteps, hrun, hend, hW, hsame, ce, hce, hO⟩ := X₁.ctorThrowS hexec htr (own := own) (cls := cls) (names := names) (ic := ic) hown' hcls hnames h (fun x hx => nomatch hx) hfX hkX hcellA (by rw [hhp, hT]; exact Nat.le_refl _) (msg := .ref sa) rfl
    (g := { method := m, pc := pc + 7, locals := ls, stack := .ref sa :: .ref T.heap.size :: .ref T.heap.size :: rest, locked := none }) rfl hsize rfl rfl (rest := rest) rfl
    (by rw [hb]; exact d7) (by rw [hb]; exact d10) hout hRframes (by simp only [List.map_cons, List.sum_cons, hcat]; omega) hlocks
  obtain ⟨f1, f2⟩ := vx_frame hsame
  rw [hhp] at f1 f2
  have hWs : s.WarmedH U.vm := State.WarmedH.trans hW0 hW
  have hcl : s.vm.findClass cls = some ce.cls := by
    have h9 := hO.cls
    rw [hvm] at h9
    exact h9
  have hall : s.sameButNew ({ U with vm := s.vm } : State) locs mc ms := by
    subst hA
    obtain ⟨e1, e2⟩ := hsame
    rw [State.setFrames_setFrames] at e1
    have h2 : (T.setVm s.vm).sameButNew ({ U with vm := s.vm } : State) [] (0 + 1) (0 + 6) := ⟨e1, e2⟩
    have h3 := X.same.trans h2
    rw [List.append_nil] at h3
    exact h3.mono hc hs
  refine ⟨U, ?_, .threw T.heap.size, hrun, hend, Or.inr ⟨T.heap.size, rfl, cls, ce, locs, hx U hWs.alike f1 (fun q hq => f2 q hq (fun z hz => nomatch hz)), hce, hO.vm, hcl, hWs, hall, hf⟩⟩
  refine st1 _ ?_
  show Steps p.tables e below (T1.setTop { method := m, pc := pc + 3, locals := ls, stack := .ref T.heap.size :: rest, locked := none }) _
  jvm_step X₁.here [X₁.here.top, hexec, d3', Value.category]
  exact X₁.ldcStringW hexec (own := own) (text := text) (index := is) (a := sa) hown' hstr'.1 hstr'.2
    (g := { method := m, pc := pc + 4, locals := ls, stack := .ref T.heap.size :: .ref T.heap.size :: rest, locked := none }) rfl d4' _ hsteps
end Ends
section Bodies
variable {l : Launch}
theorem vx_ofW {y : MethodName} {ws ws' : List Cond} {rm : Room} {Pc : Array Value → State → Prop} {Qc : Array Value → State → Outcome → State → Prop} {XC : String → State → State → Prop} {mc ms : Nat} {free : Addr → Prop} {cc : ByteArray} {maxL : Nat} {ret : Option FieldType}
    (hy : plainName y.cls = true) (hw : ws = Cond.code y cc maxL ret :: ws')
    (body : ∀ p e s m args below meth c s₁, BodyLoose p l y (headSpec ws rm) cc maxL ret e s m args below meth c s₁ → c.maxLocals = maxL → (∀ x ∈ c.exceptionTable.toList, False) → Pc args s →
      W p l e (headSpec ws rm).room s m args below meth c s.heap [] 0 0 (vx_MQ below Qc XC args s mc ms free) (entryFrame m args maxL)) : vx_Met l y ws rm Pc Qc XC mc ms free := by
  refine MetFree.of_bodyS (code := cc) (maxLocals := maxL) (ret := ret) hy ?_ ?_
  · intro args s m h hn
    obtain ⟨meth, c, h1, h2, h3, h4, h5, h6, -, -⟩ := Cond.code_spec hn (atoms_spec (ws := ws) h _ (by rw [hw]; exact List.mem_cons_self))
    exact ⟨meth, c, h1, h2, h3, h4, h5, h6⟩
  · intro p e s m args below meth c s₁ B hml hP _
    have hh0 : s₁.heap = s.heap := by rw [B.state]; rfl
    have ht : ∀ x ∈ c.exceptionTable.toList, False := by
      obtain ⟨meth9, c9, h1, h2, -, -, -, -, h7, -⟩ := Cond.code_spec B.named (atoms_spec (ws := ws) B.pre _ (by rw [hw]; exact List.mem_cons_self))
      cases Option.some.inj (h1.symm.trans B.method)
      cases Option.some.inj (h2.symm.trans (Stand.of_body B).code)
      intro x hx
      rw [Array.isEmpty_iff.mp h7] at hx
      cases hx
    obtain ⟨t, a1, o, b1, b2, b3⟩ := body p e s m args below meth c s₁ B hml ht hP s₁ hh0 (Stand.of_body B)
    exact ⟨t, o, a1, b1, b2, b3⟩
/-- the table of a body with handlers -/
theorem vx_table {p : Program} {x y : MethodName} {S : Spec} {cc bytes : ByteArray} {maxL maxL' : Nat} {ret ret' : Option FieldType} {e : Env} {s s₁ : State} {m : MethodId} {args : Array Value} {below : List Frame} {meth : Method} {c : Code} {hh : List (Nat × Nat × Nat × Nat)}
    (B : BodyLoose p l y S cc maxL ret e s m args below meth c s₁) (h : (Cond.codeWith y bytes maxL' ret' hh).before args s = true) : c.exceptionTable.toList = tableOf hh := by
  obtain ⟨m9, meth9, c9, hn9, h1, h2, -, -, h6, -⟩ := Cond.codeWith_spec h
  cases Option.some.inj (hn9.symm.trans B.named)
  cases Option.some.inj (h1.symm.trans B.method)
  cases Option.some.inj (h2.symm.trans (Stand.of_body B).code)
  rw [← h6, table_eq]
end Bodies
end VXA
/-! ===== END ===== -/
/-! ===== BEGIN a static call of a method with an exception table ===== -/
section VXS
variable {p : Program} {l : Launch} {e : Env} {R : Room} {s : State} {m : MethodId} {args : Array Value} {below : List Frame} {meth : Method} {c : Code} {T : State} {H : Heap} {locs : List Loc} {cells slots : Nat}
abbrev vx_CSW (R : Room) (s : State) (args : Array Value) (own : String) (index : Nat) (y : MethodName) (bytes : ByteArray) (maxL : Nat) (ret : Option FieldType) (hh : List (Nat × Nat × Nat × Nat)) (ws : List Cond) (rm : Room) (mc ms n : Nat) : Prop :=
  (rm.cells = mc ∧ rm.slots = ms ∧ rm.frames + 1 ≤ R.frames ∧ 8 + (maxL + 11) + rm.locals ≤ R.locals ∧ (∀ w ∈ ws, ∀ (a' : Array Value) (U : State), s.WarmedH U.vm → w.before a' U = true) ∧ Cond.codeWith y bytes maxL ret hh ∈ ws) ∧
  (Cond.codeWith y bytes maxL ret hh).before args s = true ∧ (Cond.initialized y.cls).before args s = true ∧ (y.cls ≠ "java/lang/invoke/MethodHandle" ∧ y.cls ≠ "java/lang/invoke/VarHandle") ∧
  (∀ sig, parseMethodDescriptor y.desc = some sig → n = sig.parameters.length) ∧ (Cond.methodLink own index y).before args s = true ∧ (Cond.static y).before args s = true
theorem vx_cwSW {own : String} {index maxL mc ms : Nat} {y : MethodName} {bytes : ByteArray} {ret : Option FieldType} {hh : List (Nat × Nat × Nat × Nat)} {Ts ws ws' : List Cond} {rm : Room} (n : Nat) (ht : ∀ w ∈ Ts, w.before args s = true) (hT : GoodIn Ts (va_wsS own index y ws)) (hw : ws = Cond.codeWith y bytes maxL ret hh :: ws') (hrc : rm.cells = mc) (hrs : rm.slots = ms)
    (hd : y.cls ≠ "java/lang/invoke/MethodHandle" ∧ y.cls ≠ "java/lang/invoke/VarHandle" ∧ (parseMethodDescriptor y.desc).map (fun d => d.parameters.length) = some n) (hR : rm.frames + 1 ≤ R.frames ∧ 8 + (maxL + 11) + rm.locals ≤ R.locals) :
    vx_CSW R s args own index y bytes maxL ret hh ws rm mc ms n := by
  have ok : ∀ w ∈ va_wsS own index y ws, w.before args s = true := fun w h => ht w (hT w h).1
  have hG : GoodIn Ts ws := fun w h => hT w (by unfold va_wsS; exact List.mem_append_right _ h)
  have hc : Cond.codeWith y bytes maxL ret hh ∈ ws := by rw [hw]; exact List.mem_cons_self
  refine ⟨⟨hrc, hrs, hR.1, hR.2, pay_in ht hG, hc⟩, ht _ (hG _ hc).1, ok _ (by simp [va_wsS]), ⟨hd.1, hd.2.1⟩, fun sig h => ?_, ok _ (by simp [va_wsS]), ok _ (by simp [va_wsS])⟩
  have h2 := hd.2.2
  rw [h] at h2
  exact (Option.some.inj h2).symm
theorem vx_callSW (X : Stand p l e R s m args below meth c T locs cells slots) (hexec : p.tables.exec = Jvm.exec) {own : String} {index : Nat} {y : MethodName} {bytes : ByteArray} {maxL : Nat} {ret : Option FieldType} {hh : List (Nat × Nat × Nat × Nat)}
    (hown : s.vm.findClass own = some m.cls) (hlink : (Cond.methodLink own index y).before args s = true) (hstat : (Cond.static y).before args s = true) (hinit : (Cond.initialized y.cls).before args s = true)
    (hcode : (Cond.codeWith y bytes maxL ret hh).before args s = true) (hy : y.cls ≠ "java/lang/invoke/MethodHandle" ∧ y.cls ≠ "java/lang/invoke/VarHandle")
    {W9 : Nat} {Pre : Pt → Array Value → Prop} {Post : Pt → Array Value → Option Value → Pt → Prop} (hK : Back l R p e below s args y 3 W9 Pre Post)
    {g : JFrame} (hg : g.method = m) (hsize : g.locals.size = c.maxLocals) {argsL rest : List Value} (hlen : ∀ sig, parseMethodDescriptor y.desc = some sig → argsL.length = sig.parameters.length)
    (hstack : g.stack = argsL.reverse ++ rest) (hW : 2 * g.monitorRoom + (rest.map fun v => v.category).sum ≤ W9) (hdg : decode c.code g.pc = .ok (.invokestatic index, 3))
    (hpre : ∀ vm₁, s.WarmedH vm₁ → Pre ⟨T.setVm vm₁, locs, cells, slots⟩ argsL.toArray) :
    ∃ (v : Option Value) (vm₁ : Vm) (B : Pt), s.WarmedH vm₁ ∧ Stand p l e R s m args below meth c B.U B.locs B.cells B.slots ∧ Post ⟨T.setVm vm₁, locs, cells, slots⟩ argsL.toArray v B ∧
      ∀ target, Steps p.tables e below (B.U.setTop { g with pc := g.pc + 3, stack := v.toList ++ rest }) target → Steps p.tables e below (T.setTop g) target := by
  obtain ⟨mk, methM, cM, hnamed, hmethM, -, -, -, -, -, -, hsigM⟩ := Cond.codeWith_spec hcode
  have hstatic : methM.isStatic = true := Cond.static_spec hnamed hmethM hstat
  obtain ⟨kP, hkP, -⟩ := className_of_methodNamed hnamed
  have hinitP : kP.init = .initialized := Cond.initialized_spec (findClass_of_methodNamed hnamed) hkP hinit
  obtain ⟨vm₁, X₁, hstep₁⟩ := X.invokestatic hexec hown hlink hnamed hmethM hstatic hkP hinitP hy (g := g) hg (argsL := argsL) (rest := rest) (hlen _ hsigM) hstack hdg
  obtain ⟨v, B, X', hpost, hsteps⟩ := hK m meth c ⟨T.setVm vm₁, locs, cells, slots⟩ { g with stack := rest } (.invokestatic index) mk argsL.toArray X₁ hg hsize hdg hW (X₁.named hnamed) (hpre vm₁ X₁.warmed)
  exact ⟨v, vm₁, B, X₁.warmed, X', hpost, fun target h => hstep₁ _ fun acts => by rw [doInvoke_state]; exact hsteps.trans h⟩
theorem vx_runSW {y : MethodName} {bytes cc : ByteArray} {maxL nL mc ms n index : Nat} {ret : Option FieldType} {hh : List (Nat × Nat × Nat × Nat)} {ws : List Cond} {rm : Room} {Pc : Array Value → State → Prop} {Qc : Array Value → State → Outcome → State → Prop} {free : Addr → Prop} {Ts : List Cond} {own : String} {As rest : List Value} {g : JFrame}
    (S : CallFix p m c cc nL s args Ts own) (hM : Met l y ws rm Pc Qc mc ms free) (cw : vx_CSW R s args own index y bytes maxL ret hh ws rm mc ms n) (hp : PreS s H Pc As)
    (hg : g.method = m) (hn : As.length = n) (hsize : g.locals.size = nL) (hstack : g.stack = As.reverse ++ rest) (hW : 2 * g.monitorRoom + (rest.map fun v => v.category).sum ≤ 8) (hdg : decode cc g.pc = .ok (.invokestatic index, 3)) (hf : cells + mc ≤ R.cells ∧ slots + ms ≤ R.slots) :
    va_Run p l e R s m args below meth c H locs cells slots mc ms g rest (Qc As.toArray) (free) := by
  obtain ⟨⟨hrc, hrs, hfr, hlo, hws, hcw⟩, hcode, hini, hy, hlen, hl, hstt⟩ := cw
  have hK : Back l R p e below s args y 3 8 (PreOf R mc ms Pc) (PostOf Qc mc ms free) := va_backW (hh := hh) (bytes := bytes) (maxL := maxL) (ret := ret) hM hp.1 hrc hrs hfr hlo hws hcw (fun a' U hW => word_at hW (Or.inl (by first | rfl | simp [Cond.onTables, Cond.keeps, Cond.steady])) hini)
  obtain ⟨hx, hb, hml, ho, -⟩ := S
  intro T hT X
  obtain ⟨v, vm₁, ⟨U', l2, c2, s2⟩, hW₁, X', ⟨g', mk, t, L, e1, e2, hq, h1, hL, h2, h3⟩, st⟩ := vx_callSW X hx (hh := hh) (bytes := bytes) (maxL := maxL) (ret := ret) ho hl hstt hini hcode hy hK hg (hsize.trans hml.symm) (argsL := As) (rest := rest) (fun sig h => hn.trans (hlen sig h)) hstack hW (by rw [hb]; exact hdg)
    (fun vm₁ hW₁ => ⟨hf.1, hf.2, hp.2 (T.setVm vm₁) hT hW₁⟩)
  dsimp only [Pt.U, Pt.locs, Pt.cells, Pt.slots] at X' e1 e2 h1 h2 h3 st
  subst h1; subst h2; subst h3
  exact ⟨v, (T.setVm vm₁).calling g' mk As.toArray, t, U', L, hT, X', hL, e1, e2, hq, st⟩
/-- not caught here, past rows that name other classes: it goes on to the caller -/
theorem vx_outP {p : Program} {l : Launch} {e : Env} {R : Room} {s : State} {m : MethodId} {args : Array Value} {below : List Frame} {meth : Method} {c : Code} {H : Heap} {locs : List Loc} {cells slots : Nat} {free : Addr → Prop} {ls : Array Slot} {rest : List Value} {Qc : Array Value → State → Outcome → State → Prop} {XC : String → State → State → Prop}
    {pc : Nat} {own E : String} {ce : Cell} {q : Addr} {mc ms : Nat} (hown : s.vm.findClass own = some m.cls) (hlocks : meth.locks = false)
    (hpass : ∀ z ∈ c.exceptionTable.toList, covers z pc = false ∨ (z.catchType ≠ 0 ∧ ∃ nm : String, (Cond.classLink own z.catchType nm).before args s = true ∧ va_Nc E nm s)) (hcell : H[q]? = some ce) (hv : ce.vm = .none) (hcl : s.vm.findClass E = some ce.cls)
    (hx : ∀ t : State, t.heap = H → s.vm.Alike t.vm → XC E s t) (hf : ∀ z ∈ locs, free z.base) (hc : cells ≤ mc) (hs : slots ≤ ms) :
    vx_W p l e R s m args below meth c H locs cells slots (vx_MQ below Qc XC args s mc ms free) (F0 m pc ls rest) q := by
  intro T hT X
  have hpl : e.platform.magicAccessors = ({} : Platform).magicAccessors := by rw [X.admits.platform]
  obtain ⟨vm', hW', X', st⟩ := X.outThrough hlocks q (g := F0 m pc ls rest) rfl rfl rfl (cell := ce) (by rw [hT]; exact hcell) (by rw [hv]; rfl)
    (by obtain ⟨k9, h9, -⟩ := Vm.findClass_spec hcl; exact ⟨k9, h9⟩) (fun z hz => by
      rcases hpass z hz with h | ⟨hz0, nm, hl1, hn1⟩
      · exact Or.inl h
      · obtain ⟨c6, hc6, hcl6⟩ := Cond.classLink_spec hown hl1 e.platform hpl
        obtain ⟨a8, b8, h1, h2, h3⟩ := hn1
        cases Option.some.inj (h1.symm.trans hcl)
        cases Option.some.inj (h2.symm.trans hc6)
        exact Or.inr ⟨hz0, _, hcl6, h3⟩)
  obtain ⟨g₀, hfr⟩ := X'.frames_eq
  have hcell9 : ((T.setVm vm').setFrames (.throwing q :: below)).heap[q]? = some ce := by
    show T.heap[q]? = some ce
    rw [hT]; exact hcell
  have hend : Ended ((T.setVm vm').setFrames (.throwing q :: below)) below (.threw q) := State.frames_setFrames _ (State.cur_lt_of_frames hfr)
  refine ⟨(T.setVm vm').setFrames (.throwing q :: below), ?_, .threw q, X'.here.running, hend, Or.inr ⟨q, rfl, E, ce, locs, hx _ hT (X'.ends _).1.alike, hcell9, hv, hcl, (X'.ends _).1, (X'.ends _).2.mono hc hs, hf⟩⟩
  rw [X.pushThrowing_eq]
  exact st
/-- a thing of a world lies in the heap -/
theorem vx_lt {D : va_G} {cl : List vw_C} {ws : va_W} {H1 : Heap} (h : va_P D cl ws H1) {k : Nat} {q : Nat × va_E} (hk : ws[k]? = some q) : q.1 < H1.size := (h k q hk).lt
end VXS
/-! ===== END ===== -/
/-! ===== BEGIN methods with a table of their own: called by a name, returning or throwing ===== -/
section VXH
/-! vx_backW, vx_callVX, vx_callSX, vx_callVW, vx_runVW, vx_runVX, vx_runSX, vx_ofWH follow the same proofs as their sisters above (Free/Laws.lean, Shelf42/LK1.lean); vx_outP calls Shelf42/NT130.lean (outThrough). -/
section
variable {l : Launch} {R : Room} {p : Program} {e : Env} {below : List Frame} {s : State} {sargs : Array Value} {y : MethodName} {len W9 : Nat}
theorem vx_backW {ws : List Cond} {rm : Room} {Pc : Array Value → State → Prop} {Qc : Array Value → State → Outcome → State → Prop} {XC : String → State → State → Prop} {mc ms : Nat} {free : Addr → Prop} {bytes : ByteArray} {maxL : Nat} {ret : Option FieldType} {hh : List (Nat × Nat × Nat × Nat)}
    (hM : vx_Met l y ws rm Pc Qc XC mc ms free) (hblind : FrameBlind Pc) (hrc : rm.cells = mc) (hrs : rm.slots = ms)
    (hframes : rm.frames + 1 ≤ R.frames) (hlocals : W9 + (maxL + 11) + rm.locals ≤ R.locals)
    (hws : ∀ w ∈ ws, ∀ a' U, s.WarmedH U.vm → w.before a' U = true) (hcode : Cond.codeWith y bytes maxL ret hh ∈ ws) (hinit : ∀ a' U, s.WarmedH U.vm → (Cond.initialized y.cls).before a' U = true) :
    vx_Back l R p e below s sargs y len W9 (PreOf R mc ms Pc) (PostOf Qc mc ms free) (vx_Post XC mc ms free) := by
  intro m meth c A g ig mk a X hg hsize hdg hW hn hp
  have h1 : (headSpec ws rm).pre.before a A.U = true := atoms_intro fun w hw => hws w hw _ _ X.warmed
  have h2 : (Cond.codeWith y bytes maxL ret hh).before a A.U = true := hws _ hcode _ _ X.warmed
  have h3 : (Cond.initialized y.cls).before a A.U = true := hinit _ _ X.warmed
  have h4 : A.cells + (headSpec ws rm).room.cells ≤ R.cells := by rw [show (headSpec ws rm).room.cells = mc from hrc]; exact hp.1
  have h5 : A.slots + (headSpec ws rm).room.slots ≤ R.slots := by rw [show (headSpec ws rm).room.slots = ms from hrs]; exact hp.2.1
  have hPc : Pc a (A.U.calling g mk a) := hblind _ _ _ _ hp.2.2
  obtain ⟨U, Ls, c0, s0⟩ := A
  dsimp only [Pt.U, Pt.locs, Pt.cells, Pt.slots] at h1 h2 h3 h4 h5 X hn hPc ⊢
  obtain ⟨m9, methY, cY, hn9, hmY, hcY, -, hlY, -⟩ := Cond.codeWith_spec h2
  cases Option.some.inj (hn9.symm.trans hn)
  obtain ⟨kY, hkY, -⟩ := className_of_methodNamed hn
  have hinitY : kY.init = .initialized := Cond.initialized_spec (findClass_of_methodNamed hn) hkY h3
  have h : At U g.method c below := by rw [hg]; exact X.here
  have hlocals9 : W9 + (maxL + 11) + (headSpec ws rm).room.locals ≤ R.locals := hlocals
  have happ : (headSpec ws rm).appliesLoose y e.platform (U.calling g mk a) = true :=
    Spec.appliesLoose_calling (g := g) h hdg hn hkY hinitY
      (X.room_calling (g := g) (R' := (headSpec ws rm).room) hsize hmY hcY hframes (by rw [hlY]; omega) h4 h5) h1
  obtain ⟨mid, hmid⟩ := h.above
  have hfr : (U.setTop g).frames = (.java g :: mid) ++ below := by rw [State.frames_setTop' g h.top, hmid]; rfl
  obtain ⟨o, s₂, hsteps, -, hend, hq⟩ := Steps.callFree hM p X.admits X.cas X.clock (acts := []) hfr happ hPc trivial
  have hq' : vx_Q Qc XC mc ms free a (U.calling g mk a) o s₂ := hq
  rw [State.frames_setTop' g h.top] at hend
  obtain ⟨g₀, hg0⟩ := Option.isSome_iff_exists.mp h.top
  obtain ⟨r, hr⟩ := State.topJava?_eq_some.mp hg0
  have hr' : (({ U with heap := s₂.heap, slotsUsed := s₂.slotsUsed } : State).setVm s₂.vm).frames = .java g₀ :: r := hr
  rcases hq' with ⟨hqc, L, hfe, hL⟩ | ⟨q, rfl, E, ce, L, hx, hce, hcv, hcl, hW₂, hsm, hL⟩
  · obtain ⟨⟨v, rfl⟩, hW₂, e2, q2, q3, q4, q5, q6⟩ := id hfe
    have e3 : s₂ = ({ (U.calling g mk a).setFrames s₂.frames with heap := s₂.heap, slotsUsed := s₂.slotsUsed } : State).setVm s₂.vm := by
      have : s₂ = ({ s₂ with vm := (U.calling g mk a).vm } : State).setVm s₂.vm := rfl
      rw [e2] at this
      exact this
    obtain ⟨c₂, i₂, len₂, hc₂, hd₂, hf₂⟩ := hend
    have hW' : U.WarmedH s₂.vm := hW₂
    have hcc : c₂ = c := by
      have h1 : s₂.code? g.method = U.code? g.method := by
        rw [State.code?_eq, State.code?_eq, hW'.alike.method?]
      exact Option.some.inj (hc₂.symm.trans (h1.trans h.code))
    subst hcc
    have hlen : len₂ = len := by rw [hdg] at hd₂; cases hd₂; rfl
    subst hlen
    have hs₂ : s₂ = (({ U with heap := s₂.heap, slotsUsed := s₂.slotsUsed } : State).setVm s₂.vm).setTop { g with pc := g.pc + len₂, stack := v.toList ++ g.stack } := by
      refine e3.trans ?_
      rw [hf₂, State.calling_eq h.top, State.setFrames_setFrames, State.setTop_of_frames _ hr', hr]
      rfl
    have hsame : U.sameButNew ({ U with heap := s₂.heap, slotsUsed := s₂.slotsUsed } : State) L mc ms := by
      refine ⟨?_, q2, q3, q4, q5, q6⟩
      obtain ⟨t, ht, -⟩ := State.frames_cons hr
      show ({ U with heap := s₂.heap, slotsUsed := s₂.slotsUsed } : State) = { U.setFrames U.frames with heap := s₂.heap, slotsUsed := s₂.slotsUsed }
      rw [State.setFrames_self ht]
    subst hg
    refine Or.inl ⟨v, ⟨(({ U with heap := s₂.heap, slotsUsed := s₂.slotsUsed } : State).setVm s₂.vm), Ls ++ L, c0 + mc, s0 + ms⟩,
      ⟨X.admits, X.cas, X.clock, X.frames, X.room, X.hears, X.method, X.code, (X.here.setHeapUsed s₂.heap s₂.slotsUsed).setVm hW'.alike, X.tail, State.WarmedH.trans X.warmed hW', X.limits, X.bytes, X.same.trans (hsame.setVm s.vm)⟩,
      ⟨g, mk, s₂, L, rfl, rfl, hqc, rfl, hL, rfl, rfl⟩, ?_⟩
    show Steps p.tables e below _ ((({ U with heap := s₂.heap, slotsUsed := s₂.slotsUsed } : State).setVm s₂.vm).setTop { g with pc := g.pc + len₂, stack := v.toList ++ g.stack })
    rw [← hs₂]
    exact hsteps
  · obtain ⟨e2, q2, q3, q4, q5, q6⟩ := id hsm
    have e3 : s₂ = ({ (U.calling g mk a).setFrames s₂.frames with heap := s₂.heap, slotsUsed := s₂.slotsUsed } : State).setVm s₂.vm := by
      have : s₂ = ({ s₂ with vm := (U.calling g mk a).vm } : State).setVm s₂.vm := rfl
      rw [e2] at this
      exact this
    have hf₂ : s₂.frames = .throwing q :: .java g :: U.frames.tail := hend
    have hW' : U.WarmedH s₂.vm := hW₂
    have hs₂ : s₂ = ((({ U with heap := s₂.heap, slotsUsed := s₂.slotsUsed } : State).setVm s₂.vm).setTop g).pushFrame (.throwing q) := by
      refine e3.trans ?_
      rw [hf₂, State.calling_eq h.top, State.setFrames_setFrames, State.pushFrame, State.frames_setTop _ hr', State.setTop_of_frames _ hr', State.setFrames_setFrames, hr]
      rfl
    have hsame : U.sameButNew ({ U with heap := s₂.heap, slotsUsed := s₂.slotsUsed } : State) L mc ms := by
      refine ⟨?_, q2, q3, q4, q5, q6⟩
      obtain ⟨t, ht, -⟩ := State.frames_cons hr
      show ({ U with heap := s₂.heap, slotsUsed := s₂.slotsUsed } : State) = { U.setFrames U.frames with heap := s₂.heap, slotsUsed := s₂.slotsUsed }
      rw [State.setFrames_self ht]
    subst hg
    refine Or.inr ⟨q, ⟨(({ U with heap := s₂.heap, slotsUsed := s₂.slotsUsed } : State).setVm s₂.vm), Ls ++ L, c0 + mc, s0 + ms⟩,
      ⟨X.admits, X.cas, X.clock, X.frames, X.room, X.hears, X.method, X.code, (X.here.setHeapUsed s₂.heap s₂.slotsUsed).setVm hW'.alike, X.tail, State.WarmedH.trans X.warmed hW', X.limits, X.bytes, X.same.trans (hsame.setVm s.vm)⟩,
      ⟨g, mk, s₂, L, E, ce, rfl, rfl, hx, hce, hcv, hcl, rfl, hL, rfl, rfl⟩, ?_⟩
    show Steps p.tables e below _ (((({ U with heap := s₂.heap, slotsUsed := s₂.slotsUsed } : State).setVm s₂.vm).setTop g).pushFrame (.throwing q))
    rw [← hs₂]
    exact hsteps
end
variable {p : Program} {l : Launch} {e : Env} {R : Room} {s : State} {m : MethodId} {args : Array Value} {below : List Frame} {meth : Method} {c : Code} {T : State} {H : Heap} {locs : List Loc} {cells slots : Nat}
theorem vx_callVX (X : Stand p l e R s m args below meth c T locs cells slots) (hexec : p.tables.exec = Jvm.exec) {own C : String} {index : Nat} {y : MethodName} {bytes : ByteArray} {maxL : Nat} {ret : Option FieldType} {hh : List (Nat × Nat × Nat × Nat)}
    (hown : s.vm.findClass own = some m.cls) (hlink : (Cond.methodLink own index y).before args s = true) (hinst : (Cond.instanceMethod y).before args s = true) (hsel : (Cond.selects C y y).before args s = true)
    (hcode : (Cond.codeWith y bytes maxL ret hh).before args s = true) (hy : y.cls ≠ "java/lang/invoke/MethodHandle" ∧ y.cls ≠ "java/lang/invoke/VarHandle")
    {W9 : Nat} {Pre : Pt → Array Value → Prop} {Post : Pt → Array Value → Option Value → Pt → Prop} {PostX : Pt → Array Value → Addr → Pt → Prop} (hK : vx_Back l R p e below s args y 3 W9 Pre Post PostX)
    {b : Addr} {cellB : Cell} (hcell : T.heap[b]? = some cellB) (hobj : cellB.vm.isStatics = false) (hcls : s.vm.findClass C = some cellB.cls)
    {g : JFrame} (hg : g.method = m) (hsize : g.locals.size = c.maxLocals) {argsL rest : List Value} (hlen : ∀ sig, parseMethodDescriptor y.desc = some sig → argsL.length = sig.parameters.length)
    (hstack : g.stack = argsL.reverse ++ .ref b :: rest) (hW : 2 * g.monitorRoom + (rest.map fun v => v.category).sum ≤ W9) (hdg : decode c.code g.pc = .ok (.invokevirtual index, 3))
    (hpre : ∀ vm₁, s.WarmedH vm₁ → Pre ⟨T.setVm vm₁, locs, cells, slots⟩ (Value.ref b :: argsL).toArray) :
    (∃ (v : Option Value) (vm₁ : Vm) (B : Pt), s.WarmedH vm₁ ∧ Stand p l e R s m args below meth c B.U B.locs B.cells B.slots ∧ Post ⟨T.setVm vm₁, locs, cells, slots⟩ (Value.ref b :: argsL).toArray v B ∧
      ∀ target, Steps p.tables e below (B.U.setTop { g with pc := g.pc + 3, stack := v.toList ++ rest }) target → Steps p.tables e below (T.setTop g) target) ∨
    (∃ (q : Addr) (vm₁ : Vm) (B : Pt), s.WarmedH vm₁ ∧ Stand p l e R s m args below meth c B.U B.locs B.cells B.slots ∧ PostX ⟨T.setVm vm₁, locs, cells, slots⟩ (Value.ref b :: argsL).toArray q B ∧
      Steps p.tables e below (T.setTop g) ((B.U.setTop { g with stack := rest }).pushFrame (.throwing q))) := by
  obtain ⟨mk, methM, hnamed, hmethM, hstM, habM⟩ := Cond.instanceMethod_spec hinst
  obtain ⟨m8, methM', cM, hn8, hmethM', -, -, -, -, -, -, hsigM⟩ := Cond.codeWith_spec hcode
  cases Option.some.inj (hn8.symm.trans hnamed)
  cases hmethM.symm.trans hmethM'
  obtain ⟨c2, r2, m2, q1, q2, q3, q4, kP, hkP, hkPi⟩ := Cond.selects_spec hsel
  cases hcls.symm.trans q1
  cases (State.methodFound?_of_named hnamed hy).symm.trans q2
  cases hnamed.symm.trans q3
  have hselP : selectMethod e.platform s.vm cellB.cls mk = .method mk := by rw [Launch.admits_selectMethod X.admits]; exact q4
  obtain ⟨vm₁, X₁, hstep₁⟩ := X.invokevirtual hexec hown hlink hnamed hmethM hstM hkP hkPi hy (a := b) (cell := cellB) hcell
    (fun z h => by rw [h] at hobj; cases hobj) hselP hmethM habM hkP hkPi (g := g) hg (argsL := argsL) (rest := rest) (hlen _ hsigM) hstack hdg
  rcases hK m meth c ⟨T.setVm vm₁, locs, cells, slots⟩ { g with stack := rest } (.invokevirtual index) mk (Value.ref b :: argsL).toArray X₁ hg hsize hdg hW (X₁.named hnamed) (hpre vm₁ X₁.warmed) with ⟨v, B, X', hpost, hsteps⟩ | ⟨q, B, X', hpost, hsteps⟩
  · exact Or.inl ⟨v, vm₁, B, X₁.warmed, X', hpost, fun target h => hstep₁ _ fun acts => by rw [doInvoke_state]; exact hsteps.trans h⟩
  · exact Or.inr ⟨q, vm₁, B, X₁.warmed, X', hpost, hstep₁ _ fun acts => by rw [doInvoke_state]; exact hsteps⟩
theorem vx_callSX (X : Stand p l e R s m args below meth c T locs cells slots) (hexec : p.tables.exec = Jvm.exec) {own : String} {index : Nat} {y : MethodName} {bytes : ByteArray} {maxL : Nat} {ret : Option FieldType} {hh : List (Nat × Nat × Nat × Nat)}
    (hown : s.vm.findClass own = some m.cls) (hlink : (Cond.methodLink own index y).before args s = true) (hstat : (Cond.static y).before args s = true) (hinit : (Cond.initialized y.cls).before args s = true)
    (hcode : (Cond.codeWith y bytes maxL ret hh).before args s = true) (hy : y.cls ≠ "java/lang/invoke/MethodHandle" ∧ y.cls ≠ "java/lang/invoke/VarHandle")
    {W9 : Nat} {Pre : Pt → Array Value → Prop} {Post : Pt → Array Value → Option Value → Pt → Prop} {PostX : Pt → Array Value → Addr → Pt → Prop} (hK : vx_Back l R p e below s args y 3 W9 Pre Post PostX)
    {g : JFrame} (hg : g.method = m) (hsize : g.locals.size = c.maxLocals) {argsL rest : List Value} (hlen : ∀ sig, parseMethodDescriptor y.desc = some sig → argsL.length = sig.parameters.length)
    (hstack : g.stack = argsL.reverse ++ rest) (hW : 2 * g.monitorRoom + (rest.map fun v => v.category).sum ≤ W9) (hdg : decode c.code g.pc = .ok (.invokestatic index, 3))
    (hpre : ∀ vm₁, s.WarmedH vm₁ → Pre ⟨T.setVm vm₁, locs, cells, slots⟩ argsL.toArray) :
    (∃ (v : Option Value) (vm₁ : Vm) (B : Pt), s.WarmedH vm₁ ∧ Stand p l e R s m args below meth c B.U B.locs B.cells B.slots ∧ Post ⟨T.setVm vm₁, locs, cells, slots⟩ argsL.toArray v B ∧
      ∀ target, Steps p.tables e below (B.U.setTop { g with pc := g.pc + 3, stack := v.toList ++ rest }) target → Steps p.tables e below (T.setTop g) target) ∨
    (∃ (q : Addr) (vm₁ : Vm) (B : Pt), s.WarmedH vm₁ ∧ Stand p l e R s m args below meth c B.U B.locs B.cells B.slots ∧ PostX ⟨T.setVm vm₁, locs, cells, slots⟩ argsL.toArray q B ∧
      Steps p.tables e below (T.setTop g) ((B.U.setTop { g with stack := rest }).pushFrame (.throwing q))) := by
  obtain ⟨mk, methM, cM, hnamed, hmethM, -, -, -, -, -, -, hsigM⟩ := Cond.codeWith_spec hcode
  have hstatic : methM.isStatic = true := Cond.static_spec hnamed hmethM hstat
  obtain ⟨kP, hkP, -⟩ := className_of_methodNamed hnamed
  have hinitP : kP.init = .initialized := Cond.initialized_spec (findClass_of_methodNamed hnamed) hkP hinit
  obtain ⟨vm₁, X₁, hstep₁⟩ := X.invokestatic hexec hown hlink hnamed hmethM hstatic hkP hinitP hy (g := g) hg (argsL := argsL) (rest := rest) (hlen _ hsigM) hstack hdg
  rcases hK m meth c ⟨T.setVm vm₁, locs, cells, slots⟩ { g with stack := rest } (.invokestatic index) mk argsL.toArray X₁ hg hsize hdg hW (X₁.named hnamed) (hpre vm₁ X₁.warmed) with ⟨v, B, X', hpost, hsteps⟩ | ⟨q, B, X', hpost, hsteps⟩
  · exact Or.inl ⟨v, vm₁, B, X₁.warmed, X', hpost, fun target h => hstep₁ _ fun acts => by rw [doInvoke_state]; exact hsteps.trans h⟩
  · exact Or.inr ⟨q, vm₁, B, X₁.warmed, X', hpost, hstep₁ _ fun acts => by rw [doInvoke_state]; exact hsteps⟩
theorem vx_callVW (X : Stand p l e R s m args below meth c T locs cells slots) (hexec : p.tables.exec = Jvm.exec) {own C : String} {index : Nat} {y : MethodName} {bytes : ByteArray} {maxL : Nat} {ret : Option FieldType} {hh : List (Nat × Nat × Nat × Nat)}
    (hown : s.vm.findClass own = some m.cls) (hlink : (Cond.methodLink own index y).before args s = true) (hinst : (Cond.instanceMethod y).before args s = true) (hsel : (Cond.selects C y y).before args s = true)
    (hcode : (Cond.codeWith y bytes maxL ret hh).before args s = true) (hy : y.cls ≠ "java/lang/invoke/MethodHandle" ∧ y.cls ≠ "java/lang/invoke/VarHandle")
    {W9 : Nat} {Pre : Pt → Array Value → Prop} {Post : Pt → Array Value → Option Value → Pt → Prop} (hK : Back l R p e below s args y 3 W9 Pre Post)
    {b : Addr} {cellB : Cell} (hcell : T.heap[b]? = some cellB) (hobj : cellB.vm.isStatics = false) (hcls : s.vm.findClass C = some cellB.cls)
    {g : JFrame} (hg : g.method = m) (hsize : g.locals.size = c.maxLocals) {argsL rest : List Value} (hlen : ∀ sig, parseMethodDescriptor y.desc = some sig → argsL.length = sig.parameters.length)
    (hstack : g.stack = argsL.reverse ++ .ref b :: rest) (hW : 2 * g.monitorRoom + (rest.map fun v => v.category).sum ≤ W9) (hdg : decode c.code g.pc = .ok (.invokevirtual index, 3))
    (hpre : ∀ vm₁, s.WarmedH vm₁ → Pre ⟨T.setVm vm₁, locs, cells, slots⟩ (Value.ref b :: argsL).toArray) :
    ∃ (v : Option Value) (vm₁ : Vm) (B : Pt), s.WarmedH vm₁ ∧ Stand p l e R s m args below meth c B.U B.locs B.cells B.slots ∧ Post ⟨T.setVm vm₁, locs, cells, slots⟩ (Value.ref b :: argsL).toArray v B ∧
      ∀ target, Steps p.tables e below (B.U.setTop { g with pc := g.pc + 3, stack := v.toList ++ rest }) target → Steps p.tables e below (T.setTop g) target := by
  obtain ⟨mk, methM, hnamed, hmethM, hstM, habM⟩ := Cond.instanceMethod_spec hinst
  obtain ⟨m8, methM', cM, hn8, hmethM', -, -, -, -, -, -, hsigM⟩ := Cond.codeWith_spec hcode
  cases Option.some.inj (hn8.symm.trans hnamed)
  cases hmethM.symm.trans hmethM'
  obtain ⟨c2, r2, m2, q1, q2, q3, q4, kP, hkP, hkPi⟩ := Cond.selects_spec hsel
  cases hcls.symm.trans q1
  cases (State.methodFound?_of_named hnamed hy).symm.trans q2
  cases hnamed.symm.trans q3
  have hselP : selectMethod e.platform s.vm cellB.cls mk = .method mk := by rw [Launch.admits_selectMethod X.admits]; exact q4
  obtain ⟨vm₁, X₁, hstep₁⟩ := X.invokevirtual hexec hown hlink hnamed hmethM hstM hkP hkPi hy (a := b) (cell := cellB) hcell
    (fun z h => by rw [h] at hobj; cases hobj) hselP hmethM habM hkP hkPi (g := g) hg (argsL := argsL) (rest := rest) (hlen _ hsigM) hstack hdg
  obtain ⟨v, B, X', hpost, hsteps⟩ := hK m meth c ⟨T.setVm vm₁, locs, cells, slots⟩ { g with stack := rest } (.invokevirtual index) mk (Value.ref b :: argsL).toArray X₁ hg hsize hdg hW (X₁.named hnamed) (hpre vm₁ X₁.warmed)
  exact ⟨v, vm₁, B, X₁.warmed, X', hpost, fun target h => hstep₁ _ fun acts => by rw [doInvoke_state]; exact hsteps.trans h⟩
abbrev vx_CVW (R : Room) (s : State) (args : Array Value) (own C : String) (index : Nat) (y : MethodName) (bytes : ByteArray) (maxL : Nat) (ret : Option FieldType) (hh : List (Nat × Nat × Nat × Nat)) (ws : List Cond) (rm : Room) (mc ms n : Nat) : Prop :=
  (rm.cells = mc ∧ rm.slots = ms ∧ rm.frames + 1 ≤ R.frames ∧ 8 + (maxL + 11) + rm.locals ≤ R.locals ∧ (∀ w ∈ ws, ∀ (a' : Array Value) (U : State), s.WarmedH U.vm → w.before a' U = true) ∧ Cond.codeWith y bytes maxL ret hh ∈ ws) ∧
  (Cond.codeWith y bytes maxL ret hh).before args s = true ∧ (Cond.initialized y.cls).before args s = true ∧ (y.cls ≠ "java/lang/invoke/MethodHandle" ∧ y.cls ≠ "java/lang/invoke/VarHandle") ∧
  (∀ sig, parseMethodDescriptor y.desc = some sig → n = sig.parameters.length) ∧ (Cond.methodLink own index y).before args s = true ∧ (Cond.instanceMethod y).before args s = true ∧ (Cond.selects C y y).before args s = true
theorem vx_cwVW {own C : String} {index maxL mc ms : Nat} {y : MethodName} {bytes : ByteArray} {ret : Option FieldType} {hh : List (Nat × Nat × Nat × Nat)} {Ts ws ws' : List Cond} {rm : Room} (n : Nat) (ht : ∀ w ∈ Ts, w.before args s = true) (hT : GoodIn Ts (wsV own index C y ws)) (hw : ws = Cond.codeWith y bytes maxL ret hh :: ws') (hrc : rm.cells = mc) (hrs : rm.slots = ms)
    (hd : y.cls = C ∧ y.cls ≠ "java/lang/invoke/MethodHandle" ∧ y.cls ≠ "java/lang/invoke/VarHandle" ∧ (parseMethodDescriptor y.desc).map (fun d => d.parameters.length) = some n) (hR : rm.frames + 1 ≤ R.frames ∧ 8 + (maxL + 11) + rm.locals ≤ R.locals) :
    vx_CVW R s args own C index y bytes maxL ret hh ws rm mc ms n := by
  obtain ⟨hC, hd⟩ := hd
  subst hC
  have ok : ∀ w ∈ wsV own index y.cls y ws, w.before args s = true := fun w h => ht w (hT w h).1
  have hG : GoodIn Ts ws := fun w h => hT w (by unfold wsV; exact List.mem_append_right _ h)
  have hc : Cond.codeWith y bytes maxL ret hh ∈ ws := by rw [hw]; exact List.mem_cons_self
  refine ⟨⟨hrc, hrs, hR.1, hR.2, pay_in ht hG, hc⟩, ht _ (hG _ hc).1, ok _ (by simp [wsV]), ⟨hd.1, hd.2.1⟩, fun sig h => ?_, ok _ (by simp [wsV]), ok _ (by simp [wsV]), ok _ (by simp [wsV])⟩
  have h2 := hd.2.2
  rw [h] at h2
  exact (Option.some.inj h2).symm
theorem vx_runVW {y : MethodName} {bytes cc : ByteArray} {maxL nL mc ms n index : Nat} {ret : Option FieldType} {hh : List (Nat × Nat × Nat × Nat)} {ws : List Cond} {rm : Room} {Pc : Array Value → State → Prop} {Qc : Array Value → State → Outcome → State → Prop} {free : Addr → Prop} {Ts : List Cond} {own C : String} {b : Addr} {As rest : List Value} {g : JFrame}
    (S : CallFix p m c cc nL s args Ts own) (hM : Met l y ws rm Pc Qc mc ms free) (cw : vx_CVW R s args own C index y bytes maxL ret hh ws rm mc ms n) (hp : PreV s H C b Pc As)
    (hg : g.method = m) (hn : As.length = n) (hsize : g.locals.size = nL) (hstack : g.stack = As.reverse ++ .ref b :: rest) (hW : 2 * g.monitorRoom + (rest.map fun v => v.category).sum ≤ 8) (hdg : decode cc g.pc = .ok (.invokevirtual index, 3)) (hf : cells + mc ≤ R.cells ∧ slots + ms ≤ R.slots) :
    va_Run p l e R s m args below meth c H locs cells slots mc ms g rest (Qc (Value.ref b :: As).toArray) free := by
  obtain ⟨⟨hrc, hrs, hfr, hlo, hws, hcw⟩, hcode, hini, hy, hlen, hl, hin, hse⟩ := cw
  have hK : Back l R p e below s args y 3 8 (PreOf R mc ms Pc) (PostOf Qc mc ms free) := va_backW (hh := hh) (bytes := bytes) (maxL := maxL) (ret := ret) hM hp.1 hrc hrs hfr hlo hws hcw (fun a' U hW => word_at hW (Or.inl (by first | rfl | simp [Cond.onTables, Cond.keeps, Cond.steady])) hini)
  obtain ⟨hx, hb, hml, ho, -⟩ := S
  obtain ⟨-, ⟨cellB, hcB, hoB, hclB⟩, hPc⟩ := hp
  intro T hT X
  obtain ⟨v, vm₁, ⟨U', l2, c2, s2⟩, hW₁, X', ⟨g', mk, t, L, e1, e2, hq, h1, hL, h2, h3⟩, st⟩ := vx_callVW X hx (C := C) (hh := hh) (bytes := bytes) (maxL := maxL) (ret := ret) ho hl hin hse hcode hy hK (by rw [hT]; exact hcB) hoB hclB hg (hsize.trans hml.symm) (argsL := As) (rest := rest) (fun sig h => hn.trans (hlen sig h)) hstack hW (by rw [hb]; exact hdg)
    (fun vm₁ hW₁ => ⟨hf.1, hf.2, hPc (T.setVm vm₁) hT hW₁⟩)
  dsimp only [Pt.U, Pt.locs, Pt.cells, Pt.slots] at X' e1 e2 h1 h2 h3 st
  subst h1; subst h2; subst h3
  exact ⟨v, (T.setVm vm₁).calling g' mk (Value.ref b :: As).toArray, t, U', L, hT, X', hL, e1, e2, hq, st⟩
section
variable {y : MethodName} {bytes cc : ByteArray} {maxL nL mc ms n index : Nat} {ret : Option FieldType} {ws : List Cond} {rm : Room} {Pc : Array Value → State → Prop} {Qc : Array Value → State → Outcome → State → Prop} {XC : String → State → State → Prop} {free : Addr → Prop} {Ts : List Cond} {own C : String} {b : Addr} {As rest : List Value} {g : JFrame}
theorem vx_runVX {hh : List (Nat × Nat × Nat × Nat)} (S : CallFix p m c cc nL s args Ts own) (hM : vx_Met l y ws rm Pc Qc XC mc ms free) (cw : vx_CVW R s args own C index y bytes maxL ret hh ws rm mc ms n) (hp : PreV s H C b Pc As)
    (hg : g.method = m) (hn : As.length = n) (hsize : g.locals.size = nL) (hstack : g.stack = As.reverse ++ .ref b :: rest) (hW : 2 * g.monitorRoom + (rest.map fun v => v.category).sum ≤ 8) (hdg : decode cc g.pc = .ok (.invokevirtual index, 3)) (hf : cells + mc ≤ R.cells ∧ slots + ms ≤ R.slots) :
    vx_Run p l e R s m args below meth c H locs cells slots mc ms g rest (Qc (Value.ref b :: As).toArray) XC free := by
  obtain ⟨⟨hrc, hrs, hfr, hlo, hws, hcw⟩, hcode, hini, hy, hlen, hl, hin, hse⟩ := cw
  have hK : vx_Back l R p e below s args y 3 8 (PreOf R mc ms Pc) (PostOf Qc mc ms free) (vx_Post XC mc ms free) := vx_backW (hh := hh) (bytes := bytes) (maxL := maxL) (ret := ret) hM hp.1 hrc hrs hfr hlo hws hcw (fun a' U hW => word_at hW (Or.inl (by first | rfl | simp [Cond.onTables, Cond.keeps, Cond.steady])) hini)
  obtain ⟨hx, hb, hml, ho, -⟩ := S
  obtain ⟨-, ⟨cellB, hcB, hoB, hclB⟩, hPc⟩ := hp
  intro T hT X
  rcases vx_callVX X hx (C := C) (hh := hh) (bytes := bytes) (maxL := maxL) (ret := ret) ho hl hin hse hcode hy hK (by rw [hT]; exact hcB) hoB hclB hg (hsize.trans hml.symm) (argsL := As) (rest := rest) (fun sig h => hn.trans (hlen sig h)) hstack hW (by rw [hb]; exact hdg)
    (fun vm₁ hW₁ => ⟨hf.1, hf.2, hPc (T.setVm vm₁) hT hW₁⟩) with ⟨v, vm₁, ⟨U', l2, c2, s2⟩, hW₁, X', ⟨g', mk, t, L, e1, e2, hq, h1, hL, h2, h3⟩, st⟩ | ⟨q, vm₁, ⟨U', l2, c2, s2⟩, hW₁, X', ⟨g', mk, t, L, E, ce, e1, e2, hq, hce, hcv, hcl, h1, hL, h2, h3⟩, st⟩
  · dsimp only [Pt.U, Pt.locs, Pt.cells, Pt.slots] at X' e1 e2 h1 h2 h3 st
    subst h1; subst h2; subst h3
    exact Or.inl ⟨v, (T.setVm vm₁).calling g' mk (Value.ref b :: As).toArray, t, U', L, hT, X', hL, e1, e2, hq, st⟩
  · dsimp only [Pt.U, Pt.locs, Pt.cells, Pt.slots] at X' e1 e2 h1 h2 h3 st hcl
    subst h1; subst h2; subst h3
    exact Or.inr ⟨q, (T.setVm vm₁).calling g' mk (Value.ref b :: As).toArray, t, U', L, E, ce, hT, X', hL, e1, e2, hq, hce, hcv, vx_cls hW₁ hcl, st⟩
theorem vx_runSX {hh : List (Nat × Nat × Nat × Nat)} (S : CallFix p m c cc nL s args Ts own) (hM : vx_Met l y ws rm Pc Qc XC mc ms free) (cw : vx_CSW R s args own index y bytes maxL ret hh ws rm mc ms n) (hp : PreS s H Pc As)
    (hg : g.method = m) (hn : As.length = n) (hsize : g.locals.size = nL) (hstack : g.stack = As.reverse ++ rest) (hW : 2 * g.monitorRoom + (rest.map fun v => v.category).sum ≤ 8) (hdg : decode cc g.pc = .ok (.invokestatic index, 3)) (hf : cells + mc ≤ R.cells ∧ slots + ms ≤ R.slots) :
    vx_Run p l e R s m args below meth c H locs cells slots mc ms g rest (Qc As.toArray) XC free := by
  obtain ⟨⟨hrc, hrs, hfr, hlo, hws, hcw⟩, hcode, hini, hy, hlen, hl, hstt⟩ := cw
  have hK : vx_Back l R p e below s args y 3 8 (PreOf R mc ms Pc) (PostOf Qc mc ms free) (vx_Post XC mc ms free) := vx_backW (hh := hh) (bytes := bytes) (maxL := maxL) (ret := ret) hM hp.1 hrc hrs hfr hlo hws hcw (fun a' U hW => word_at hW (Or.inl (by first | rfl | simp [Cond.onTables, Cond.keeps, Cond.steady])) hini)
  obtain ⟨hx, hb, hml, ho, -⟩ := S
  intro T hT X
  rcases vx_callSX X hx (hh := hh) (bytes := bytes) (maxL := maxL) (ret := ret) ho hl hstt hini hcode hy hK hg (hsize.trans hml.symm) (argsL := As) (rest := rest) (fun sig h => hn.trans (hlen sig h)) hstack hW (by rw [hb]; exact hdg)
    (fun vm₁ hW₁ => ⟨hf.1, hf.2, hp.2 (T.setVm vm₁) hT hW₁⟩) with ⟨v, vm₁, ⟨U', l2, c2, s2⟩, hW₁, X', ⟨g', mk, t, L, e1, e2, hq, h1, hL, h2, h3⟩, st⟩ | ⟨q, vm₁, ⟨U', l2, c2, s2⟩, hW₁, X', ⟨g', mk, t, L, E, ce, e1, e2, hq, hce, hcv, hcl, h1, hL, h2, h3⟩, st⟩
  · dsimp only [Pt.U, Pt.locs, Pt.cells, Pt.slots] at X' e1 e2 h1 h2 h3 st
    subst h1; subst h2; subst h3
    exact Or.inl ⟨v, (T.setVm vm₁).calling g' mk As.toArray, t, U', L, hT, X', hL, e1, e2, hq, st⟩
  · dsimp only [Pt.U, Pt.locs, Pt.cells, Pt.slots] at X' e1 e2 h1 h2 h3 st hcl
    subst h1; subst h2; subst h3
    exact Or.inr ⟨q, (T.setVm vm₁).calling g' mk As.toArray, t, U', L, E, ce, hT, X', hL, e1, e2, hq, hce, hcv, vx_cls hW₁ hcl, st⟩
end
end VXH
theorem vx_ofWH {l : Launch} {y : MethodName} {ws ws' : List Cond} {rm : Room} {Pc : Array Value → State → Prop} {Qc : Array Value → State → Outcome → State → Prop} {XC : String → State → State → Prop} {mc ms : Nat} {free : Addr → Prop} {cc : ByteArray} {maxL : Nat} {ret : Option FieldType} {hh : List (Nat × Nat × Nat × Nat)}
    (hy : plainName y.cls = true) (hw : ws = Cond.codeWith y cc maxL ret hh :: ws')
    (body : ∀ p e s m args below meth c s₁, BodyLoose p l y (headSpec ws rm) cc maxL ret e s m args below meth c s₁ → c.maxLocals = maxL → Pc args s →
      W p l e (headSpec ws rm).room s m args below meth c s.heap [] 0 0 (vx_MQ below Qc XC args s mc ms free) (entryFrame m args maxL)) : vx_Met l y ws rm Pc Qc XC mc ms free := by
  refine MetFree.of_bodyS (code := cc) (maxLocals := maxL) (ret := ret) hy ?_ ?_
  · intro args s m h hn
    obtain ⟨m9, meth, c, hn9, h1, h2, h3, h4, -, h5, h6, -⟩ := Cond.codeWith_spec (atoms_spec (ws := ws) h _ (by rw [hw]; exact List.mem_cons_self))
    cases hn.symm.trans hn9
    exact ⟨meth, c, h1, h2, h3, h4, h5, h6⟩
  · intro p e s m args below meth c s₁ B hml hP _
    have hh0 : s₁.heap = s.heap := by rw [B.state]; rfl
    obtain ⟨t, a1, o, b1, b2, b3⟩ := body p e s m args below meth c s₁ B hml hP s₁ hh0 (Stand.of_body B)
    exact ⟨t, o, a1, b1, b2, b3⟩
/-! ===== END ===== -/
end
section
def RX0 : String := "Groupbooks$Balances"
def TX0 : u_T := fun k => match k with
  | 0 => ("Groupbooks$Balances", "claims", "[I", true)
  | _ => ("Groupbooks$Balances", "admissions", "[I", true)
def tyX0 : Nat → FieldType := fun k => match k with
  | 0 => .array .int
  | _ => .array .int
abbrev wsX00 : List Cond := u_ws RX0 TX0 2
theorem nmX0 : ∀ a, a < 2 → ∀ b, b < 2 → a ≠ b → (TX0 a).2.1 ≠ (TX0 b).2.1 := by decide +kernel
theorem tyX0_ok : ∀ k, k < 2 → parseFieldDescriptor (TX0 k).2.2.1 = some (tyX0 k) := by decide +kernel
abbrev cX0_init : ByteArray := prog_2_method_1_code
def yX0_init : MethodName := ⟨RX0, "<init>", "()V"⟩
abbrev cX0_replaceClaim : ByteArray := prog_2_method_2_code
def yX0_replaceClaim : MethodName := ⟨RX0, "replaceClaim", "(III)I"⟩
abbrev cX0_replaceAdmitted : ByteArray := prog_2_method_3_code
def yX0_replaceAdmitted : MethodName := ⟨RX0, "replaceAdmitted", "(III)I"⟩
abbrev cX0_disputed : ByteArray := prog_2_method_4_code
def yX0_disputed : MethodName := ⟨RX0, "disputed", "(II)I"⟩
abbrev cX0_agreedAmong : ByteArray := prog_2_method_5_code
def yX0_agreedAmong : MethodName := ⟨RX0, "agreedAmong", "(I)I"⟩
def RX1 : String := "Groupbooks$Books"
def TX1 : u_T := fun k => match k with
  | 0 => ("Groupbooks$Books", "ownAssets", "[I", true)
  | 1 => ("Groupbooks$Books", "ownDebts", "[I", true)
  | 2 => ("Groupbooks$Books", "ownEquities", "[I", true)
  | 3 => ("Groupbooks$Books", "ownProfits", "[I", true)
  | 4 => ("Groupbooks$Books", "closingRates", "[I", true)
  | 5 => ("Groupbooks$Books", "averageRates", "[I", true)
  | _ => ("Groupbooks$Books", "historicalRates", "[I", true)
def tyX1 : Nat → FieldType := fun k => match k with
  | 0 => .array .int
  | 1 => .array .int
  | 2 => .array .int
  | 3 => .array .int
  | 4 => .array .int
  | 5 => .array .int
  | _ => .array .int
abbrev wsX10 : List Cond := u_ws RX1 TX1 7
theorem nmX1 : ∀ a, a < 7 → ∀ b, b < 7 → a ≠ b → (TX1 a).2.1 ≠ (TX1 b).2.1 := by decide +kernel
theorem tyX1_ok : ∀ k, k < 7 → parseFieldDescriptor (TX1 k).2.2.1 = some (tyX1 k) := by decide +kernel
abbrev cX1_init : ByteArray := prog_3_method_1_code
def yX1_init : MethodName := ⟨RX1, "<init>", "()V"⟩
abbrev cX1_enter : ByteArray := prog_3_method_2_code
def yX1_enter : MethodName := ⟨RX1, "enter", "(IIIII)V"⟩
abbrev cX1_enterRates : ByteArray := prog_3_method_3_code
def yX1_enterRates : MethodName := ⟨RX1, "enterRates", "(IIII)V"⟩
abbrev cX1_assetsOf : ByteArray := prog_3_method_4_code
def yX1_assetsOf : MethodName := ⟨RX1, "assetsOf", "(I)I"⟩
abbrev cX1_debtsOf : ByteArray := prog_3_method_5_code
def yX1_debtsOf : MethodName := ⟨RX1, "debtsOf", "(I)I"⟩
abbrev cX1_equityOf : ByteArray := prog_3_method_6_code
def yX1_equityOf : MethodName := ⟨RX1, "equityOf", "(I)I"⟩
abbrev cX1_profitOf : ByteArray := prog_3_method_7_code
def yX1_profitOf : MethodName := ⟨RX1, "profitOf", "(I)I"⟩
abbrev cX1_netOf : ByteArray := prog_3_method_8_code
def yX1_netOf : MethodName := ⟨RX1, "netOf", "(I)I"⟩
abbrev cX1_translate : ByteArray := prog_3_method_9_code
def yX1_translate : MethodName := ⟨RX1, "translate", "(II)I"⟩
abbrev cX1_carryResults : ByteArray := prog_3_method_10_code
def yX1_carryResults : MethodName := ⟨RX1, "carryResults", "()V"⟩
def RX2 : String := "Groupbooks$Holdings"
def TX2 : u_T := fun k => match k with
  | 0 => ("Groupbooks$Holdings", "percents", "[I", true)
  | 1 => ("Groupbooks$Holdings", "numerators", "[J", true)
  | 2 => ("Groupbooks$Holdings", "denominators", "[J", true)
  | 3 => ("Groupbooks$Holdings", "equations", "[J", true)
  | 4 => ("Groupbooks$Holdings", "amounts", "[I", true)
  | _ => ("Groupbooks$Holdings", "nextAmounts", "[I", true)
def tyX2 : Nat → FieldType := fun k => match k with
  | 0 => .array .int
  | 1 => .array .long
  | 2 => .array .long
  | 3 => .array .long
  | 4 => .array .int
  | _ => .array .int
abbrev wsX20 : List Cond := u_ws RX2 TX2 6
theorem nmX2 : ∀ a, a < 6 → ∀ b, b < 6 → a ≠ b → (TX2 a).2.1 ≠ (TX2 b).2.1 := by decide +kernel
theorem tyX2_ok : ∀ k, k < 6 → parseFieldDescriptor (TX2 k).2.2.1 = some (tyX2 k) := by decide +kernel
abbrev cX2_init : ByteArray := prog_4_method_1_code
def yX2_init : MethodName := ⟨RX2, "<init>", "()V"⟩
abbrev cX2_percentOf : ByteArray := prog_4_method_2_code
def yX2_percentOf : MethodName := ⟨RX2, "percentOf", "(II)I"⟩
abbrev cX2_numeratorOf : ByteArray := prog_4_method_3_code
def yX2_numeratorOf : MethodName := ⟨RX2, "numeratorOf", "(I)J"⟩
abbrev cX2_denominatorOf : ByteArray := prog_4_method_4_code
def yX2_denominatorOf : MethodName := ⟨RX2, "denominatorOf", "(I)J"⟩
abbrev cX2_partOfParent : ByteArray := prog_4_method_5_code
def yX2_partOfParent : MethodName := ⟨RX2, "partOfParent", "(II)I"⟩
abbrev cX2_partOfOthers : ByteArray := prog_4_method_6_code
def yX2_partOfOthers : MethodName := ⟨RX2, "partOfOthers", "(II)I"⟩
abbrev cX2_scale : ByteArray := prog_4_method_7_code
def yX2_scale : MethodName := ⟨RX2, "scale", "(IJJ)I"⟩
abbrev cX2_take : ByteArray := prog_4_method_8_code
def yX2_take : MethodName := ⟨RX2, "take", "(III)Z"⟩
abbrev cX2_heldByAll : ByteArray := prog_4_method_9_code
def yX2_heldByAll : MethodName := ⟨RX2, "heldByAll", "(I)I"⟩
abbrev cX2_determineShares : ByteArray := prog_4_method_10_code
def yX2_determineShares : MethodName := ⟨RX2, "determineShares", "()Z"⟩
abbrev cX2_writeEquations : ByteArray := prog_4_method_11_code
def yX2_writeEquations : MethodName := ⟨RX2, "writeEquations", "()V"⟩
abbrev cX2_clearColumn : ByteArray := prog_4_method_12_code
def yX2_clearColumn : MethodName := ⟨RX2, "clearColumn", "(IJJ)V"⟩
abbrev cX2_clearEntry : ByteArray := prog_4_method_13_code
def yX2_clearEntry : MethodName := ⟨RX2, "clearEntry", "(IIJJ)V"⟩
abbrev cX2_keepShares : ByteArray := prog_4_method_14_code
def yX2_keepShares : MethodName := ⟨RX2, "keepShares", "(J)V"⟩
abbrev cX2_commonDivisor : ByteArray := prog_4_method_15_code
def yX2_commonDivisor : MethodName := ⟨RX2, "commonDivisor", "(JJ)J"⟩
abbrev cX2_millionthsAfter : ByteArray := prog_4_method_16_code
def yX2_millionthsAfter : MethodName := ⟨RX2, "millionthsAfter", "(II)I"⟩
abbrev cX2_playRound : ByteArray := prog_4_method_17_code
def yX2_playRound : MethodName := ⟨RX2, "playRound", "()V"⟩
abbrev cX2_members : ByteArray := prog_4_method_18_code
def yX2_members : MethodName := ⟨RX2, "members", "()I"⟩
abbrev cX2_withControlled : ByteArray := prog_4_method_19_code
def yX2_withControlled : MethodName := ⟨RX2, "withControlled", "(I)I"⟩
abbrev cX2_heldAmong : ByteArray := prog_4_method_20_code
def yX2_heldAmong : MethodName := ⟨RX2, "heldAmong", "(II)I"⟩
def RX3 : String := "Groupbooks"
def TX3 : u_T := fun k => match k with
  | 0 => ("Groupbooks", "holdings", "LGroupbooks$Holdings;", true)
  | 1 => ("Groupbooks", "books", "LGroupbooks$Books;", true)
  | 2 => ("Groupbooks", "balances", "LGroupbooks$Balances;", true)
  | 3 => ("Groupbooks", "goodwills", "[I", true)
  | 4 => ("Groupbooks", "periodResults", "[I", true)
  | _ => ("Groupbooks", "closedPeriods", "I", false)
def tyX3 : Nat → FieldType := fun k => match k with
  | 0 => .object "Groupbooks$Holdings"
  | 1 => .object "Groupbooks$Books"
  | 2 => .object "Groupbooks$Balances"
  | 3 => .array .int
  | 4 => .array .int
  | _ => .int
abbrev wsX30 : List Cond := u_ws RX3 TX3 6
theorem nmX3 : ∀ a, a < 6 → ∀ b, b < 6 → a ≠ b → (TX3 a).2.1 ≠ (TX3 b).2.1 := by decide +kernel
theorem tyX3_ok : ∀ k, k < 6 → parseFieldDescriptor (TX3 k).2.2.1 = some (tyX3 k) := by decide +kernel
abbrev cX3_init : ByteArray := prog_1_method_1_code
def yX3_init : MethodName := ⟨RX3, "<init>", "()V"⟩
abbrev cX3_hold : ByteArray := prog_1_method_2_code
def yX3_hold : MethodName := ⟨RX3, "hold", "(III)I"⟩
abbrev cX3_acquire : ByteArray := prog_1_method_3_code
def yX3_acquire : MethodName := ⟨RX3, "acquire", "(IIII)I"⟩
abbrev cX3_held : ByteArray := prog_1_method_4_code
def yX3_held : MethodName := ⟨RX3, "held", "(II)I"⟩
abbrev cX3_shareNumerator : ByteArray := prog_1_method_5_code
def yX3_shareNumerator : MethodName := ⟨RX3, "shareNumerator", "(I)J"⟩
abbrev cX3_shareDenominator : ByteArray := prog_1_method_6_code
def yX3_shareDenominator : MethodName := ⟨RX3, "shareDenominator", "(I)J"⟩
abbrev cX3_shareByRounds : ByteArray := prog_1_method_7_code
def yX3_shareByRounds : MethodName := ⟨RX3, "shareByRounds", "(II)I"⟩
abbrev cX3_group : ByteArray := prog_1_method_8_code
def yX3_group : MethodName := ⟨RX3, "group", "()I"⟩
abbrev cX3_goodwill : ByteArray := prog_1_method_9_code
def yX3_goodwill : MethodName := ⟨RX3, "goodwill", "(I)I"⟩
abbrev cX3_setBooks : ByteArray := prog_1_method_10_code
def yX3_setBooks : MethodName := ⟨RX3, "setBooks", "(IIIII)V"⟩
abbrev cX3_setRates : ByteArray := prog_1_method_11_code
def yX3_setRates : MethodName := ⟨RX3, "setRates", "(IIII)V"⟩
abbrev cX3_netValue : ByteArray := prog_1_method_12_code
def yX3_netValue : MethodName := ⟨RX3, "netValue", "(I)I"⟩
abbrev cX3_translatedEquity : ByteArray := prog_1_method_13_code
def yX3_translatedEquity : MethodName := ⟨RX3, "translatedEquity", "(I)I"⟩
abbrev cX3_translatedResult : ByteArray := prog_1_method_14_code
def yX3_translatedResult : MethodName := ⟨RX3, "translatedResult", "(I)I"⟩
abbrev cX3_reserve : ByteArray := prog_1_method_15_code
def yX3_reserve : MethodName := ⟨RX3, "reserve", "(I)I"⟩
abbrev cX3_claim : ByteArray := prog_1_method_16_code
def yX3_claim : MethodName := ⟨RX3, "claim", "(III)I"⟩
abbrev cX3_admit : ByteArray := prog_1_method_17_code
def yX3_admit : MethodName := ⟨RX3, "\x61dmit", "(III)I"⟩
abbrev cX3_difference : ByteArray := prog_1_method_18_code
def yX3_difference : MethodName := ⟨RX3, "difference", "(II)I"⟩
abbrev cX3_eliminated : ByteArray := prog_1_method_19_code
def yX3_eliminated : MethodName := ⟨RX3, "eliminated", "()I"⟩
abbrev cX3_assets : ByteArray := prog_1_method_20_code
def yX3_assets : MethodName := ⟨RX3, "assets", "()I"⟩
abbrev cX3_debts : ByteArray := prog_1_method_21_code
def yX3_debts : MethodName := ⟨RX3, "debts", "()I"⟩
abbrev cX3_minority : ByteArray := prog_1_method_22_code
def yX3_minority : MethodName := ⟨RX3, "minority", "(I)I"⟩
abbrev cX3_equity : ByteArray := prog_1_method_23_code
def yX3_equity : MethodName := ⟨RX3, "equity", "()I"⟩
abbrev cX3_result : ByteArray := prog_1_method_24_code
def yX3_result : MethodName := ⟨RX3, "result", "()I"⟩
abbrev cX3_close : ByteArray := prog_1_method_25_code
def yX3_close : MethodName := ⟨RX3, "close", "()I"⟩
abbrev cX3_resultOf : ByteArray := prog_1_method_26_code
def yX3_resultOf : MethodName := ⟨RX3, "resultOf", "(I)I"⟩
abbrev cX3_minorityAmong : ByteArray := prog_1_method_27_code
def yX3_minorityAmong : MethodName := ⟨RX3, "minorityAmong", "(II)I"⟩
abbrev cX3_isMember : ByteArray := prog_1_method_28_code
def yX3_isMember : MethodName := ⟨RX3, "isMember", "(II)Z"⟩
abbrev cX3_requireCompany : ByteArray := prog_1_method_29_code
def yX3_requireCompany : MethodName := ⟨RX3, "requireCompany", "(I)V"⟩
abbrev cX3_requireTwoCompanies : ByteArray := prog_1_method_30_code
def yX3_requireTwoCompanies : MethodName := ⟨RX3, "requireTwoCompanies", "(II)V"⟩
abbrev cX3_requireRange : ByteArray := prog_1_method_31_code
def yX3_requireRange : MethodName := ⟨RX3, "requireRange", "(III)V"⟩
abbrev cX3_requireBalance : ByteArray := prog_1_method_32_code
def yX3_requireBalance : MethodName := ⟨RX3, "requireBalance", "(II)V"⟩
abbrev cX3_requireTaken : ByteArray := prog_1_method_33_code
def yX3_requireTaken : MethodName := ⟨RX3, "requireTaken", "(Z)V"⟩
abbrev cX3_pair : ByteArray := prog_1_method_34_code
def yX3_pair : MethodName := ⟨RX3, "pair", "(II)I"⟩
def RX4 : String := "GroupbooksModel"
def TX4 : u_T := fun k => match k with
  | _ => ("", "", "", false)
def tyX4 : Nat → FieldType := fun k => match k with
  | _ => .int
abbrev wsX40 : List Cond := u_ws RX4 TX4 0
theorem nmX4 : ∀ a, a < 0 → ∀ b, b < 0 → a ≠ b → (TX4 a).2.1 ≠ (TX4 b).2.1 := by decide +kernel
theorem tyX4_ok : ∀ k, k < 0 → parseFieldDescriptor (TX4 k).2.2.1 = some (tyX4 k) := by decide +kernel
def RJ9 : String := "java/lang/Math"
def TJ9 : u_T := fun k => match k with
  | _ => ("", "", "", false)
def tyJ9 : Nat → FieldType := fun k => match k with
  | _ => .int
abbrev wsJ90 : List Cond := u_ws RJ9 TJ9 0
theorem nmJ9 : ∀ a, a < 0 → ∀ b, b < 0 → a ≠ b → (TJ9 a).2.1 ≠ (TJ9 b).2.1 := by decide +kernel
theorem tyJ9_ok : ∀ k, k < 0 → parseFieldDescriptor (TJ9 k).2.2.1 = some (tyJ9 k) := by decide +kernel
abbrev cJ9_floorDiv_7cf53 : ByteArray := prog_10_method_47_code
def yJ9_floorDiv_7cf53 : MethodName := ⟨RJ9, "floorDiv", "(II)I"⟩
abbrev cJ9_floorDiv_f86c9 : ByteArray := prog_10_method_49_code
def yJ9_floorDiv_f86c9 : MethodName := ⟨RJ9, "floorDiv", "(JJ)J"⟩
abbrev cJ9_min_7cf53 : ByteArray := prog_10_method_69_code
def yJ9_min_7cf53 : MethodName := ⟨RJ9, "min", "(II)I"⟩
def RJ0 : String := "java/lang/String"
def TJ0 : u_T := fun k => match k with
  | _ => ("", "", "", false)
def tyJ0 : Nat → FieldType := fun k => match k with
  | _ => .int
abbrev wsJ00 : List Cond := u_ws RJ0 TJ0 0
theorem nmJ0 : ∀ a, a < 0 → ∀ b, b < 0 → a ≠ b → (TJ0 a).2.1 ≠ (TJ0 b).2.1 := by decide +kernel
theorem tyJ0_ok : ∀ k, k < 0 → parseFieldDescriptor (TJ0 k).2.2.1 = some (tyJ0 k) := by decide +kernel
def RL : String := "GroupbooksLaw"
abbrev cL_cell : ByteArray := method_2_code
def yL_cell : MethodName := ⟨RL, "cell", "([II)I"⟩
abbrev cL_low : ByteArray := method_3_code
def yL_low : MethodName := ⟨RL, "low", "(II)I"⟩
abbrev cL_calls : ByteArray := method_4_code
def yL_calls : MethodName := ⟨RL, "calls", "(LGroupbooks;IIIII)I"⟩
abbrev cL_books : ByteArray := method_5_code
def yL_books : MethodName := ⟨RL, "books", "(LGroupbooks;IIIII)I"⟩
abbrev cL_floor : ByteArray := method_6_code
def yL_floor : MethodName := ⟨RL, "floor", "(JJ)J"⟩
abbrev cL_at : ByteArray := method_7_code
def yL_at : MethodName := ⟨RL, "at", "(II)I"⟩
abbrev cL_net : ByteArray := method_8_code
def yL_net : MethodName := ⟨RL, "net", "(I[I)I"⟩
abbrev cL_closedRing : ByteArray := method_9_code
def yL_closedRing : MethodName := ⟨RL, "closedRing", "([I)Z"⟩
abbrev cL_total : ByteArray := method_10_code
def yL_total : MethodName := ⟨RL, "total", "(I[I)I"⟩
abbrev cL_group : ByteArray := method_11_code
def yL_group : MethodName := ⟨RL, "group", "([I)I"⟩
abbrev cL_inverse : ByteArray := method_12_code
def yL_inverse : MethodName := ⟨RL, "inverse", "(JJ)J"⟩
abbrev cL_common : ByteArray := method_13_code
def yL_common : MethodName := ⟨RL, "common", "(JJ)J"⟩
abbrev cL_shares : ByteArray := method_14_code
def yL_shares : MethodName := ⟨RL, "shares", "(LGroupbooks;[IJ)Z"⟩
abbrev cL_rounds : ByteArray := method_15_code
def yL_rounds : MethodName := ⟨RL, "rounds", "(II[I[I[I)I"⟩
abbrev cL_result : ByteArray := method_16_code
def yL_result : MethodName := ⟨RL, "result", "(LGroupbooks;I[I)I"⟩
abbrev cL_isSo : ByteArray := method_17_code
def yL_isSo : MethodName := ⟨RL, "isSo", "(LGroupbooks;[I[I[I[I[I[I)Z"⟩
abbrev cL_due : ByteArray := method_18_code
def yL_due : MethodName := ⟨RL, "due", "(IIIII[I[I[I)I"⟩
abbrev cL_closes : ByteArray := method_19_code
def yL_closes : MethodName := ⟨RL, "closes", "(LGroupbooks;[I[I[I[I)I"⟩
abbrev cL_law : ByteArray := code
def yL_law : MethodName := ⟨RL, "law", "([I)Z"⟩
def wsX0_init : List Cond := .code yX0_init cX0_init 1 none :: ([.methodLink RX0 3 objectInit, .instanceMethod objectInit, .code objectInit ⟨#[0xb1]⟩ 1 none, .arrayClass .int, .fieldLink RX0 9 "Groupbooks$Balances" "claims" "[I", .fieldLink RX0 15 "Groupbooks$Balances" "admissions" "[I"] ++ wsX00)
def wsX3_pair : List Cond := .code yX3_pair cX3_pair 2 (some .int) :: ([])
def wsX0_replaceClaim : List Cond := .code yX0_replaceClaim cX0_replaceClaim 6 (some .int) :: ([.fieldLink RX0 9 "Groupbooks$Balances" "claims" "[I", .static yX3_pair, .initialized RX3, .code yX3_pair cX3_pair 2 (some .int)] ++ wsX00)
def wsX0_replaceAdmitted : List Cond := .code yX0_replaceAdmitted cX0_replaceAdmitted 6 (some .int) :: ([.fieldLink RX0 15 "Groupbooks$Balances" "admissions" "[I", .static yX3_pair, .initialized RX3, .code yX3_pair cX3_pair 2 (some .int)] ++ wsX00)
def wsX0_disputed : List Cond := .code yX0_disputed cX0_disputed 4 (some .int) :: ([.fieldLink RX0 9 "Groupbooks$Balances" "claims" "[I", .fieldLink RX0 15 "Groupbooks$Balances" "admissions" "[I", .static yX3_pair, .initialized RX3, .code yX3_pair cX3_pair 2 (some .int)] ++ wsX00)
def wsX3_isMember : List Cond := .code yX3_isMember cX3_isMember 2 (some .boolean) :: ([])
def wsX0_agreedAmong : List Cond := .code yX0_agreedAmong cX0_agreedAmong 6 (some .int) :: ([.fieldLink RX0 9 "Groupbooks$Balances" "claims" "[I", .fieldLink RX0 15 "Groupbooks$Balances" "admissions" "[I", .methodLink RX0 26 Lib.Math.min.name, .static Lib.Math.min.name, .initialized "java/lang/Math", .code Lib.Math.min.name Lib.Math.min.code 2 (some .int), .static yX3_isMember, .initialized RX3, .code yX3_isMember cX3_isMember 2 (some .boolean), .static yX3_pair, .code yX3_pair cX3_pair 2 (some .int)] ++ wsX00)
def wsX1_init : List Cond := .code yX1_init cX1_init 2 none :: ([.methodLink RX1 3 objectInit, .instanceMethod objectInit, .code objectInit ⟨#[0xb1]⟩ 1 none, .arrayClass .int, .fieldLink RX1 9 "Groupbooks$Books" "ownAssets" "[I", .fieldLink RX1 15 "Groupbooks$Books" "ownDebts" "[I", .fieldLink RX1 18 "Groupbooks$Books" "ownEquities" "[I", .fieldLink RX1 21 "Groupbooks$Books" "ownProfits" "[I", .fieldLink RX1 24 "Groupbooks$Books" "closingRates" "[I", .fieldLink RX1 27 "Groupbooks$Books" "averageRates" "[I", .fieldLink RX1 30 "Groupbooks$Books" "historicalRates" "[I"] ++ wsX10)
def wsX1_enter : List Cond := .code yX1_enter cX1_enter 6 none :: ([.fieldLink RX1 9 "Groupbooks$Books" "ownAssets" "[I", .fieldLink RX1 15 "Groupbooks$Books" "ownDebts" "[I", .fieldLink RX1 18 "Groupbooks$Books" "ownEquities" "[I", .fieldLink RX1 21 "Groupbooks$Books" "ownProfits" "[I"] ++ wsX10)
def wsX1_enterRates : List Cond := .code yX1_enterRates cX1_enterRates 5 none :: ([.fieldLink RX1 24 "Groupbooks$Books" "closingRates" "[I", .fieldLink RX1 27 "Groupbooks$Books" "averageRates" "[I", .fieldLink RX1 30 "Groupbooks$Books" "historicalRates" "[I"] ++ wsX10)
def wsJ9_floorDiv_7cf53 : List Cond := .code yJ9_floorDiv_7cf53 cJ9_floorDiv_7cf53 3 (some .int) :: ([])
def wsX1_translate : List Cond := .code yX1_translate cX1_translate 2 (some .int) :: ([.methodLink RX1 44 yJ9_floorDiv_7cf53, .static yJ9_floorDiv_7cf53, .initialized RJ9, .code yJ9_floorDiv_7cf53 cJ9_floorDiv_7cf53 3 (some .int)])
def wsX1_assetsOf : List Cond := .code yX1_assetsOf cX1_assetsOf 2 (some .int) :: ([.fieldLink RX1 9 "Groupbooks$Books" "ownAssets" "[I", .fieldLink RX1 24 "Groupbooks$Books" "closingRates" "[I", .methodLink RX1 33 yX1_translate, .static yX1_translate, .initialized RX1, .code yX1_translate cX1_translate 2 (some .int), .methodLink RX1 44 yJ9_floorDiv_7cf53, .static yJ9_floorDiv_7cf53, .initialized RJ9, .code yJ9_floorDiv_7cf53 cJ9_floorDiv_7cf53 3 (some .int)] ++ wsX10)
def wsX1_debtsOf : List Cond := .code yX1_debtsOf cX1_debtsOf 2 (some .int) :: ([.fieldLink RX1 15 "Groupbooks$Books" "ownDebts" "[I", .fieldLink RX1 24 "Groupbooks$Books" "closingRates" "[I", .methodLink RX1 33 yX1_translate, .static yX1_translate, .initialized RX1, .code yX1_translate cX1_translate 2 (some .int), .methodLink RX1 44 yJ9_floorDiv_7cf53, .static yJ9_floorDiv_7cf53, .initialized RJ9, .code yJ9_floorDiv_7cf53 cJ9_floorDiv_7cf53 3 (some .int)] ++ wsX10)
def wsX1_equityOf : List Cond := .code yX1_equityOf cX1_equityOf 2 (some .int) :: ([.fieldLink RX1 18 "Groupbooks$Books" "ownEquities" "[I", .fieldLink RX1 30 "Groupbooks$Books" "historicalRates" "[I", .methodLink RX1 33 yX1_translate, .static yX1_translate, .initialized RX1, .code yX1_translate cX1_translate 2 (some .int), .methodLink RX1 44 yJ9_floorDiv_7cf53, .static yJ9_floorDiv_7cf53, .initialized RJ9, .code yJ9_floorDiv_7cf53 cJ9_floorDiv_7cf53 3 (some .int)] ++ wsX10)
def wsX1_profitOf : List Cond := .code yX1_profitOf cX1_profitOf 2 (some .int) :: ([.fieldLink RX1 21 "Groupbooks$Books" "ownProfits" "[I", .fieldLink RX1 27 "Groupbooks$Books" "averageRates" "[I", .methodLink RX1 33 yX1_translate, .static yX1_translate, .initialized RX1, .code yX1_translate cX1_translate 2 (some .int), .methodLink RX1 44 yJ9_floorDiv_7cf53, .static yJ9_floorDiv_7cf53, .initialized RJ9, .code yJ9_floorDiv_7cf53 cJ9_floorDiv_7cf53 3 (some .int)] ++ wsX10)
def wsX1_netOf : List Cond := .code yX1_netOf cX1_netOf 2 (some .int) :: ([.methodLink RX1 37 yX1_assetsOf, .instanceMethod yX1_assetsOf, .selects RX1 yX1_assetsOf yX1_assetsOf, .initialized RX1, .code yX1_assetsOf cX1_assetsOf 2 (some .int), .fieldLink RX1 9 "Groupbooks$Books" "ownAssets" "[I", .fieldLink RX1 24 "Groupbooks$Books" "closingRates" "[I", .methodLink RX1 33 yX1_translate, .static yX1_translate, .code yX1_translate cX1_translate 2 (some .int), .methodLink RX1 44 yJ9_floorDiv_7cf53, .static yJ9_floorDiv_7cf53, .initialized RJ9, .code yJ9_floorDiv_7cf53 cJ9_floorDiv_7cf53 3 (some .int), .methodLink RX1 41 yX1_debtsOf, .instanceMethod yX1_debtsOf, .selects RX1 yX1_debtsOf yX1_debtsOf, .code yX1_debtsOf cX1_debtsOf 2 (some .int), .fieldLink RX1 15 "Groupbooks$Books" "ownDebts" "[I"] ++ wsX10)
def wsX1_carryResults : List Cond := .code yX1_carryResults cX1_carryResults 2 none :: ([.fieldLink RX1 18 "Groupbooks$Books" "ownEquities" "[I", .fieldLink RX1 21 "Groupbooks$Books" "ownProfits" "[I"] ++ wsX10)
def wsX2_init : List Cond := .code yX2_init cX2_init 2 none :: ([.methodLink RX2 3 objectInit, .instanceMethod objectInit, .code objectInit ⟨#[0xb1]⟩ 1 none, .arrayClass .int, .fieldLink RX2 9 "Groupbooks$Holdings" "percents" "[I", .arrayClass .long, .fieldLink RX2 15 "Groupbooks$Holdings" "numerators" "[J", .fieldLink RX2 19 "Groupbooks$Holdings" "denominators" "[J", .fieldLink RX2 22 "Groupbooks$Holdings" "equations" "[J", .fieldLink RX2 25 "Groupbooks$Holdings" "amounts" "[I", .fieldLink RX2 28 "Groupbooks$Holdings" "nextAmounts" "[I"] ++ wsX20)
def wsX2_percentOf : List Cond := .code yX2_percentOf cX2_percentOf 3 (some .int) :: ([.fieldLink RX2 9 "Groupbooks$Holdings" "percents" "[I", .static yX3_pair, .initialized RX3, .code yX3_pair cX3_pair 2 (some .int)] ++ wsX20)
def wsX2_numeratorOf : List Cond := .code yX2_numeratorOf cX2_numeratorOf 2 (some .long) :: ([.fieldLink RX2 15 "Groupbooks$Holdings" "numerators" "[J"] ++ wsX20)
def wsX2_denominatorOf : List Cond := .code yX2_denominatorOf cX2_denominatorOf 2 (some .long) :: ([.fieldLink RX2 19 "Groupbooks$Holdings" "denominators" "[J"] ++ wsX20)
def wsJ9_floorDiv_f86c9 : List Cond := .code yJ9_floorDiv_f86c9 cJ9_floorDiv_f86c9 6 (some .long) :: ([])
def wsX2_scale : List Cond := .code yX2_scale cX2_scale 5 (some .int) :: ([.methodLink RX2 39 yJ9_floorDiv_f86c9, .static yJ9_floorDiv_f86c9, .initialized RJ9, .code yJ9_floorDiv_f86c9 cJ9_floorDiv_f86c9 6 (some .long)])
def wsX2_partOfParent : List Cond := .code yX2_partOfParent cX2_partOfParent 3 (some .int) :: ([.fieldLink RX2 15 "Groupbooks$Holdings" "numerators" "[J", .fieldLink RX2 19 "Groupbooks$Holdings" "denominators" "[J", .methodLink RX2 35 yX2_scale, .static yX2_scale, .initialized RX2, .code yX2_scale cX2_scale 5 (some .int), .methodLink RX2 39 yJ9_floorDiv_f86c9, .static yJ9_floorDiv_f86c9, .initialized RJ9, .code yJ9_floorDiv_f86c9 cJ9_floorDiv_f86c9 6 (some .long)] ++ wsX20)
def wsX2_partOfOthers : List Cond := .code yX2_partOfOthers cX2_partOfOthers 5 (some .int) :: ([.fieldLink RX2 19 "Groupbooks$Holdings" "denominators" "[J", .fieldLink RX2 15 "Groupbooks$Holdings" "numerators" "[J", .methodLink RX2 35 yX2_scale, .static yX2_scale, .initialized RX2, .code yX2_scale cX2_scale 5 (some .int), .methodLink RX2 39 yJ9_floorDiv_f86c9, .static yJ9_floorDiv_f86c9, .initialized RJ9, .code yJ9_floorDiv_f86c9 cJ9_floorDiv_f86c9 6 (some .long)] ++ wsX20)
def wsX2_heldByAll : List Cond := .code yX2_heldByAll cX2_heldByAll 4 (some .int) :: ([.fieldLink RX2 9 "Groupbooks$Holdings" "percents" "[I", .static yX3_pair, .initialized RX3, .code yX3_pair cX3_pair 2 (some .int)] ++ wsX20)
def wsX2_writeEquations : List Cond := .code yX2_writeEquations cX2_writeEquations 3 none :: ([.fieldLink RX2 22 "Groupbooks$Holdings" "equations" "[J", .fieldLink RX2 9 "Groupbooks$Holdings" "percents" "[I", .constantLong RX2 64 (100), .static yX3_pair, .initialized RX3, .code yX3_pair cX3_pair 2 (some .int)] ++ wsX20)
def wsX2_clearEntry : List Cond := .code yX2_clearEntry cX2_clearEntry 13 none :: ([.fieldLink RX2 22 "Groupbooks$Holdings" "equations" "[J", .static yX3_pair, .initialized RX3, .code yX3_pair cX3_pair 2 (some .int)] ++ wsX20)
def wsX2_clearColumn : List Cond := .code yX2_clearColumn cX2_clearColumn 7 none :: ([.methodLink RX2 66 yX2_clearEntry, .instanceMethod yX2_clearEntry, .selects RX2 yX2_clearEntry yX2_clearEntry, .initialized RX2, .code yX2_clearEntry cX2_clearEntry 13 none, .fieldLink RX2 22 "Groupbooks$Holdings" "equations" "[J", .static yX3_pair, .initialized RX3, .code yX3_pair cX3_pair 2 (some .int)] ++ wsX20)
def wsX2_commonDivisor : List Cond := .code yX2_commonDivisor cX2_commonDivisor 11 (some .long) :: ([])
def wsX2_keepShares : List Cond := .code yX2_keepShares cX2_keepShares 8 none :: ([.fieldLink RX2 22 "Groupbooks$Holdings" "equations" "[J", .fieldLink RX2 15 "Groupbooks$Holdings" "numerators" "[J", .fieldLink RX2 19 "Groupbooks$Holdings" "denominators" "[J", .static yX3_pair, .initialized RX3, .code yX3_pair cX3_pair 2 (some .int), .methodLink RX2 70 yX2_commonDivisor, .static yX2_commonDivisor, .initialized RX2, .code yX2_commonDivisor cX2_commonDivisor 11 (some .long)] ++ wsX20)
def wsX2_determineShares_r1 : List Cond := [Cond.fieldLink RX2 22 "Groupbooks$Holdings" "equations" "[J", Cond.methodLink RX2 53 yX2_writeEquations, Cond.instanceMethod yX2_writeEquations, Cond.selects RX2 yX2_writeEquations yX2_writeEquations, Cond.initialized RX2, Cond.code yX2_writeEquations cX2_writeEquations 3 none, Cond.fieldLink RX2 9 "Groupbooks$Holdings" "percents" "[I", Cond.constantLong RX2 64 (100), Cond.static yX3_pair, Cond.initialized RX3, Cond.code yX3_pair cX3_pair 2 (some .int), Cond.methodLink RX2 56 yX2_clearColumn, Cond.instanceMethod yX2_clearColumn, Cond.selects RX2 yX2_clearColumn yX2_clearColumn, Cond.code yX2_clearColumn cX2_clearColumn 7 none, Cond.methodLink RX2 66 yX2_clearEntry, Cond.instanceMethod yX2_clearEntry, Cond.selects RX2 yX2_clearEntry yX2_clearEntry, Cond.code yX2_clearEntry cX2_clearEntry 13 none, Cond.methodLink RX2 60 yX2_keepShares, Cond.instanceMethod yX2_keepShares, Cond.selects RX2 yX2_keepShares yX2_keepShares, Cond.code yX2_keepShares cX2_keepShares 8 none, Cond.fieldLink RX2 15 "Groupbooks$Holdings" "numerators" "[J"]
def wsX2_determineShares_r2 : List Cond := [Cond.fieldLink RX2 19 "Groupbooks$Holdings" "denominators" "[J", Cond.methodLink RX2 70 yX2_commonDivisor, Cond.static yX2_commonDivisor, Cond.code yX2_commonDivisor cX2_commonDivisor 11 (some .long)]
def wsX2_determineShares : List Cond := .code yX2_determineShares cX2_determineShares 6 (some .boolean) :: ((wsX2_determineShares_r1 ++ wsX2_determineShares_r2) ++ wsX20)
def wsX2_take_r1 : List Cond := [Cond.fieldLink RX2 9 "Groupbooks$Holdings" "percents" "[I", Cond.static yX3_pair, Cond.initialized RX3, Cond.code yX3_pair cX3_pair 2 (some .int), Cond.methodLink RX2 45 yX2_heldByAll, Cond.instanceMethod yX2_heldByAll, Cond.selects RX2 yX2_heldByAll yX2_heldByAll, Cond.initialized RX2, Cond.code yX2_heldByAll cX2_heldByAll 4 (some .int), Cond.methodLink RX2 49 yX2_determineShares, Cond.instanceMethod yX2_determineShares, Cond.selects RX2 yX2_determineShares yX2_determineShares, Cond.code yX2_determineShares cX2_determineShares 6 (some .boolean), Cond.fieldLink RX2 22 "Groupbooks$Holdings" "equations" "[J", Cond.methodLink RX2 53 yX2_writeEquations, Cond.instanceMethod yX2_writeEquations, Cond.selects RX2 yX2_writeEquations yX2_writeEquations, Cond.code yX2_writeEquations cX2_writeEquations 3 none, Cond.constantLong RX2 64 (100), Cond.methodLink RX2 56 yX2_clearColumn, Cond.instanceMethod yX2_clearColumn, Cond.selects RX2 yX2_clearColumn yX2_clearColumn, Cond.code yX2_clearColumn cX2_clearColumn 7 none, Cond.methodLink RX2 66 yX2_clearEntry]
def wsX2_take_r2 : List Cond := [Cond.instanceMethod yX2_clearEntry, Cond.selects RX2 yX2_clearEntry yX2_clearEntry, Cond.code yX2_clearEntry cX2_clearEntry 13 none, Cond.methodLink RX2 60 yX2_keepShares, Cond.instanceMethod yX2_keepShares, Cond.selects RX2 yX2_keepShares yX2_keepShares, Cond.code yX2_keepShares cX2_keepShares 8 none, Cond.fieldLink RX2 15 "Groupbooks$Holdings" "numerators" "[J", Cond.fieldLink RX2 19 "Groupbooks$Holdings" "denominators" "[J", Cond.methodLink RX2 70 yX2_commonDivisor, Cond.static yX2_commonDivisor, Cond.code yX2_commonDivisor cX2_commonDivisor 11 (some .long)]
def wsX2_take : List Cond := .code yX2_take cX2_take 7 (some .boolean) :: ((wsX2_take_r1 ++ wsX2_take_r2) ++ wsX20)
def wsX2_playRound : List Cond := .code yX2_playRound cX2_playRound 4 none :: ([.fieldLink RX2 9 "Groupbooks$Holdings" "percents" "[I", .fieldLink RX2 25 "Groupbooks$Holdings" "amounts" "[I", .fieldLink RX2 28 "Groupbooks$Holdings" "nextAmounts" "[I", .static yX3_pair, .initialized RX3, .code yX3_pair cX3_pair 2 (some .int)] ++ wsX20)
def wsX2_millionthsAfter : List Cond := .code yX2_millionthsAfter cX2_millionthsAfter 4 (some .int) :: ([.fieldLink RX2 25 "Groupbooks$Holdings" "amounts" "[I", .constant RX2 73 (1000000), .methodLink RX2 74 yX2_playRound, .instanceMethod yX2_playRound, .selects RX2 yX2_playRound yX2_playRound, .initialized RX2, .code yX2_playRound cX2_playRound 4 none, .fieldLink RX2 9 "Groupbooks$Holdings" "percents" "[I", .fieldLink RX2 28 "Groupbooks$Holdings" "nextAmounts" "[I", .static yX3_pair, .initialized RX3, .code yX3_pair cX3_pair 2 (some .int)] ++ wsX20)
def wsX2_heldAmong : List Cond := .code yX2_heldAmong cX2_heldAmong 5 (some .int) :: ([.fieldLink RX2 9 "Groupbooks$Holdings" "percents" "[I", .static yX3_isMember, .initialized RX3, .code yX3_isMember cX3_isMember 2 (some .boolean), .static yX3_pair, .code yX3_pair cX3_pair 2 (some .int)] ++ wsX20)
def wsX2_withControlled : List Cond := .code yX2_withControlled cX2_withControlled 4 (some .int) :: ([.methodLink RX2 80 yX2_heldAmong, .instanceMethod yX2_heldAmong, .selects RX2 yX2_heldAmong yX2_heldAmong, .initialized RX2, .code yX2_heldAmong cX2_heldAmong 5 (some .int), .fieldLink RX2 9 "Groupbooks$Holdings" "percents" "[I", .static yX3_isMember, .initialized RX3, .code yX3_isMember cX3_isMember 2 (some .boolean), .static yX3_pair, .code yX3_pair cX3_pair 2 (some .int)] ++ wsX20)
def wsX2_members : List Cond := .code yX2_members cX2_members 3 (some .int) :: ([.methodLink RX2 77 yX2_withControlled, .instanceMethod yX2_withControlled, .selects RX2 yX2_withControlled yX2_withControlled, .initialized RX2, .code yX2_withControlled cX2_withControlled 4 (some .int), .methodLink RX2 80 yX2_heldAmong, .instanceMethod yX2_heldAmong, .selects RX2 yX2_heldAmong yX2_heldAmong, .code yX2_heldAmong cX2_heldAmong 5 (some .int), .fieldLink RX2 9 "Groupbooks$Holdings" "percents" "[I", .static yX3_isMember, .initialized RX3, .code yX3_isMember cX3_isMember 2 (some .boolean), .static yX3_pair, .code yX3_pair cX3_pair 2 (some .int)] ++ wsX20)
def wsX3_init_r1 : List Cond := [Cond.methodLink RX3 1 objectInit, Cond.instanceMethod objectInit, Cond.code objectInit ⟨#[0xb1]⟩ 1 none, Cond.classLink RX3 7 RX2, Cond.instantiable RX2 6, Cond.initialized RX2, Cond.fieldLink RX3 10 "Groupbooks" "holdings" "LGroupbooks$Holdings;", Cond.classLink RX3 16 RX1, Cond.instantiable RX1 7, Cond.initialized RX1, Cond.fieldLink RX3 19 "Groupbooks" "books" "LGroupbooks$Books;", Cond.classLink RX3 23 RX0, Cond.instantiable RX0 2, Cond.initialized RX0, Cond.fieldLink RX3 26 "Groupbooks" "balances" "LGroupbooks$Balances;", Cond.arrayClass .int, Cond.fieldLink RX3 30 "Groupbooks" "goodwills" "[I", Cond.fieldLink RX3 34 "Groupbooks" "periodResults" "[I", Cond.fieldLink RX3 37 "Groupbooks" "closedPeriods" "I", Cond.instanceMethod yX2_init, Cond.code yX2_init cX2_init 2 none, Cond.methodLink RX2 3 objectInit, Cond.fieldLink RX2 9 "Groupbooks$Holdings" "percents" "[I", Cond.arrayClass .long]
def wsX3_init_r2 : List Cond := [Cond.fieldLink RX2 15 "Groupbooks$Holdings" "numerators" "[J", Cond.fieldLink RX2 19 "Groupbooks$Holdings" "denominators" "[J", Cond.fieldLink RX2 22 "Groupbooks$Holdings" "equations" "[J", Cond.fieldLink RX2 25 "Groupbooks$Holdings" "amounts" "[I", Cond.fieldLink RX2 28 "Groupbooks$Holdings" "nextAmounts" "[I", Cond.instanceMethod yX1_init, Cond.code yX1_init cX1_init 2 none, Cond.methodLink RX1 3 objectInit, Cond.fieldLink RX1 9 "Groupbooks$Books" "ownAssets" "[I", Cond.fieldLink RX1 15 "Groupbooks$Books" "ownDebts" "[I", Cond.fieldLink RX1 18 "Groupbooks$Books" "ownEquities" "[I", Cond.fieldLink RX1 21 "Groupbooks$Books" "ownProfits" "[I", Cond.fieldLink RX1 24 "Groupbooks$Books" "closingRates" "[I", Cond.fieldLink RX1 27 "Groupbooks$Books" "averageRates" "[I", Cond.fieldLink RX1 30 "Groupbooks$Books" "historicalRates" "[I", Cond.instanceMethod yX0_init, Cond.code yX0_init cX0_init 1 none, Cond.methodLink RX0 3 objectInit, Cond.fieldLink RX0 9 "Groupbooks$Balances" "claims" "[I", Cond.fieldLink RX0 15 "Groupbooks$Balances" "admissions" "[I"]
def wsX3_init : List Cond := .code yX3_init cX3_init 1 none :: ((wsX3_init_r1 ++ wsX3_init_r2) ++ wsX20 ++ wsX30 ++ wsX10 ++ wsX00)
def wsX3_requireRange : List Cond := .code yX3_requireRange cX3_requireRange 3 none :: ([.classLink RX3 155 "java/lang/IllegalArgumentException", .initialized "java/lang/IllegalArgumentException"] ++ (vx_atS RX3 159 "java/lang/IllegalArgumentException" ["java/lang/RuntimeException", "java/lang/Exception"]).filter goodWord)
def wsX3_requireCompany : List Cond := .code yX3_requireCompany cX3_requireCompany 1 none :: ([.methodLink RX3 45 yX3_requireRange, .static yX3_requireRange, .initialized RX3, .code yX3_requireRange cX3_requireRange 3 none, .classLink RX3 155 "java/lang/IllegalArgumentException", .initialized "java/lang/IllegalArgumentException"] ++ (vx_atS RX3 159 "java/lang/IllegalArgumentException" ["java/lang/RuntimeException", "java/lang/Exception"]).filter goodWord)
def wsX3_requireTwoCompanies : List Cond := .code yX3_requireTwoCompanies cX3_requireTwoCompanies 2 none :: ([.classLink RX3 155 "java/lang/IllegalArgumentException", .initialized "java/lang/IllegalArgumentException", .methodLink RX3 71 yX3_requireCompany, .static yX3_requireCompany, .initialized RX3, .code yX3_requireCompany cX3_requireCompany 1 none, .methodLink RX3 45 yX3_requireRange, .static yX3_requireRange, .code yX3_requireRange cX3_requireRange 3 none] ++ (vx_atS RX3 159 "java/lang/IllegalArgumentException" ["java/lang/RuntimeException", "java/lang/Exception"]).filter goodWord)
def wsX3_requireTaken : List Cond := .code yX3_requireTaken cX3_requireTaken 1 none :: ([.classLink RX3 142 "java/lang/IllegalStateException", .initialized "java/lang/IllegalStateException"] ++ (vx_atS RX3 146 "java/lang/IllegalStateException" ["java/lang/RuntimeException", "java/lang/Exception"]).filter goodWord)
def wsX3_hold_r1 : List Cond := [Cond.fieldLink RX3 10 "Groupbooks" "holdings" "LGroupbooks$Holdings;", Cond.methodLink RX3 41 yX3_requireTwoCompanies, Cond.static yX3_requireTwoCompanies, Cond.initialized RX3, Cond.code yX3_requireTwoCompanies cX3_requireTwoCompanies 2 none, Cond.classLink RX3 155 "java/lang/IllegalArgumentException", Cond.initialized "java/lang/IllegalArgumentException", Cond.methodLink RX3 71 yX3_requireCompany, Cond.static yX3_requireCompany, Cond.code yX3_requireCompany cX3_requireCompany 1 none, Cond.methodLink RX3 45 yX3_requireRange, Cond.static yX3_requireRange, Cond.code yX3_requireRange cX3_requireRange 3 none, Cond.instanceMethod yX2_percentOf, Cond.initialized RX2, Cond.selects RX2 yX2_percentOf yX2_percentOf, Cond.code yX2_percentOf cX2_percentOf 3 (some .int), Cond.fieldLink RX2 9 "Groupbooks$Holdings" "percents" "[I", Cond.static yX3_pair, Cond.code yX3_pair cX3_pair 2 (some .int), Cond.instanceMethod yX2_take, Cond.selects RX2 yX2_take yX2_take, Cond.code yX2_take cX2_take 7 (some .boolean), Cond.methodLink RX2 45 yX2_heldByAll]
def wsX3_hold_r2 : List Cond := [Cond.instanceMethod yX2_heldByAll, Cond.selects RX2 yX2_heldByAll yX2_heldByAll, Cond.code yX2_heldByAll cX2_heldByAll 4 (some .int), Cond.methodLink RX2 49 yX2_determineShares, Cond.instanceMethod yX2_determineShares, Cond.selects RX2 yX2_determineShares yX2_determineShares, Cond.code yX2_determineShares cX2_determineShares 6 (some .boolean), Cond.fieldLink RX2 22 "Groupbooks$Holdings" "equations" "[J", Cond.methodLink RX2 53 yX2_writeEquations, Cond.instanceMethod yX2_writeEquations, Cond.selects RX2 yX2_writeEquations yX2_writeEquations, Cond.code yX2_writeEquations cX2_writeEquations 3 none, Cond.constantLong RX2 64 (100), Cond.methodLink RX2 56 yX2_clearColumn, Cond.instanceMethod yX2_clearColumn, Cond.selects RX2 yX2_clearColumn yX2_clearColumn, Cond.code yX2_clearColumn cX2_clearColumn 7 none, Cond.methodLink RX2 66 yX2_clearEntry, Cond.instanceMethod yX2_clearEntry, Cond.selects RX2 yX2_clearEntry yX2_clearEntry, Cond.code yX2_clearEntry cX2_clearEntry 13 none, Cond.methodLink RX2 60 yX2_keepShares, Cond.instanceMethod yX2_keepShares, Cond.selects RX2 yX2_keepShares yX2_keepShares]
def wsX3_hold_r3 : List Cond := [Cond.code yX2_keepShares cX2_keepShares 8 none, Cond.fieldLink RX2 15 "Groupbooks$Holdings" "numerators" "[J", Cond.fieldLink RX2 19 "Groupbooks$Holdings" "denominators" "[J", Cond.methodLink RX2 70 yX2_commonDivisor, Cond.static yX2_commonDivisor, Cond.code yX2_commonDivisor cX2_commonDivisor 11 (some .long), Cond.methodLink RX3 57 yX3_requireTaken, Cond.static yX3_requireTaken, Cond.code yX3_requireTaken cX3_requireTaken 1 none, Cond.classLink RX3 142 "java/lang/IllegalStateException", Cond.initialized "java/lang/IllegalStateException"]
def wsX3_hold : List Cond := .code yX3_hold cX3_hold 5 (some .int) :: ((wsX3_hold_r1 ++ (wsX3_hold_r2 ++ wsX3_hold_r3)) ++ wsX30 ++ wsX20 ++ (vx_atS RX3 159 "java/lang/IllegalArgumentException" ["java/lang/RuntimeException", "java/lang/Exception"]).filter goodWord ++ (vx_atS RX3 146 "java/lang/IllegalStateException" ["java/lang/RuntimeException", "java/lang/Exception"]).filter goodWord)
def wsX3_acquire_r1 : List Cond := [Cond.constant RX3 61 (1000000), Cond.fieldLink RX3 10 "Groupbooks" "holdings" "LGroupbooks$Holdings;", Cond.fieldLink RX3 30 "Groupbooks" "goodwills" "[I", Cond.fieldLink RX3 19 "Groupbooks" "books" "LGroupbooks$Books;", Cond.methodLink RX3 41 yX3_requireTwoCompanies, Cond.static yX3_requireTwoCompanies, Cond.initialized RX3, Cond.code yX3_requireTwoCompanies cX3_requireTwoCompanies 2 none, Cond.classLink RX3 155 "java/lang/IllegalArgumentException", Cond.initialized "java/lang/IllegalArgumentException", Cond.methodLink RX3 71 yX3_requireCompany, Cond.static yX3_requireCompany, Cond.code yX3_requireCompany cX3_requireCompany 1 none, Cond.methodLink RX3 45 yX3_requireRange, Cond.static yX3_requireRange, Cond.code yX3_requireRange cX3_requireRange 3 none, Cond.instanceMethod yX2_percentOf, Cond.initialized RX2, Cond.selects RX2 yX2_percentOf yX2_percentOf, Cond.code yX2_percentOf cX2_percentOf 3 (some .int), Cond.fieldLink RX2 9 "Groupbooks$Holdings" "percents" "[I", Cond.static yX3_pair, Cond.code yX3_pair cX3_pair 2 (some .int), Cond.instanceMethod yX2_take]
def wsX3_acquire_r2 : List Cond := [Cond.selects RX2 yX2_take yX2_take, Cond.code yX2_take cX2_take 7 (some .boolean), Cond.methodLink RX2 45 yX2_heldByAll, Cond.instanceMethod yX2_heldByAll, Cond.selects RX2 yX2_heldByAll yX2_heldByAll, Cond.code yX2_heldByAll cX2_heldByAll 4 (some .int), Cond.methodLink RX2 49 yX2_determineShares, Cond.instanceMethod yX2_determineShares, Cond.selects RX2 yX2_determineShares yX2_determineShares, Cond.code yX2_determineShares cX2_determineShares 6 (some .boolean), Cond.fieldLink RX2 22 "Groupbooks$Holdings" "equations" "[J", Cond.methodLink RX2 53 yX2_writeEquations, Cond.instanceMethod yX2_writeEquations, Cond.selects RX2 yX2_writeEquations yX2_writeEquations, Cond.code yX2_writeEquations cX2_writeEquations 3 none, Cond.constantLong RX2 64 (100), Cond.methodLink RX2 56 yX2_clearColumn, Cond.instanceMethod yX2_clearColumn, Cond.selects RX2 yX2_clearColumn yX2_clearColumn, Cond.code yX2_clearColumn cX2_clearColumn 7 none, Cond.methodLink RX2 66 yX2_clearEntry, Cond.instanceMethod yX2_clearEntry, Cond.selects RX2 yX2_clearEntry yX2_clearEntry, Cond.code yX2_clearEntry cX2_clearEntry 13 none]
def wsX3_acquire_r3 : List Cond := [Cond.methodLink RX2 60 yX2_keepShares, Cond.instanceMethod yX2_keepShares, Cond.selects RX2 yX2_keepShares yX2_keepShares, Cond.code yX2_keepShares cX2_keepShares 8 none, Cond.fieldLink RX2 15 "Groupbooks$Holdings" "numerators" "[J", Cond.fieldLink RX2 19 "Groupbooks$Holdings" "denominators" "[J", Cond.methodLink RX2 70 yX2_commonDivisor, Cond.static yX2_commonDivisor, Cond.code yX2_commonDivisor cX2_commonDivisor 11 (some .long), Cond.methodLink RX3 57 yX3_requireTaken, Cond.static yX3_requireTaken, Cond.code yX3_requireTaken cX3_requireTaken 1 none, Cond.classLink RX3 142 "java/lang/IllegalStateException", Cond.initialized "java/lang/IllegalStateException", Cond.instanceMethod yX1_netOf, Cond.initialized RX1, Cond.selects RX1 yX1_netOf yX1_netOf, Cond.code yX1_netOf cX1_netOf 2 (some .int), Cond.methodLink RX1 37 yX1_assetsOf, Cond.instanceMethod yX1_assetsOf, Cond.selects RX1 yX1_assetsOf yX1_assetsOf, Cond.code yX1_assetsOf cX1_assetsOf 2 (some .int), Cond.fieldLink RX1 9 "Groupbooks$Books" "ownAssets" "[I", Cond.fieldLink RX1 24 "Groupbooks$Books" "closingRates" "[I"]
def wsX3_acquire_r4 : List Cond := [Cond.methodLink RX1 33 yX1_translate, Cond.static yX1_translate, Cond.code yX1_translate cX1_translate 2 (some .int), Cond.methodLink RX1 44 yJ9_floorDiv_7cf53, Cond.static yJ9_floorDiv_7cf53, Cond.initialized RJ9, Cond.code yJ9_floorDiv_7cf53 cJ9_floorDiv_7cf53 3 (some .int), Cond.methodLink RX1 41 yX1_debtsOf, Cond.instanceMethod yX1_debtsOf, Cond.selects RX1 yX1_debtsOf yX1_debtsOf, Cond.code yX1_debtsOf cX1_debtsOf 2 (some .int), Cond.fieldLink RX1 15 "Groupbooks$Books" "ownDebts" "[I", Cond.methodLink RX3 66 yJ9_floorDiv_7cf53]
def wsX3_acquire : List Cond := .code yX3_acquire cX3_acquire 6 (some .int) :: ((wsX3_acquire_r1 ++ (wsX3_acquire_r2 ++ (wsX3_acquire_r3 ++ wsX3_acquire_r4))) ++ wsX30 ++ wsX20 ++ wsX10 ++ (vx_atS RX3 159 "java/lang/IllegalArgumentException" ["java/lang/RuntimeException", "java/lang/Exception"]).filter goodWord ++ (vx_atS RX3 146 "java/lang/IllegalStateException" ["java/lang/RuntimeException", "java/lang/Exception"]).filter goodWord)
def wsX3_held : List Cond := .code yX3_held cX3_held 3 (some .int) :: ([.fieldLink RX3 10 "Groupbooks" "holdings" "LGroupbooks$Holdings;", .methodLink RX3 71 yX3_requireCompany, .static yX3_requireCompany, .initialized RX3, .code yX3_requireCompany cX3_requireCompany 1 none, .methodLink RX3 45 yX3_requireRange, .static yX3_requireRange, .code yX3_requireRange cX3_requireRange 3 none, .classLink RX3 155 "java/lang/IllegalArgumentException", .initialized "java/lang/IllegalArgumentException", .instanceMethod yX2_percentOf, .initialized RX2, .selects RX2 yX2_percentOf yX2_percentOf, .code yX2_percentOf cX2_percentOf 3 (some .int), .fieldLink RX2 9 "Groupbooks$Holdings" "percents" "[I", .static yX3_pair, .code yX3_pair cX3_pair 2 (some .int)] ++ wsX30 ++ wsX20 ++ (vx_atS RX3 159 "java/lang/IllegalArgumentException" ["java/lang/RuntimeException", "java/lang/Exception"]).filter goodWord)
def wsX3_shareNumerator : List Cond := .code yX3_shareNumerator cX3_shareNumerator 2 (some .long) :: ([.fieldLink RX3 10 "Groupbooks" "holdings" "LGroupbooks$Holdings;", .methodLink RX3 71 yX3_requireCompany, .static yX3_requireCompany, .initialized RX3, .code yX3_requireCompany cX3_requireCompany 1 none, .methodLink RX3 45 yX3_requireRange, .static yX3_requireRange, .code yX3_requireRange cX3_requireRange 3 none, .classLink RX3 155 "java/lang/IllegalArgumentException", .initialized "java/lang/IllegalArgumentException", .instanceMethod yX2_numeratorOf, .initialized RX2, .selects RX2 yX2_numeratorOf yX2_numeratorOf, .code yX2_numeratorOf cX2_numeratorOf 2 (some .long), .fieldLink RX2 15 "Groupbooks$Holdings" "numerators" "[J"] ++ wsX30 ++ wsX20 ++ (vx_atS RX3 159 "java/lang/IllegalArgumentException" ["java/lang/RuntimeException", "java/lang/Exception"]).filter goodWord)
def wsX3_shareDenominator : List Cond := .code yX3_shareDenominator cX3_shareDenominator 2 (some .long) :: ([.fieldLink RX3 10 "Groupbooks" "holdings" "LGroupbooks$Holdings;", .methodLink RX3 71 yX3_requireCompany, .static yX3_requireCompany, .initialized RX3, .code yX3_requireCompany cX3_requireCompany 1 none, .methodLink RX3 45 yX3_requireRange, .static yX3_requireRange, .code yX3_requireRange cX3_requireRange 3 none, .classLink RX3 155 "java/lang/IllegalArgumentException", .initialized "java/lang/IllegalArgumentException", .instanceMethod yX2_denominatorOf, .initialized RX2, .selects RX2 yX2_denominatorOf yX2_denominatorOf, .code yX2_denominatorOf cX2_denominatorOf 2 (some .long), .fieldLink RX2 19 "Groupbooks$Holdings" "denominators" "[J"] ++ wsX30 ++ wsX20 ++ (vx_atS RX3 159 "java/lang/IllegalArgumentException" ["java/lang/RuntimeException", "java/lang/Exception"]).filter goodWord)
def wsX3_shareByRounds : List Cond := .code yX3_shareByRounds cX3_shareByRounds 3 (some .int) :: ([.fieldLink RX3 10 "Groupbooks" "holdings" "LGroupbooks$Holdings;", .methodLink RX3 71 yX3_requireCompany, .static yX3_requireCompany, .initialized RX3, .code yX3_requireCompany cX3_requireCompany 1 none, .methodLink RX3 45 yX3_requireRange, .static yX3_requireRange, .code yX3_requireRange cX3_requireRange 3 none, .classLink RX3 155 "java/lang/IllegalArgumentException", .initialized "java/lang/IllegalArgumentException", .instanceMethod yX2_millionthsAfter, .initialized RX2, .selects RX2 yX2_millionthsAfter yX2_millionthsAfter, .code yX2_millionthsAfter cX2_millionthsAfter 4 (some .int), .fieldLink RX2 25 "Groupbooks$Holdings" "amounts" "[I", .constant RX2 73 (1000000), .methodLink RX2 74 yX2_playRound, .instanceMethod yX2_playRound, .selects RX2 yX2_playRound yX2_playRound, .code yX2_playRound cX2_playRound 4 none, .fieldLink RX2 9 "Groupbooks$Holdings" "percents" "[I", .fieldLink RX2 28 "Groupbooks$Holdings" "nextAmounts" "[I", .static yX3_pair, .code yX3_pair cX3_pair 2 (some .int)] ++ wsX30 ++ wsX20 ++ (vx_atS RX3 159 "java/lang/IllegalArgumentException" ["java/lang/RuntimeException", "java/lang/Exception"]).filter goodWord)
def wsX3_group : List Cond := .code yX3_group cX3_group 1 (some .int) :: ([.fieldLink RX3 10 "Groupbooks" "holdings" "LGroupbooks$Holdings;", .instanceMethod yX2_members, .initialized RX2, .selects RX2 yX2_members yX2_members, .code yX2_members cX2_members 3 (some .int), .methodLink RX2 77 yX2_withControlled, .instanceMethod yX2_withControlled, .selects RX2 yX2_withControlled yX2_withControlled, .code yX2_withControlled cX2_withControlled 4 (some .int), .methodLink RX2 80 yX2_heldAmong, .instanceMethod yX2_heldAmong, .selects RX2 yX2_heldAmong yX2_heldAmong, .code yX2_heldAmong cX2_heldAmong 5 (some .int), .fieldLink RX2 9 "Groupbooks$Holdings" "percents" "[I", .static yX3_isMember, .initialized RX3, .code yX3_isMember cX3_isMember 2 (some .boolean), .static yX3_pair, .code yX3_pair cX3_pair 2 (some .int)] ++ wsX30 ++ wsX20)
def wsX3_goodwill : List Cond := .code yX3_goodwill cX3_goodwill 2 (some .int) :: ([.fieldLink RX3 30 "Groupbooks" "goodwills" "[I", .methodLink RX3 71 yX3_requireCompany, .static yX3_requireCompany, .initialized RX3, .code yX3_requireCompany cX3_requireCompany 1 none, .methodLink RX3 45 yX3_requireRange, .static yX3_requireRange, .code yX3_requireRange cX3_requireRange 3 none, .classLink RX3 155 "java/lang/IllegalArgumentException", .initialized "java/lang/IllegalArgumentException"] ++ wsX30 ++ (vx_atS RX3 159 "java/lang/IllegalArgumentException" ["java/lang/RuntimeException", "java/lang/Exception"]).filter goodWord)
def wsX3_requireBalance : List Cond := .code yX3_requireBalance cX3_requireBalance 2 none :: ([.classLink RX3 155 "java/lang/IllegalArgumentException", .initialized "java/lang/IllegalArgumentException"] ++ (vx_atS RX3 159 "java/lang/IllegalArgumentException" ["java/lang/RuntimeException", "java/lang/Exception"]).filter goodWord)
def wsX3_setBooks : List Cond := .code yX3_setBooks cX3_setBooks 6 none :: ([.constant RX3 61 (1000000), .constant RX3 89 (-1000000), .fieldLink RX3 19 "Groupbooks" "books" "LGroupbooks$Books;", .methodLink RX3 71 yX3_requireCompany, .static yX3_requireCompany, .initialized RX3, .code yX3_requireCompany cX3_requireCompany 1 none, .methodLink RX3 45 yX3_requireRange, .static yX3_requireRange, .code yX3_requireRange cX3_requireRange 3 none, .classLink RX3 155 "java/lang/IllegalArgumentException", .initialized "java/lang/IllegalArgumentException", .methodLink RX3 90 yX3_requireBalance, .static yX3_requireBalance, .code yX3_requireBalance cX3_requireBalance 2 none, .instanceMethod yX1_enter, .initialized RX1, .selects RX1 yX1_enter yX1_enter, .code yX1_enter cX1_enter 6 none, .fieldLink RX1 9 "Groupbooks$Books" "ownAssets" "[I", .fieldLink RX1 15 "Groupbooks$Books" "ownDebts" "[I", .fieldLink RX1 18 "Groupbooks$Books" "ownEquities" "[I", .fieldLink RX1 21 "Groupbooks$Books" "ownProfits" "[I"] ++ wsX30 ++ wsX10 ++ (vx_atS RX3 159 "java/lang/IllegalArgumentException" ["java/lang/RuntimeException", "java/lang/Exception"]).filter goodWord)
def wsX3_setRates : List Cond := .code yX3_setRates cX3_setRates 5 none :: ([.fieldLink RX3 19 "Groupbooks" "books" "LGroupbooks$Books;", .methodLink RX3 71 yX3_requireCompany, .static yX3_requireCompany, .initialized RX3, .code yX3_requireCompany cX3_requireCompany 1 none, .methodLink RX3 45 yX3_requireRange, .static yX3_requireRange, .code yX3_requireRange cX3_requireRange 3 none, .classLink RX3 155 "java/lang/IllegalArgumentException", .initialized "java/lang/IllegalArgumentException", .instanceMethod yX1_enterRates, .initialized RX1, .selects RX1 yX1_enterRates yX1_enterRates, .code yX1_enterRates cX1_enterRates 5 none, .fieldLink RX1 24 "Groupbooks$Books" "closingRates" "[I", .fieldLink RX1 27 "Groupbooks$Books" "averageRates" "[I", .fieldLink RX1 30 "Groupbooks$Books" "historicalRates" "[I"] ++ wsX30 ++ wsX10 ++ (vx_atS RX3 159 "java/lang/IllegalArgumentException" ["java/lang/RuntimeException", "java/lang/Exception"]).filter goodWord)
def wsX3_netValue_r1 : List Cond := [Cond.fieldLink RX3 19 "Groupbooks" "books" "LGroupbooks$Books;", Cond.methodLink RX3 71 yX3_requireCompany, Cond.static yX3_requireCompany, Cond.initialized RX3, Cond.code yX3_requireCompany cX3_requireCompany 1 none, Cond.methodLink RX3 45 yX3_requireRange, Cond.static yX3_requireRange, Cond.code yX3_requireRange cX3_requireRange 3 none, Cond.classLink RX3 155 "java/lang/IllegalArgumentException", Cond.initialized "java/lang/IllegalArgumentException", Cond.instanceMethod yX1_netOf, Cond.initialized RX1, Cond.selects RX1 yX1_netOf yX1_netOf, Cond.code yX1_netOf cX1_netOf 2 (some .int), Cond.methodLink RX1 37 yX1_assetsOf, Cond.instanceMethod yX1_assetsOf, Cond.selects RX1 yX1_assetsOf yX1_assetsOf, Cond.code yX1_assetsOf cX1_assetsOf 2 (some .int), Cond.fieldLink RX1 9 "Groupbooks$Books" "ownAssets" "[I", Cond.fieldLink RX1 24 "Groupbooks$Books" "closingRates" "[I", Cond.methodLink RX1 33 yX1_translate, Cond.static yX1_translate, Cond.code yX1_translate cX1_translate 2 (some .int), Cond.methodLink RX1 44 yJ9_floorDiv_7cf53]
def wsX3_netValue_r2 : List Cond := [Cond.static yJ9_floorDiv_7cf53, Cond.initialized RJ9, Cond.code yJ9_floorDiv_7cf53 cJ9_floorDiv_7cf53 3 (some .int), Cond.methodLink RX1 41 yX1_debtsOf, Cond.instanceMethod yX1_debtsOf, Cond.selects RX1 yX1_debtsOf yX1_debtsOf, Cond.code yX1_debtsOf cX1_debtsOf 2 (some .int), Cond.fieldLink RX1 15 "Groupbooks$Books" "ownDebts" "[I"]
def wsX3_netValue : List Cond := .code yX3_netValue cX3_netValue 2 (some .int) :: ((wsX3_netValue_r1 ++ wsX3_netValue_r2) ++ wsX30 ++ wsX10 ++ (vx_atS RX3 159 "java/lang/IllegalArgumentException" ["java/lang/RuntimeException", "java/lang/Exception"]).filter goodWord)
def wsX3_translatedEquity : List Cond := .code yX3_translatedEquity cX3_translatedEquity 2 (some .int) :: ([.fieldLink RX3 19 "Groupbooks" "books" "LGroupbooks$Books;", .methodLink RX3 71 yX3_requireCompany, .static yX3_requireCompany, .initialized RX3, .code yX3_requireCompany cX3_requireCompany 1 none, .methodLink RX3 45 yX3_requireRange, .static yX3_requireRange, .code yX3_requireRange cX3_requireRange 3 none, .classLink RX3 155 "java/lang/IllegalArgumentException", .initialized "java/lang/IllegalArgumentException", .instanceMethod yX1_equityOf, .initialized RX1, .selects RX1 yX1_equityOf yX1_equityOf, .code yX1_equityOf cX1_equityOf 2 (some .int), .fieldLink RX1 18 "Groupbooks$Books" "ownEquities" "[I", .fieldLink RX1 30 "Groupbooks$Books" "historicalRates" "[I", .methodLink RX1 33 yX1_translate, .static yX1_translate, .code yX1_translate cX1_translate 2 (some .int), .methodLink RX1 44 yJ9_floorDiv_7cf53, .static yJ9_floorDiv_7cf53, .initialized RJ9, .code yJ9_floorDiv_7cf53 cJ9_floorDiv_7cf53 3 (some .int)] ++ wsX30 ++ wsX10 ++ (vx_atS RX3 159 "java/lang/IllegalArgumentException" ["java/lang/RuntimeException", "java/lang/Exception"]).filter goodWord)
def wsX3_translatedResult : List Cond := .code yX3_translatedResult cX3_translatedResult 2 (some .int) :: ([.fieldLink RX3 19 "Groupbooks" "books" "LGroupbooks$Books;", .methodLink RX3 71 yX3_requireCompany, .static yX3_requireCompany, .initialized RX3, .code yX3_requireCompany cX3_requireCompany 1 none, .methodLink RX3 45 yX3_requireRange, .static yX3_requireRange, .code yX3_requireRange cX3_requireRange 3 none, .classLink RX3 155 "java/lang/IllegalArgumentException", .initialized "java/lang/IllegalArgumentException", .instanceMethod yX1_profitOf, .initialized RX1, .selects RX1 yX1_profitOf yX1_profitOf, .code yX1_profitOf cX1_profitOf 2 (some .int), .fieldLink RX1 21 "Groupbooks$Books" "ownProfits" "[I", .fieldLink RX1 27 "Groupbooks$Books" "averageRates" "[I", .methodLink RX1 33 yX1_translate, .static yX1_translate, .code yX1_translate cX1_translate 2 (some .int), .methodLink RX1 44 yJ9_floorDiv_7cf53, .static yJ9_floorDiv_7cf53, .initialized RJ9, .code yJ9_floorDiv_7cf53 cJ9_floorDiv_7cf53 3 (some .int)] ++ wsX30 ++ wsX10 ++ (vx_atS RX3 159 "java/lang/IllegalArgumentException" ["java/lang/RuntimeException", "java/lang/Exception"]).filter goodWord)
def wsX3_reserve_r1 : List Cond := [Cond.fieldLink RX3 19 "Groupbooks" "books" "LGroupbooks$Books;", Cond.methodLink RX3 71 yX3_requireCompany, Cond.static yX3_requireCompany, Cond.initialized RX3, Cond.code yX3_requireCompany cX3_requireCompany 1 none, Cond.methodLink RX3 45 yX3_requireRange, Cond.static yX3_requireRange, Cond.code yX3_requireRange cX3_requireRange 3 none, Cond.classLink RX3 155 "java/lang/IllegalArgumentException", Cond.initialized "java/lang/IllegalArgumentException", Cond.instanceMethod yX1_netOf, Cond.initialized RX1, Cond.selects RX1 yX1_netOf yX1_netOf, Cond.code yX1_netOf cX1_netOf 2 (some .int), Cond.methodLink RX1 37 yX1_assetsOf, Cond.instanceMethod yX1_assetsOf, Cond.selects RX1 yX1_assetsOf yX1_assetsOf, Cond.code yX1_assetsOf cX1_assetsOf 2 (some .int), Cond.fieldLink RX1 9 "Groupbooks$Books" "ownAssets" "[I", Cond.fieldLink RX1 24 "Groupbooks$Books" "closingRates" "[I", Cond.methodLink RX1 33 yX1_translate, Cond.static yX1_translate, Cond.code yX1_translate cX1_translate 2 (some .int), Cond.methodLink RX1 44 yJ9_floorDiv_7cf53]
def wsX3_reserve_r2 : List Cond := [Cond.static yJ9_floorDiv_7cf53, Cond.initialized RJ9, Cond.code yJ9_floorDiv_7cf53 cJ9_floorDiv_7cf53 3 (some .int), Cond.methodLink RX1 41 yX1_debtsOf, Cond.instanceMethod yX1_debtsOf, Cond.selects RX1 yX1_debtsOf yX1_debtsOf, Cond.code yX1_debtsOf cX1_debtsOf 2 (some .int), Cond.fieldLink RX1 15 "Groupbooks$Books" "ownDebts" "[I", Cond.instanceMethod yX1_equityOf, Cond.selects RX1 yX1_equityOf yX1_equityOf, Cond.code yX1_equityOf cX1_equityOf 2 (some .int), Cond.fieldLink RX1 18 "Groupbooks$Books" "ownEquities" "[I", Cond.fieldLink RX1 30 "Groupbooks$Books" "historicalRates" "[I", Cond.instanceMethod yX1_profitOf, Cond.selects RX1 yX1_profitOf yX1_profitOf, Cond.code yX1_profitOf cX1_profitOf 2 (some .int), Cond.fieldLink RX1 21 "Groupbooks$Books" "ownProfits" "[I", Cond.fieldLink RX1 27 "Groupbooks$Books" "averageRates" "[I"]
def wsX3_reserve : List Cond := .code yX3_reserve cX3_reserve 2 (some .int) :: ((wsX3_reserve_r1 ++ wsX3_reserve_r2) ++ wsX30 ++ wsX10 ++ (vx_atS RX3 159 "java/lang/IllegalArgumentException" ["java/lang/RuntimeException", "java/lang/Exception"]).filter goodWord)
def wsX3_claim : List Cond := .code yX3_claim cX3_claim 4 (some .int) :: ([.constant RX3 61 (1000000), .fieldLink RX3 26 "Groupbooks" "balances" "LGroupbooks$Balances;", .methodLink RX3 41 yX3_requireTwoCompanies, .static yX3_requireTwoCompanies, .initialized RX3, .code yX3_requireTwoCompanies cX3_requireTwoCompanies 2 none, .classLink RX3 155 "java/lang/IllegalArgumentException", .initialized "java/lang/IllegalArgumentException", .methodLink RX3 71 yX3_requireCompany, .static yX3_requireCompany, .code yX3_requireCompany cX3_requireCompany 1 none, .methodLink RX3 45 yX3_requireRange, .static yX3_requireRange, .code yX3_requireRange cX3_requireRange 3 none, .instanceMethod yX0_replaceClaim, .initialized RX0, .selects RX0 yX0_replaceClaim yX0_replaceClaim, .code yX0_replaceClaim cX0_replaceClaim 6 (some .int), .fieldLink RX0 9 "Groupbooks$Balances" "claims" "[I", .static yX3_pair, .code yX3_pair cX3_pair 2 (some .int)] ++ wsX30 ++ wsX00 ++ (vx_atS RX3 159 "java/lang/IllegalArgumentException" ["java/lang/RuntimeException", "java/lang/Exception"]).filter goodWord)
def wsX3_admit : List Cond := .code yX3_admit cX3_admit 4 (some .int) :: ([.constant RX3 61 (1000000), .fieldLink RX3 26 "Groupbooks" "balances" "LGroupbooks$Balances;", .methodLink RX3 41 yX3_requireTwoCompanies, .static yX3_requireTwoCompanies, .initialized RX3, .code yX3_requireTwoCompanies cX3_requireTwoCompanies 2 none, .classLink RX3 155 "java/lang/IllegalArgumentException", .initialized "java/lang/IllegalArgumentException", .methodLink RX3 71 yX3_requireCompany, .static yX3_requireCompany, .code yX3_requireCompany cX3_requireCompany 1 none, .methodLink RX3 45 yX3_requireRange, .static yX3_requireRange, .code yX3_requireRange cX3_requireRange 3 none, .instanceMethod yX0_replaceAdmitted, .initialized RX0, .selects RX0 yX0_replaceAdmitted yX0_replaceAdmitted, .code yX0_replaceAdmitted cX0_replaceAdmitted 6 (some .int), .fieldLink RX0 15 "Groupbooks$Balances" "admissions" "[I", .static yX3_pair, .code yX3_pair cX3_pair 2 (some .int)] ++ wsX30 ++ wsX00 ++ (vx_atS RX3 159 "java/lang/IllegalArgumentException" ["java/lang/RuntimeException", "java/lang/Exception"]).filter goodWord)
def wsX3_difference : List Cond := .code yX3_difference cX3_difference 3 (some .int) :: ([.fieldLink RX3 26 "Groupbooks" "balances" "LGroupbooks$Balances;", .methodLink RX3 41 yX3_requireTwoCompanies, .static yX3_requireTwoCompanies, .initialized RX3, .code yX3_requireTwoCompanies cX3_requireTwoCompanies 2 none, .classLink RX3 155 "java/lang/IllegalArgumentException", .initialized "java/lang/IllegalArgumentException", .methodLink RX3 71 yX3_requireCompany, .static yX3_requireCompany, .code yX3_requireCompany cX3_requireCompany 1 none, .methodLink RX3 45 yX3_requireRange, .static yX3_requireRange, .code yX3_requireRange cX3_requireRange 3 none, .instanceMethod yX0_disputed, .initialized RX0, .selects RX0 yX0_disputed yX0_disputed, .code yX0_disputed cX0_disputed 4 (some .int), .fieldLink RX0 9 "Groupbooks$Balances" "claims" "[I", .fieldLink RX0 15 "Groupbooks$Balances" "admissions" "[I", .static yX3_pair, .code yX3_pair cX3_pair 2 (some .int)] ++ wsX30 ++ wsX00 ++ (vx_atS RX3 159 "java/lang/IllegalArgumentException" ["java/lang/RuntimeException", "java/lang/Exception"]).filter goodWord)
def wsX3_eliminated_r1 : List Cond := [Cond.fieldLink RX3 26 "Groupbooks" "balances" "LGroupbooks$Balances;", Cond.fieldLink RX3 10 "Groupbooks" "holdings" "LGroupbooks$Holdings;", Cond.instanceMethod yX2_members, Cond.initialized RX2, Cond.selects RX2 yX2_members yX2_members, Cond.code yX2_members cX2_members 3 (some .int), Cond.methodLink RX2 77 yX2_withControlled, Cond.instanceMethod yX2_withControlled, Cond.selects RX2 yX2_withControlled yX2_withControlled, Cond.code yX2_withControlled cX2_withControlled 4 (some .int), Cond.methodLink RX2 80 yX2_heldAmong, Cond.instanceMethod yX2_heldAmong, Cond.selects RX2 yX2_heldAmong yX2_heldAmong, Cond.code yX2_heldAmong cX2_heldAmong 5 (some .int), Cond.fieldLink RX2 9 "Groupbooks$Holdings" "percents" "[I", Cond.static yX3_isMember, Cond.initialized RX3, Cond.code yX3_isMember cX3_isMember 2 (some .boolean), Cond.static yX3_pair, Cond.code yX3_pair cX3_pair 2 (some .int), Cond.instanceMethod yX0_agreedAmong, Cond.initialized RX0, Cond.selects RX0 yX0_agreedAmong yX0_agreedAmong, Cond.code yX0_agreedAmong cX0_agreedAmong 6 (some .int)]
def wsX3_eliminated_r2 : List Cond := [Cond.fieldLink RX0 9 "Groupbooks$Balances" "claims" "[I", Cond.fieldLink RX0 15 "Groupbooks$Balances" "admissions" "[I", Cond.methodLink RX0 26 Lib.Math.min.name, Cond.static Lib.Math.min.name, Cond.initialized "java/lang/Math", Cond.code Lib.Math.min.name Lib.Math.min.code 2 (some .int)]
def wsX3_eliminated : List Cond := .code yX3_eliminated cX3_eliminated 1 (some .int) :: ((wsX3_eliminated_r1 ++ wsX3_eliminated_r2) ++ wsX30 ++ wsX20 ++ wsX00)
def wsX3_assets_r1 : List Cond := [Cond.fieldLink RX3 10 "Groupbooks" "holdings" "LGroupbooks$Holdings;", Cond.fieldLink RX3 19 "Groupbooks" "books" "LGroupbooks$Books;", Cond.fieldLink RX3 26 "Groupbooks" "balances" "LGroupbooks$Balances;", Cond.instanceMethod yX2_members, Cond.initialized RX2, Cond.selects RX2 yX2_members yX2_members, Cond.code yX2_members cX2_members 3 (some .int), Cond.methodLink RX2 77 yX2_withControlled, Cond.instanceMethod yX2_withControlled, Cond.selects RX2 yX2_withControlled yX2_withControlled, Cond.code yX2_withControlled cX2_withControlled 4 (some .int), Cond.methodLink RX2 80 yX2_heldAmong, Cond.instanceMethod yX2_heldAmong, Cond.selects RX2 yX2_heldAmong yX2_heldAmong, Cond.code yX2_heldAmong cX2_heldAmong 5 (some .int), Cond.fieldLink RX2 9 "Groupbooks$Holdings" "percents" "[I", Cond.static yX3_isMember, Cond.initialized RX3, Cond.code yX3_isMember cX3_isMember 2 (some .boolean), Cond.static yX3_pair, Cond.code yX3_pair cX3_pair 2 (some .int), Cond.methodLink RX3 120 yX3_isMember, Cond.instanceMethod yX1_assetsOf, Cond.initialized RX1]
def wsX3_assets_r2 : List Cond := [Cond.selects RX1 yX1_assetsOf yX1_assetsOf, Cond.code yX1_assetsOf cX1_assetsOf 2 (some .int), Cond.fieldLink RX1 9 "Groupbooks$Books" "ownAssets" "[I", Cond.fieldLink RX1 24 "Groupbooks$Books" "closingRates" "[I", Cond.methodLink RX1 33 yX1_translate, Cond.static yX1_translate, Cond.code yX1_translate cX1_translate 2 (some .int), Cond.methodLink RX1 44 yJ9_floorDiv_7cf53, Cond.static yJ9_floorDiv_7cf53, Cond.initialized RJ9, Cond.code yJ9_floorDiv_7cf53 cJ9_floorDiv_7cf53 3 (some .int), Cond.instanceMethod yX0_agreedAmong, Cond.initialized RX0, Cond.selects RX0 yX0_agreedAmong yX0_agreedAmong, Cond.code yX0_agreedAmong cX0_agreedAmong 6 (some .int), Cond.fieldLink RX0 9 "Groupbooks$Balances" "claims" "[I", Cond.fieldLink RX0 15 "Groupbooks$Balances" "admissions" "[I", Cond.methodLink RX0 26 Lib.Math.min.name, Cond.static Lib.Math.min.name, Cond.initialized "java/lang/Math", Cond.code Lib.Math.min.name Lib.Math.min.code 2 (some .int)]
def wsX3_assets : List Cond := .code yX3_assets cX3_assets 4 (some .int) :: ((wsX3_assets_r1 ++ wsX3_assets_r2) ++ wsX30 ++ wsX20 ++ wsX10 ++ wsX00)
def wsX3_debts_r1 : List Cond := [Cond.fieldLink RX3 10 "Groupbooks" "holdings" "LGroupbooks$Holdings;", Cond.fieldLink RX3 19 "Groupbooks" "books" "LGroupbooks$Books;", Cond.fieldLink RX3 26 "Groupbooks" "balances" "LGroupbooks$Balances;", Cond.instanceMethod yX2_members, Cond.initialized RX2, Cond.selects RX2 yX2_members yX2_members, Cond.code yX2_members cX2_members 3 (some .int), Cond.methodLink RX2 77 yX2_withControlled, Cond.instanceMethod yX2_withControlled, Cond.selects RX2 yX2_withControlled yX2_withControlled, Cond.code yX2_withControlled cX2_withControlled 4 (some .int), Cond.methodLink RX2 80 yX2_heldAmong, Cond.instanceMethod yX2_heldAmong, Cond.selects RX2 yX2_heldAmong yX2_heldAmong, Cond.code yX2_heldAmong cX2_heldAmong 5 (some .int), Cond.fieldLink RX2 9 "Groupbooks$Holdings" "percents" "[I", Cond.static yX3_isMember, Cond.initialized RX3, Cond.code yX3_isMember cX3_isMember 2 (some .boolean), Cond.static yX3_pair, Cond.code yX3_pair cX3_pair 2 (some .int), Cond.methodLink RX3 120 yX3_isMember, Cond.instanceMethod yX1_debtsOf, Cond.initialized RX1]
def wsX3_debts_r2 : List Cond := [Cond.selects RX1 yX1_debtsOf yX1_debtsOf, Cond.code yX1_debtsOf cX1_debtsOf 2 (some .int), Cond.fieldLink RX1 15 "Groupbooks$Books" "ownDebts" "[I", Cond.fieldLink RX1 24 "Groupbooks$Books" "closingRates" "[I", Cond.methodLink RX1 33 yX1_translate, Cond.static yX1_translate, Cond.code yX1_translate cX1_translate 2 (some .int), Cond.methodLink RX1 44 yJ9_floorDiv_7cf53, Cond.static yJ9_floorDiv_7cf53, Cond.initialized RJ9, Cond.code yJ9_floorDiv_7cf53 cJ9_floorDiv_7cf53 3 (some .int), Cond.instanceMethod yX0_agreedAmong, Cond.initialized RX0, Cond.selects RX0 yX0_agreedAmong yX0_agreedAmong, Cond.code yX0_agreedAmong cX0_agreedAmong 6 (some .int), Cond.fieldLink RX0 9 "Groupbooks$Balances" "claims" "[I", Cond.fieldLink RX0 15 "Groupbooks$Balances" "admissions" "[I", Cond.methodLink RX0 26 Lib.Math.min.name, Cond.static Lib.Math.min.name, Cond.initialized "java/lang/Math", Cond.code Lib.Math.min.name Lib.Math.min.code 2 (some .int)]
def wsX3_debts : List Cond := .code yX3_debts cX3_debts 4 (some .int) :: ((wsX3_debts_r1 ++ wsX3_debts_r2) ++ wsX30 ++ wsX20 ++ wsX10 ++ wsX00)
def wsX3_minorityAmong_r1 : List Cond := [Cond.fieldLink RX3 10 "Groupbooks" "holdings" "LGroupbooks$Holdings;", Cond.fieldLink RX3 19 "Groupbooks" "books" "LGroupbooks$Books;", Cond.methodLink RX3 120 yX3_isMember, Cond.static yX3_isMember, Cond.initialized RX3, Cond.code yX3_isMember cX3_isMember 2 (some .boolean), Cond.instanceMethod yX1_netOf, Cond.initialized RX1, Cond.selects RX1 yX1_netOf yX1_netOf, Cond.code yX1_netOf cX1_netOf 2 (some .int), Cond.methodLink RX1 37 yX1_assetsOf, Cond.instanceMethod yX1_assetsOf, Cond.selects RX1 yX1_assetsOf yX1_assetsOf, Cond.code yX1_assetsOf cX1_assetsOf 2 (some .int), Cond.fieldLink RX1 9 "Groupbooks$Books" "ownAssets" "[I", Cond.fieldLink RX1 24 "Groupbooks$Books" "closingRates" "[I", Cond.methodLink RX1 33 yX1_translate, Cond.static yX1_translate, Cond.code yX1_translate cX1_translate 2 (some .int), Cond.methodLink RX1 44 yJ9_floorDiv_7cf53, Cond.static yJ9_floorDiv_7cf53, Cond.initialized RJ9, Cond.code yJ9_floorDiv_7cf53 cJ9_floorDiv_7cf53 3 (some .int), Cond.methodLink RX1 41 yX1_debtsOf]
def wsX3_minorityAmong_r2 : List Cond := [Cond.instanceMethod yX1_debtsOf, Cond.selects RX1 yX1_debtsOf yX1_debtsOf, Cond.code yX1_debtsOf cX1_debtsOf 2 (some .int), Cond.fieldLink RX1 15 "Groupbooks$Books" "ownDebts" "[I", Cond.instanceMethod yX2_partOfOthers, Cond.initialized RX2, Cond.selects RX2 yX2_partOfOthers yX2_partOfOthers, Cond.code yX2_partOfOthers cX2_partOfOthers 5 (some .int), Cond.fieldLink RX2 19 "Groupbooks$Holdings" "denominators" "[J", Cond.fieldLink RX2 15 "Groupbooks$Holdings" "numerators" "[J", Cond.methodLink RX2 35 yX2_scale, Cond.static yX2_scale, Cond.code yX2_scale cX2_scale 5 (some .int), Cond.methodLink RX2 39 yJ9_floorDiv_f86c9, Cond.static yJ9_floorDiv_f86c9, Cond.code yJ9_floorDiv_f86c9 cJ9_floorDiv_f86c9 6 (some .long)]
def wsX3_minorityAmong : List Cond := .code yX3_minorityAmong cX3_minorityAmong 3 (some .int) :: ((wsX3_minorityAmong_r1 ++ wsX3_minorityAmong_r2) ++ wsX30 ++ wsX10 ++ wsX20)
def wsX3_minority_r1 : List Cond := [Cond.fieldLink RX3 10 "Groupbooks" "holdings" "LGroupbooks$Holdings;", Cond.methodLink RX3 71 yX3_requireCompany, Cond.static yX3_requireCompany, Cond.initialized RX3, Cond.code yX3_requireCompany cX3_requireCompany 1 none, Cond.methodLink RX3 45 yX3_requireRange, Cond.static yX3_requireRange, Cond.code yX3_requireRange cX3_requireRange 3 none, Cond.classLink RX3 155 "java/lang/IllegalArgumentException", Cond.initialized "java/lang/IllegalArgumentException", Cond.instanceMethod yX2_members, Cond.initialized RX2, Cond.selects RX2 yX2_members yX2_members, Cond.code yX2_members cX2_members 3 (some .int), Cond.methodLink RX2 77 yX2_withControlled, Cond.instanceMethod yX2_withControlled, Cond.selects RX2 yX2_withControlled yX2_withControlled, Cond.code yX2_withControlled cX2_withControlled 4 (some .int), Cond.methodLink RX2 80 yX2_heldAmong, Cond.instanceMethod yX2_heldAmong, Cond.selects RX2 yX2_heldAmong yX2_heldAmong, Cond.code yX2_heldAmong cX2_heldAmong 5 (some .int), Cond.fieldLink RX2 9 "Groupbooks$Holdings" "percents" "[I", Cond.static yX3_isMember]
def wsX3_minority_r2 : List Cond := [Cond.code yX3_isMember cX3_isMember 2 (some .boolean), Cond.static yX3_pair, Cond.code yX3_pair cX3_pair 2 (some .int), Cond.methodLink RX3 130 yX3_minorityAmong, Cond.instanceMethod yX3_minorityAmong, Cond.selects RX3 yX3_minorityAmong yX3_minorityAmong, Cond.code yX3_minorityAmong cX3_minorityAmong 3 (some .int), Cond.fieldLink RX3 19 "Groupbooks" "books" "LGroupbooks$Books;", Cond.methodLink RX3 120 yX3_isMember, Cond.instanceMethod yX1_netOf, Cond.initialized RX1, Cond.selects RX1 yX1_netOf yX1_netOf, Cond.code yX1_netOf cX1_netOf 2 (some .int), Cond.methodLink RX1 37 yX1_assetsOf, Cond.instanceMethod yX1_assetsOf, Cond.selects RX1 yX1_assetsOf yX1_assetsOf, Cond.code yX1_assetsOf cX1_assetsOf 2 (some .int), Cond.fieldLink RX1 9 "Groupbooks$Books" "ownAssets" "[I", Cond.fieldLink RX1 24 "Groupbooks$Books" "closingRates" "[I", Cond.methodLink RX1 33 yX1_translate, Cond.static yX1_translate, Cond.code yX1_translate cX1_translate 2 (some .int), Cond.methodLink RX1 44 yJ9_floorDiv_7cf53, Cond.static yJ9_floorDiv_7cf53]
def wsX3_minority_r3 : List Cond := [Cond.initialized RJ9, Cond.code yJ9_floorDiv_7cf53 cJ9_floorDiv_7cf53 3 (some .int), Cond.methodLink RX1 41 yX1_debtsOf, Cond.instanceMethod yX1_debtsOf, Cond.selects RX1 yX1_debtsOf yX1_debtsOf, Cond.code yX1_debtsOf cX1_debtsOf 2 (some .int), Cond.fieldLink RX1 15 "Groupbooks$Books" "ownDebts" "[I", Cond.instanceMethod yX2_partOfOthers, Cond.selects RX2 yX2_partOfOthers yX2_partOfOthers, Cond.code yX2_partOfOthers cX2_partOfOthers 5 (some .int), Cond.fieldLink RX2 19 "Groupbooks$Holdings" "denominators" "[J", Cond.fieldLink RX2 15 "Groupbooks$Holdings" "numerators" "[J", Cond.methodLink RX2 35 yX2_scale, Cond.static yX2_scale, Cond.code yX2_scale cX2_scale 5 (some .int), Cond.methodLink RX2 39 yJ9_floorDiv_f86c9, Cond.static yJ9_floorDiv_f86c9, Cond.code yJ9_floorDiv_f86c9 cJ9_floorDiv_f86c9 6 (some .long)]
def wsX3_minority : List Cond := .code yX3_minority cX3_minority 2 (some .int) :: ((wsX3_minority_r1 ++ (wsX3_minority_r2 ++ wsX3_minority_r3)) ++ wsX30 ++ wsX20 ++ wsX10 ++ (vx_atS RX3 159 "java/lang/IllegalArgumentException" ["java/lang/RuntimeException", "java/lang/Exception"]).filter goodWord)
def wsX3_equity_r1 : List Cond := [Cond.fieldLink RX3 10 "Groupbooks" "holdings" "LGroupbooks$Holdings;", Cond.instanceMethod yX2_members, Cond.initialized RX2, Cond.selects RX2 yX2_members yX2_members, Cond.code yX2_members cX2_members 3 (some .int), Cond.methodLink RX2 77 yX2_withControlled, Cond.instanceMethod yX2_withControlled, Cond.selects RX2 yX2_withControlled yX2_withControlled, Cond.code yX2_withControlled cX2_withControlled 4 (some .int), Cond.methodLink RX2 80 yX2_heldAmong, Cond.instanceMethod yX2_heldAmong, Cond.selects RX2 yX2_heldAmong yX2_heldAmong, Cond.code yX2_heldAmong cX2_heldAmong 5 (some .int), Cond.fieldLink RX2 9 "Groupbooks$Holdings" "percents" "[I", Cond.static yX3_isMember, Cond.initialized RX3, Cond.code yX3_isMember cX3_isMember 2 (some .boolean), Cond.static yX3_pair, Cond.code yX3_pair cX3_pair 2 (some .int), Cond.methodLink RX3 130 yX3_minorityAmong, Cond.instanceMethod yX3_minorityAmong, Cond.selects RX3 yX3_minorityAmong yX3_minorityAmong, Cond.code yX3_minorityAmong cX3_minorityAmong 3 (some .int), Cond.fieldLink RX3 19 "Groupbooks" "books" "LGroupbooks$Books;"]
def wsX3_equity_r2 : List Cond := [Cond.methodLink RX3 120 yX3_isMember, Cond.instanceMethod yX1_netOf, Cond.initialized RX1, Cond.selects RX1 yX1_netOf yX1_netOf, Cond.code yX1_netOf cX1_netOf 2 (some .int), Cond.methodLink RX1 37 yX1_assetsOf, Cond.instanceMethod yX1_assetsOf, Cond.selects RX1 yX1_assetsOf yX1_assetsOf, Cond.code yX1_assetsOf cX1_assetsOf 2 (some .int), Cond.fieldLink RX1 9 "Groupbooks$Books" "ownAssets" "[I", Cond.fieldLink RX1 24 "Groupbooks$Books" "closingRates" "[I", Cond.methodLink RX1 33 yX1_translate, Cond.static yX1_translate, Cond.code yX1_translate cX1_translate 2 (some .int), Cond.methodLink RX1 44 yJ9_floorDiv_7cf53, Cond.static yJ9_floorDiv_7cf53, Cond.initialized RJ9, Cond.code yJ9_floorDiv_7cf53 cJ9_floorDiv_7cf53 3 (some .int), Cond.methodLink RX1 41 yX1_debtsOf, Cond.instanceMethod yX1_debtsOf, Cond.selects RX1 yX1_debtsOf yX1_debtsOf, Cond.code yX1_debtsOf cX1_debtsOf 2 (some .int), Cond.fieldLink RX1 15 "Groupbooks$Books" "ownDebts" "[I", Cond.instanceMethod yX2_partOfOthers]
def wsX3_equity_r3 : List Cond := [Cond.selects RX2 yX2_partOfOthers yX2_partOfOthers, Cond.code yX2_partOfOthers cX2_partOfOthers 5 (some .int), Cond.fieldLink RX2 19 "Groupbooks$Holdings" "denominators" "[J", Cond.fieldLink RX2 15 "Groupbooks$Holdings" "numerators" "[J", Cond.methodLink RX2 35 yX2_scale, Cond.static yX2_scale, Cond.code yX2_scale cX2_scale 5 (some .int), Cond.methodLink RX2 39 yJ9_floorDiv_f86c9, Cond.static yJ9_floorDiv_f86c9, Cond.code yJ9_floorDiv_f86c9 cJ9_floorDiv_f86c9 6 (some .long), Cond.methodLink RX3 133 yX3_assets, Cond.instanceMethod yX3_assets, Cond.selects RX3 yX3_assets yX3_assets, Cond.code yX3_assets cX3_assets 4 (some .int), Cond.fieldLink RX3 26 "Groupbooks" "balances" "LGroupbooks$Balances;", Cond.instanceMethod yX0_agreedAmong, Cond.initialized RX0, Cond.selects RX0 yX0_agreedAmong yX0_agreedAmong, Cond.code yX0_agreedAmong cX0_agreedAmong 6 (some .int), Cond.fieldLink RX0 9 "Groupbooks$Balances" "claims" "[I", Cond.fieldLink RX0 15 "Groupbooks$Balances" "admissions" "[I", Cond.methodLink RX0 26 Lib.Math.min.name, Cond.static Lib.Math.min.name, Cond.initialized "java/lang/Math"]
def wsX3_equity_r4 : List Cond := [Cond.code Lib.Math.min.name Lib.Math.min.code 2 (some .int), Cond.methodLink RX3 136 yX3_debts, Cond.instanceMethod yX3_debts, Cond.selects RX3 yX3_debts yX3_debts, Cond.code yX3_debts cX3_debts 4 (some .int)]
def wsX3_equity : List Cond := .code yX3_equity cX3_equity 4 (some .int) :: ((wsX3_equity_r1 ++ (wsX3_equity_r2 ++ (wsX3_equity_r3 ++ wsX3_equity_r4))) ++ wsX30 ++ wsX20 ++ wsX10 ++ wsX00)
def wsX3_result_r1 : List Cond := [Cond.fieldLink RX3 10 "Groupbooks" "holdings" "LGroupbooks$Holdings;", Cond.fieldLink RX3 19 "Groupbooks" "books" "LGroupbooks$Books;", Cond.instanceMethod yX2_members, Cond.initialized RX2, Cond.selects RX2 yX2_members yX2_members, Cond.code yX2_members cX2_members 3 (some .int), Cond.methodLink RX2 77 yX2_withControlled, Cond.instanceMethod yX2_withControlled, Cond.selects RX2 yX2_withControlled yX2_withControlled, Cond.code yX2_withControlled cX2_withControlled 4 (some .int), Cond.methodLink RX2 80 yX2_heldAmong, Cond.instanceMethod yX2_heldAmong, Cond.selects RX2 yX2_heldAmong yX2_heldAmong, Cond.code yX2_heldAmong cX2_heldAmong 5 (some .int), Cond.fieldLink RX2 9 "Groupbooks$Holdings" "percents" "[I", Cond.static yX3_isMember, Cond.initialized RX3, Cond.code yX3_isMember cX3_isMember 2 (some .boolean), Cond.static yX3_pair, Cond.code yX3_pair cX3_pair 2 (some .int), Cond.methodLink RX3 120 yX3_isMember, Cond.instanceMethod yX1_profitOf, Cond.initialized RX1, Cond.selects RX1 yX1_profitOf yX1_profitOf]
def wsX3_result_r2 : List Cond := [Cond.code yX1_profitOf cX1_profitOf 2 (some .int), Cond.fieldLink RX1 21 "Groupbooks$Books" "ownProfits" "[I", Cond.fieldLink RX1 27 "Groupbooks$Books" "averageRates" "[I", Cond.methodLink RX1 33 yX1_translate, Cond.static yX1_translate, Cond.code yX1_translate cX1_translate 2 (some .int), Cond.methodLink RX1 44 yJ9_floorDiv_7cf53, Cond.static yJ9_floorDiv_7cf53, Cond.initialized RJ9, Cond.code yJ9_floorDiv_7cf53 cJ9_floorDiv_7cf53 3 (some .int), Cond.instanceMethod yX2_partOfParent, Cond.selects RX2 yX2_partOfParent yX2_partOfParent, Cond.code yX2_partOfParent cX2_partOfParent 3 (some .int), Cond.fieldLink RX2 15 "Groupbooks$Holdings" "numerators" "[J", Cond.fieldLink RX2 19 "Groupbooks$Holdings" "denominators" "[J", Cond.methodLink RX2 35 yX2_scale, Cond.static yX2_scale, Cond.code yX2_scale cX2_scale 5 (some .int), Cond.methodLink RX2 39 yJ9_floorDiv_f86c9, Cond.static yJ9_floorDiv_f86c9, Cond.code yJ9_floorDiv_f86c9 cJ9_floorDiv_f86c9 6 (some .long)]
def wsX3_result : List Cond := .code yX3_result cX3_result 4 (some .int) :: ((wsX3_result_r1 ++ wsX3_result_r2) ++ wsX30 ++ wsX20 ++ wsX10)
def wsX3_close_r1 : List Cond := [Cond.classLink RX3 142 "java/lang/IllegalStateException", Cond.initialized "java/lang/IllegalStateException", Cond.fieldLink RX3 37 "Groupbooks" "closedPeriods" "I", Cond.fieldLink RX3 34 "Groupbooks" "periodResults" "[I", Cond.fieldLink RX3 19 "Groupbooks" "books" "LGroupbooks$Books;", Cond.methodLink RX3 149 yX3_result, Cond.instanceMethod yX3_result, Cond.selects RX3 yX3_result yX3_result, Cond.initialized RX3, Cond.code yX3_result cX3_result 4 (some .int), Cond.fieldLink RX3 10 "Groupbooks" "holdings" "LGroupbooks$Holdings;", Cond.instanceMethod yX2_members, Cond.initialized RX2, Cond.selects RX2 yX2_members yX2_members, Cond.code yX2_members cX2_members 3 (some .int), Cond.methodLink RX2 77 yX2_withControlled, Cond.instanceMethod yX2_withControlled, Cond.selects RX2 yX2_withControlled yX2_withControlled, Cond.code yX2_withControlled cX2_withControlled 4 (some .int), Cond.methodLink RX2 80 yX2_heldAmong, Cond.instanceMethod yX2_heldAmong, Cond.selects RX2 yX2_heldAmong yX2_heldAmong, Cond.code yX2_heldAmong cX2_heldAmong 5 (some .int), Cond.fieldLink RX2 9 "Groupbooks$Holdings" "percents" "[I"]
def wsX3_close_r2 : List Cond := [Cond.static yX3_isMember, Cond.code yX3_isMember cX3_isMember 2 (some .boolean), Cond.static yX3_pair, Cond.code yX3_pair cX3_pair 2 (some .int), Cond.methodLink RX3 120 yX3_isMember, Cond.instanceMethod yX1_profitOf, Cond.initialized RX1, Cond.selects RX1 yX1_profitOf yX1_profitOf, Cond.code yX1_profitOf cX1_profitOf 2 (some .int), Cond.fieldLink RX1 21 "Groupbooks$Books" "ownProfits" "[I", Cond.fieldLink RX1 27 "Groupbooks$Books" "averageRates" "[I", Cond.methodLink RX1 33 yX1_translate, Cond.static yX1_translate, Cond.code yX1_translate cX1_translate 2 (some .int), Cond.methodLink RX1 44 yJ9_floorDiv_7cf53, Cond.static yJ9_floorDiv_7cf53, Cond.initialized RJ9, Cond.code yJ9_floorDiv_7cf53 cJ9_floorDiv_7cf53 3 (some .int), Cond.instanceMethod yX2_partOfParent, Cond.selects RX2 yX2_partOfParent yX2_partOfParent, Cond.code yX2_partOfParent cX2_partOfParent 3 (some .int), Cond.fieldLink RX2 15 "Groupbooks$Holdings" "numerators" "[J", Cond.fieldLink RX2 19 "Groupbooks$Holdings" "denominators" "[J", Cond.methodLink RX2 35 yX2_scale]
def wsX3_close_r3 : List Cond := [Cond.static yX2_scale, Cond.code yX2_scale cX2_scale 5 (some .int), Cond.methodLink RX2 39 yJ9_floorDiv_f86c9, Cond.static yJ9_floorDiv_f86c9, Cond.code yJ9_floorDiv_f86c9 cJ9_floorDiv_f86c9 6 (some .long), Cond.instanceMethod yX1_carryResults, Cond.selects RX1 yX1_carryResults yX1_carryResults, Cond.code yX1_carryResults cX1_carryResults 2 none, Cond.fieldLink RX1 18 "Groupbooks$Books" "ownEquities" "[I"]
def wsX3_close : List Cond := .code yX3_close cX3_close 2 (some .int) :: ((wsX3_close_r1 ++ (wsX3_close_r2 ++ wsX3_close_r3)) ++ wsX30 ++ wsX20 ++ wsX10 ++ (vx_atS RX3 146 "java/lang/IllegalStateException" ["java/lang/RuntimeException", "java/lang/Exception"]).filter goodWord)
def wsX3_resultOf : List Cond := .code yX3_resultOf cX3_resultOf 2 (some .int) :: ([.classLink RX3 155 "java/lang/IllegalArgumentException", .initialized "java/lang/IllegalArgumentException", .fieldLink RX3 37 "Groupbooks" "closedPeriods" "I", .fieldLink RX3 34 "Groupbooks" "periodResults" "[I", .methodLink RX3 45 yX3_requireRange, .static yX3_requireRange, .initialized RX3, .code yX3_requireRange cX3_requireRange 3 none] ++ wsX30 ++ (vx_atS RX3 159 "java/lang/IllegalArgumentException" ["java/lang/RuntimeException", "java/lang/Exception"]).filter goodWord)
def wsJ9_min_7cf53 : List Cond := .code yJ9_min_7cf53 cJ9_min_7cf53 2 (some .int) :: ([])
def wsL_cell : List Cond := .code yL_cell cL_cell 2 (some .int) :: ([.constant RL 7 (50321), .constant RL 8 (2497011)])
def wsL_low : List Cond := .code yL_low cL_low 2 (some .int) :: ([.constant RL 9 (2147483647)])
def wsL_calls_r1 : List Cond := [Cond.classLink RL 34 "java/lang/IllegalArgumentException", Cond.classLink RL 37 "java/lang/IllegalStateException", Cond.constant RL 36 (-2000002), Cond.constant RL 39 (-2000003), Cond.methodLink RL 10 yX3_hold, Cond.instanceMethod yX3_hold, Cond.selects RX3 yX3_hold yX3_hold, Cond.initialized RX3, Cond.code yX3_hold cX3_hold 5 (some .int), Cond.fieldLink RX3 10 "Groupbooks" "holdings" "LGroupbooks$Holdings;", Cond.methodLink RX3 41 yX3_requireTwoCompanies, Cond.static yX3_requireTwoCompanies, Cond.code yX3_requireTwoCompanies cX3_requireTwoCompanies 2 none, Cond.classLink RX3 155 "java/lang/IllegalArgumentException", Cond.initialized "java/lang/IllegalArgumentException", Cond.methodLink RX3 71 yX3_requireCompany, Cond.static yX3_requireCompany, Cond.code yX3_requireCompany cX3_requireCompany 1 none, Cond.methodLink RX3 45 yX3_requireRange, Cond.static yX3_requireRange, Cond.code yX3_requireRange cX3_requireRange 3 none, Cond.instanceMethod yX2_percentOf, Cond.initialized RX2, Cond.selects RX2 yX2_percentOf yX2_percentOf]
def wsL_calls_r2 : List Cond := [Cond.code yX2_percentOf cX2_percentOf 3 (some .int), Cond.fieldLink RX2 9 "Groupbooks$Holdings" "percents" "[I", Cond.static yX3_pair, Cond.code yX3_pair cX3_pair 2 (some .int), Cond.instanceMethod yX2_take, Cond.selects RX2 yX2_take yX2_take, Cond.code yX2_take cX2_take 7 (some .boolean), Cond.methodLink RX2 45 yX2_heldByAll, Cond.instanceMethod yX2_heldByAll, Cond.selects RX2 yX2_heldByAll yX2_heldByAll, Cond.code yX2_heldByAll cX2_heldByAll 4 (some .int), Cond.methodLink RX2 49 yX2_determineShares, Cond.instanceMethod yX2_determineShares, Cond.selects RX2 yX2_determineShares yX2_determineShares, Cond.code yX2_determineShares cX2_determineShares 6 (some .boolean), Cond.fieldLink RX2 22 "Groupbooks$Holdings" "equations" "[J", Cond.methodLink RX2 53 yX2_writeEquations, Cond.instanceMethod yX2_writeEquations, Cond.selects RX2 yX2_writeEquations yX2_writeEquations, Cond.code yX2_writeEquations cX2_writeEquations 3 none, Cond.constantLong RX2 64 (100), Cond.methodLink RX2 56 yX2_clearColumn, Cond.instanceMethod yX2_clearColumn, Cond.selects RX2 yX2_clearColumn yX2_clearColumn]
def wsL_calls_r3 : List Cond := [Cond.code yX2_clearColumn cX2_clearColumn 7 none, Cond.methodLink RX2 66 yX2_clearEntry, Cond.instanceMethod yX2_clearEntry, Cond.selects RX2 yX2_clearEntry yX2_clearEntry, Cond.code yX2_clearEntry cX2_clearEntry 13 none, Cond.methodLink RX2 60 yX2_keepShares, Cond.instanceMethod yX2_keepShares, Cond.selects RX2 yX2_keepShares yX2_keepShares, Cond.code yX2_keepShares cX2_keepShares 8 none, Cond.fieldLink RX2 15 "Groupbooks$Holdings" "numerators" "[J", Cond.fieldLink RX2 19 "Groupbooks$Holdings" "denominators" "[J", Cond.methodLink RX2 70 yX2_commonDivisor, Cond.static yX2_commonDivisor, Cond.code yX2_commonDivisor cX2_commonDivisor 11 (some .long), Cond.methodLink RX3 57 yX3_requireTaken, Cond.static yX3_requireTaken, Cond.code yX3_requireTaken cX3_requireTaken 1 none, Cond.classLink RX3 142 "java/lang/IllegalStateException", Cond.initialized "java/lang/IllegalStateException", Cond.methodLink RL 16 yX3_acquire, Cond.instanceMethod yX3_acquire, Cond.selects RX3 yX3_acquire yX3_acquire, Cond.code yX3_acquire cX3_acquire 6 (some .int), Cond.constant RX3 61 (1000000)]
def wsL_calls_r4 : List Cond := [Cond.fieldLink RX3 30 "Groupbooks" "goodwills" "[I", Cond.fieldLink RX3 19 "Groupbooks" "books" "LGroupbooks$Books;", Cond.instanceMethod yX1_netOf, Cond.initialized RX1, Cond.selects RX1 yX1_netOf yX1_netOf, Cond.code yX1_netOf cX1_netOf 2 (some .int), Cond.methodLink RX1 37 yX1_assetsOf, Cond.instanceMethod yX1_assetsOf, Cond.selects RX1 yX1_assetsOf yX1_assetsOf, Cond.code yX1_assetsOf cX1_assetsOf 2 (some .int), Cond.fieldLink RX1 9 "Groupbooks$Books" "ownAssets" "[I", Cond.fieldLink RX1 24 "Groupbooks$Books" "closingRates" "[I", Cond.methodLink RX1 33 yX1_translate, Cond.static yX1_translate, Cond.code yX1_translate cX1_translate 2 (some .int), Cond.methodLink RX1 44 yJ9_floorDiv_7cf53, Cond.static yJ9_floorDiv_7cf53, Cond.initialized RJ9, Cond.code yJ9_floorDiv_7cf53 cJ9_floorDiv_7cf53 3 (some .int), Cond.methodLink RX1 41 yX1_debtsOf, Cond.instanceMethod yX1_debtsOf, Cond.selects RX1 yX1_debtsOf yX1_debtsOf, Cond.code yX1_debtsOf cX1_debtsOf 2 (some .int), Cond.fieldLink RX1 15 "Groupbooks$Books" "ownDebts" "[I"]
def wsL_calls_r5 : List Cond := [Cond.methodLink RX3 66 yJ9_floorDiv_7cf53, Cond.methodLink RL 20 yX3_claim, Cond.instanceMethod yX3_claim, Cond.selects RX3 yX3_claim yX3_claim, Cond.code yX3_claim cX3_claim 4 (some .int), Cond.fieldLink RX3 26 "Groupbooks" "balances" "LGroupbooks$Balances;", Cond.instanceMethod yX0_replaceClaim, Cond.initialized RX0, Cond.selects RX0 yX0_replaceClaim yX0_replaceClaim, Cond.code yX0_replaceClaim cX0_replaceClaim 6 (some .int), Cond.fieldLink RX0 9 "Groupbooks$Balances" "claims" "[I", Cond.methodLink RL 23 yX3_admit, Cond.instanceMethod yX3_admit, Cond.selects RX3 yX3_admit yX3_admit, Cond.code yX3_admit cX3_admit 4 (some .int), Cond.instanceMethod yX0_replaceAdmitted, Cond.selects RX0 yX0_replaceAdmitted yX0_replaceAdmitted, Cond.code yX0_replaceAdmitted cX0_replaceAdmitted 6 (some .int), Cond.fieldLink RX0 15 "Groupbooks$Balances" "admissions" "[I", Cond.methodLink RL 26 yX3_close, Cond.instanceMethod yX3_close, Cond.selects RX3 yX3_close yX3_close, Cond.code yX3_close cX3_close 2 (some .int), Cond.fieldLink RX3 37 "Groupbooks" "closedPeriods" "I"]
def wsL_calls_r6 : List Cond := [Cond.fieldLink RX3 34 "Groupbooks" "periodResults" "[I", Cond.methodLink RX3 149 yX3_result, Cond.instanceMethod yX3_result, Cond.selects RX3 yX3_result yX3_result, Cond.code yX3_result cX3_result 4 (some .int), Cond.instanceMethod yX2_members, Cond.selects RX2 yX2_members yX2_members, Cond.code yX2_members cX2_members 3 (some .int), Cond.methodLink RX2 77 yX2_withControlled, Cond.instanceMethod yX2_withControlled, Cond.selects RX2 yX2_withControlled yX2_withControlled, Cond.code yX2_withControlled cX2_withControlled 4 (some .int), Cond.methodLink RX2 80 yX2_heldAmong, Cond.instanceMethod yX2_heldAmong, Cond.selects RX2 yX2_heldAmong yX2_heldAmong, Cond.code yX2_heldAmong cX2_heldAmong 5 (some .int), Cond.static yX3_isMember, Cond.code yX3_isMember cX3_isMember 2 (some .boolean), Cond.methodLink RX3 120 yX3_isMember, Cond.instanceMethod yX1_profitOf, Cond.selects RX1 yX1_profitOf yX1_profitOf, Cond.code yX1_profitOf cX1_profitOf 2 (some .int), Cond.fieldLink RX1 21 "Groupbooks$Books" "ownProfits" "[I", Cond.fieldLink RX1 27 "Groupbooks$Books" "averageRates" "[I"]
def wsL_calls_r7 : List Cond := [Cond.instanceMethod yX2_partOfParent, Cond.selects RX2 yX2_partOfParent yX2_partOfParent, Cond.code yX2_partOfParent cX2_partOfParent 3 (some .int), Cond.methodLink RX2 35 yX2_scale, Cond.static yX2_scale, Cond.code yX2_scale cX2_scale 5 (some .int), Cond.methodLink RX2 39 yJ9_floorDiv_f86c9, Cond.static yJ9_floorDiv_f86c9, Cond.code yJ9_floorDiv_f86c9 cJ9_floorDiv_f86c9 6 (some .long), Cond.instanceMethod yX1_carryResults, Cond.selects RX1 yX1_carryResults yX1_carryResults, Cond.code yX1_carryResults cX1_carryResults 2 none, Cond.fieldLink RX1 18 "Groupbooks$Books" "ownEquities" "[I", Cond.methodLink RL 30 yX3_difference, Cond.instanceMethod yX3_difference, Cond.selects RX3 yX3_difference yX3_difference, Cond.code yX3_difference cX3_difference 3 (some .int), Cond.instanceMethod yX0_disputed, Cond.selects RX0 yX0_disputed yX0_disputed, Cond.code yX0_disputed cX0_disputed 4 (some .int)]
def wsL_calls : List Cond := .codeWith yL_calls cL_calls 7 (some .int) [(0, 83, 84, 34), (0, 83, 89, 37)] :: ((wsL_calls_r1 ++ (wsL_calls_r2 ++ (wsL_calls_r3 ++ (wsL_calls_r4 ++ (wsL_calls_r5 ++ (wsL_calls_r6 ++ wsL_calls_r7)))))) ++ wsX30 ++ wsX20 ++ wsX10 ++ wsX00 ++ (vx_atS RX3 159 "java/lang/IllegalArgumentException" ["java/lang/RuntimeException", "java/lang/Exception"]).filter goodWord ++ (vx_atS RX3 146 "java/lang/IllegalStateException" ["java/lang/RuntimeException", "java/lang/Exception"]).filter goodWord)
def wsL_books_r1 : List Cond := [Cond.classLink RL 34 "java/lang/IllegalArgumentException", Cond.methodLink RL 40 yX3_setBooks, Cond.instanceMethod yX3_setBooks, Cond.selects RX3 yX3_setBooks yX3_setBooks, Cond.initialized RX3, Cond.code yX3_setBooks cX3_setBooks 6 none, Cond.constant RX3 61 (1000000), Cond.constant RX3 89 (-1000000), Cond.fieldLink RX3 19 "Groupbooks" "books" "LGroupbooks$Books;", Cond.methodLink RX3 71 yX3_requireCompany, Cond.static yX3_requireCompany, Cond.code yX3_requireCompany cX3_requireCompany 1 none, Cond.methodLink RX3 45 yX3_requireRange, Cond.static yX3_requireRange, Cond.code yX3_requireRange cX3_requireRange 3 none, Cond.classLink RX3 155 "java/lang/IllegalArgumentException", Cond.initialized "java/lang/IllegalArgumentException", Cond.methodLink RX3 90 yX3_requireBalance, Cond.static yX3_requireBalance, Cond.code yX3_requireBalance cX3_requireBalance 2 none, Cond.instanceMethod yX1_enter, Cond.initialized RX1, Cond.selects RX1 yX1_enter yX1_enter, Cond.code yX1_enter cX1_enter 6 none]
def wsL_books_r2 : List Cond := [Cond.fieldLink RX1 9 "Groupbooks$Books" "ownAssets" "[I", Cond.fieldLink RX1 15 "Groupbooks$Books" "ownDebts" "[I", Cond.fieldLink RX1 18 "Groupbooks$Books" "ownEquities" "[I", Cond.fieldLink RX1 21 "Groupbooks$Books" "ownProfits" "[I"]
def wsL_books : List Cond := .codeWith yL_books cL_books 7 (some .int) [(0, 12, 13, 34)] :: ((wsL_books_r1 ++ wsL_books_r2) ++ wsX30 ++ wsX10 ++ (vx_atS RX3 159 "java/lang/IllegalArgumentException" ["java/lang/RuntimeException", "java/lang/Exception"]).filter goodWord)
def wsL_floor : List Cond := .code yL_floor cL_floor 4 (some .long) :: ([])
def wsL_at : List Cond := .code yL_at cL_at 2 (some .int) :: ([.constantLong RL 44 (100), .methodLink RL 46 yL_floor, .static yL_floor, .initialized RL, .code yL_floor cL_floor 4 (some .long)])
def wsL_net : List Cond := .code yL_net cL_net 2 (some .int) :: ([.methodLink RL 52 yL_at, .static yL_at, .initialized RL, .code yL_at cL_at 2 (some .int), .constantLong RL 44 (100), .methodLink RL 46 yL_floor, .static yL_floor, .code yL_floor cL_floor 4 (some .long)])
def wsL_closedRing : List Cond := .code yL_closedRing cL_closedRing 7 (some .boolean) :: ([])
def wsL_total : List Cond := .code yL_total cL_total 4 (some .int) :: ([])
def wsL_group : List Cond := .code yL_group cL_group 7 (some .int) :: ([])
def wsL_inverse : List Cond := .code yL_inverse cL_inverse 10 (some .long) :: ([.constantLong RL 55 (2)])
def wsL_common : List Cond := .code yL_common cL_common 10 (some .long) :: ([])
def wsL_shares_r1 : List Cond := [Cond.constantLong RL 44 (100), Cond.methodLink RL 57 yX3_shareNumerator, Cond.instanceMethod yX3_shareNumerator, Cond.selects RX3 yX3_shareNumerator yX3_shareNumerator, Cond.initialized RX3, Cond.code yX3_shareNumerator cX3_shareNumerator 2 (some .long), Cond.fieldLink RX3 10 "Groupbooks" "holdings" "LGroupbooks$Holdings;", Cond.methodLink RX3 71 yX3_requireCompany, Cond.static yX3_requireCompany, Cond.code yX3_requireCompany cX3_requireCompany 1 none, Cond.methodLink RX3 45 yX3_requireRange, Cond.static yX3_requireRange, Cond.code yX3_requireRange cX3_requireRange 3 none, Cond.classLink RX3 155 "java/lang/IllegalArgumentException", Cond.initialized "java/lang/IllegalArgumentException", Cond.instanceMethod yX2_numeratorOf, Cond.initialized RX2, Cond.selects RX2 yX2_numeratorOf yX2_numeratorOf, Cond.code yX2_numeratorOf cX2_numeratorOf 2 (some .long), Cond.fieldLink RX2 15 "Groupbooks$Holdings" "numerators" "[J", Cond.methodLink RL 61 yX3_shareDenominator, Cond.instanceMethod yX3_shareDenominator, Cond.selects RX3 yX3_shareDenominator yX3_shareDenominator, Cond.code yX3_shareDenominator cX3_shareDenominator 2 (some .long)]
def wsL_shares_r2 : List Cond := [Cond.instanceMethod yX2_denominatorOf, Cond.selects RX2 yX2_denominatorOf yX2_denominatorOf, Cond.code yX2_denominatorOf cX2_denominatorOf 2 (some .long), Cond.fieldLink RX2 19 "Groupbooks$Holdings" "denominators" "[J", Cond.methodLink RL 64 yL_common, Cond.static yL_common, Cond.initialized RL, Cond.code yL_common cL_common 10 (some .long), Cond.methodLink RL 67 yL_inverse, Cond.static yL_inverse, Cond.code yL_inverse cL_inverse 10 (some .long), Cond.constantLong RL 55 (2)]
def wsL_shares : List Cond := .code yL_shares cL_shares 12 (some .boolean) :: ((wsL_shares_r1 ++ wsL_shares_r2) ++ wsX30 ++ wsX20 ++ (vx_atS RX3 159 "java/lang/IllegalArgumentException" ["java/lang/RuntimeException", "java/lang/Exception"]).filter goodWord)
def wsL_rounds : List Cond := .code yL_rounds cL_rounds 8 (some .int) :: ([.constant RL 70 (1000000)])
def wsL_result_r1 : List Cond := [Cond.methodLink RL 52 yL_at, Cond.static yL_at, Cond.initialized RL, Cond.code yL_at cL_at 2 (some .int), Cond.constantLong RL 44 (100), Cond.methodLink RL 46 yL_floor, Cond.static yL_floor, Cond.code yL_floor cL_floor 4 (some .long), Cond.methodLink RL 57 yX3_shareNumerator, Cond.instanceMethod yX3_shareNumerator, Cond.selects RX3 yX3_shareNumerator yX3_shareNumerator, Cond.initialized RX3, Cond.code yX3_shareNumerator cX3_shareNumerator 2 (some .long), Cond.fieldLink RX3 10 "Groupbooks" "holdings" "LGroupbooks$Holdings;", Cond.methodLink RX3 71 yX3_requireCompany, Cond.static yX3_requireCompany, Cond.code yX3_requireCompany cX3_requireCompany 1 none, Cond.methodLink RX3 45 yX3_requireRange, Cond.static yX3_requireRange, Cond.code yX3_requireRange cX3_requireRange 3 none, Cond.classLink RX3 155 "java/lang/IllegalArgumentException", Cond.initialized "java/lang/IllegalArgumentException", Cond.instanceMethod yX2_numeratorOf, Cond.initialized RX2]
def wsL_result_r2 : List Cond := [Cond.selects RX2 yX2_numeratorOf yX2_numeratorOf, Cond.code yX2_numeratorOf cX2_numeratorOf 2 (some .long), Cond.fieldLink RX2 15 "Groupbooks$Holdings" "numerators" "[J", Cond.methodLink RL 61 yX3_shareDenominator, Cond.instanceMethod yX3_shareDenominator, Cond.selects RX3 yX3_shareDenominator yX3_shareDenominator, Cond.code yX3_shareDenominator cX3_shareDenominator 2 (some .long), Cond.instanceMethod yX2_denominatorOf, Cond.selects RX2 yX2_denominatorOf yX2_denominatorOf, Cond.code yX2_denominatorOf cX2_denominatorOf 2 (some .long), Cond.fieldLink RX2 19 "Groupbooks$Holdings" "denominators" "[J"]
def wsL_result : List Cond := .code yL_result cL_result 5 (some .int) :: ((wsL_result_r1 ++ wsL_result_r2) ++ wsX30 ++ wsX20 ++ (vx_atS RX3 159 "java/lang/IllegalArgumentException" ["java/lang/RuntimeException", "java/lang/Exception"]).filter goodWord)
def wsL_isSo_r1 : List Cond := [Cond.constant RL 36 (-2000002), Cond.methodLink RL 71 yL_group, Cond.static yL_group, Cond.initialized RL, Cond.code yL_group cL_group 7 (some .int), Cond.methodLink RL 75 yX3_group, Cond.instanceMethod yX3_group, Cond.selects RX3 yX3_group yX3_group, Cond.initialized RX3, Cond.code yX3_group cX3_group 1 (some .int), Cond.fieldLink RX3 10 "Groupbooks" "holdings" "LGroupbooks$Holdings;", Cond.instanceMethod yX2_members, Cond.initialized RX2, Cond.selects RX2 yX2_members yX2_members, Cond.code yX2_members cX2_members 3 (some .int), Cond.methodLink RX2 77 yX2_withControlled, Cond.instanceMethod yX2_withControlled, Cond.selects RX2 yX2_withControlled yX2_withControlled, Cond.code yX2_withControlled cX2_withControlled 4 (some .int), Cond.methodLink RX2 80 yX2_heldAmong, Cond.instanceMethod yX2_heldAmong, Cond.selects RX2 yX2_heldAmong yX2_heldAmong, Cond.code yX2_heldAmong cX2_heldAmong 5 (some .int), Cond.fieldLink RX2 9 "Groupbooks$Holdings" "percents" "[I"]
def wsL_isSo_r2 : List Cond := [Cond.static yX3_isMember, Cond.code yX3_isMember cX3_isMember 2 (some .boolean), Cond.static yX3_pair, Cond.code yX3_pair cX3_pair 2 (some .int), Cond.methodLink RL 52 yL_at, Cond.static yL_at, Cond.code yL_at cL_at 2 (some .int), Cond.constantLong RL 44 (100), Cond.methodLink RL 46 yL_floor, Cond.static yL_floor, Cond.code yL_floor cL_floor 4 (some .long), Cond.methodLink RL 77 yL_net, Cond.static yL_net, Cond.code yL_net cL_net 2 (some .int), Cond.methodLink RL 61 yX3_shareDenominator, Cond.instanceMethod yX3_shareDenominator, Cond.selects RX3 yX3_shareDenominator yX3_shareDenominator, Cond.code yX3_shareDenominator cX3_shareDenominator 2 (some .long), Cond.methodLink RX3 71 yX3_requireCompany, Cond.static yX3_requireCompany, Cond.code yX3_requireCompany cX3_requireCompany 1 none, Cond.methodLink RX3 45 yX3_requireRange, Cond.static yX3_requireRange, Cond.code yX3_requireRange cX3_requireRange 3 none]
def wsL_isSo_r3 : List Cond := [Cond.classLink RX3 155 "java/lang/IllegalArgumentException", Cond.initialized "java/lang/IllegalArgumentException", Cond.instanceMethod yX2_denominatorOf, Cond.selects RX2 yX2_denominatorOf yX2_denominatorOf, Cond.code yX2_denominatorOf cX2_denominatorOf 2 (some .long), Cond.fieldLink RX2 19 "Groupbooks$Holdings" "denominators" "[J", Cond.methodLink RL 57 yX3_shareNumerator, Cond.instanceMethod yX3_shareNumerator, Cond.selects RX3 yX3_shareNumerator yX3_shareNumerator, Cond.code yX3_shareNumerator cX3_shareNumerator 2 (some .long), Cond.instanceMethod yX2_numeratorOf, Cond.selects RX2 yX2_numeratorOf yX2_numeratorOf, Cond.code yX2_numeratorOf cX2_numeratorOf 2 (some .long), Cond.fieldLink RX2 15 "Groupbooks$Holdings" "numerators" "[J", Cond.methodLink RL 81 yX3_netValue, Cond.instanceMethod yX3_netValue, Cond.selects RX3 yX3_netValue yX3_netValue, Cond.code yX3_netValue cX3_netValue 2 (some .int), Cond.fieldLink RX3 19 "Groupbooks" "books" "LGroupbooks$Books;", Cond.instanceMethod yX1_netOf, Cond.initialized RX1, Cond.selects RX1 yX1_netOf yX1_netOf, Cond.code yX1_netOf cX1_netOf 2 (some .int), Cond.methodLink RX1 37 yX1_assetsOf]
def wsL_isSo_r4 : List Cond := [Cond.instanceMethod yX1_assetsOf, Cond.selects RX1 yX1_assetsOf yX1_assetsOf, Cond.code yX1_assetsOf cX1_assetsOf 2 (some .int), Cond.fieldLink RX1 9 "Groupbooks$Books" "ownAssets" "[I", Cond.fieldLink RX1 24 "Groupbooks$Books" "closingRates" "[I", Cond.methodLink RX1 33 yX1_translate, Cond.static yX1_translate, Cond.code yX1_translate cX1_translate 2 (some .int), Cond.methodLink RX1 44 yJ9_floorDiv_7cf53, Cond.static yJ9_floorDiv_7cf53, Cond.initialized RJ9, Cond.code yJ9_floorDiv_7cf53 cJ9_floorDiv_7cf53 3 (some .int), Cond.methodLink RX1 41 yX1_debtsOf, Cond.instanceMethod yX1_debtsOf, Cond.selects RX1 yX1_debtsOf yX1_debtsOf, Cond.code yX1_debtsOf cX1_debtsOf 2 (some .int), Cond.fieldLink RX1 15 "Groupbooks$Books" "ownDebts" "[I", Cond.methodLink RL 85 yX3_translatedEquity, Cond.instanceMethod yX3_translatedEquity, Cond.selects RX3 yX3_translatedEquity yX3_translatedEquity, Cond.code yX3_translatedEquity cX3_translatedEquity 2 (some .int), Cond.instanceMethod yX1_equityOf, Cond.selects RX1 yX1_equityOf yX1_equityOf, Cond.code yX1_equityOf cX1_equityOf 2 (some .int)]
def wsL_isSo_r5 : List Cond := [Cond.fieldLink RX1 18 "Groupbooks$Books" "ownEquities" "[I", Cond.fieldLink RX1 30 "Groupbooks$Books" "historicalRates" "[I", Cond.methodLink RL 88 yX3_translatedResult, Cond.instanceMethod yX3_translatedResult, Cond.selects RX3 yX3_translatedResult yX3_translatedResult, Cond.code yX3_translatedResult cX3_translatedResult 2 (some .int), Cond.instanceMethod yX1_profitOf, Cond.selects RX1 yX1_profitOf yX1_profitOf, Cond.code yX1_profitOf cX1_profitOf 2 (some .int), Cond.fieldLink RX1 21 "Groupbooks$Books" "ownProfits" "[I", Cond.fieldLink RX1 27 "Groupbooks$Books" "averageRates" "[I", Cond.methodLink RL 91 yX3_reserve, Cond.instanceMethod yX3_reserve, Cond.selects RX3 yX3_reserve yX3_reserve, Cond.code yX3_reserve cX3_reserve 2 (some .int), Cond.methodLink RL 94 yX3_minority, Cond.instanceMethod yX3_minority, Cond.selects RX3 yX3_minority yX3_minority, Cond.code yX3_minority cX3_minority 2 (some .int), Cond.methodLink RX3 130 yX3_minorityAmong, Cond.instanceMethod yX3_minorityAmong, Cond.selects RX3 yX3_minorityAmong yX3_minorityAmong, Cond.code yX3_minorityAmong cX3_minorityAmong 3 (some .int), Cond.methodLink RX3 120 yX3_isMember]
def wsL_isSo_r6 : List Cond := [Cond.instanceMethod yX2_partOfOthers, Cond.selects RX2 yX2_partOfOthers yX2_partOfOthers, Cond.code yX2_partOfOthers cX2_partOfOthers 5 (some .int), Cond.methodLink RX2 35 yX2_scale, Cond.static yX2_scale, Cond.code yX2_scale cX2_scale 5 (some .int), Cond.methodLink RX2 39 yJ9_floorDiv_f86c9, Cond.static yJ9_floorDiv_f86c9, Cond.code yJ9_floorDiv_f86c9 cJ9_floorDiv_f86c9 6 (some .long), Cond.methodLink RL 97 yX3_goodwill, Cond.instanceMethod yX3_goodwill, Cond.selects RX3 yX3_goodwill yX3_goodwill, Cond.code yX3_goodwill cX3_goodwill 2 (some .int), Cond.fieldLink RX3 30 "Groupbooks" "goodwills" "[I", Cond.methodLink RL 100 yX3_held, Cond.instanceMethod yX3_held, Cond.selects RX3 yX3_held yX3_held, Cond.code yX3_held cX3_held 3 (some .int), Cond.instanceMethod yX2_percentOf, Cond.selects RX2 yX2_percentOf yX2_percentOf, Cond.code yX2_percentOf cX2_percentOf 3 (some .int), Cond.methodLink RL 103 yL_calls, Cond.static yL_calls, Cond.codeWith yL_calls cL_calls 7 (some .int) [(0, 83, 84, 34), (0, 83, 89, 37)]]
def wsL_isSo_r7 : List Cond := [Cond.classLink RL 34 "java/lang/IllegalArgumentException", Cond.classLink RL 37 "java/lang/IllegalStateException", Cond.constant RL 39 (-2000003), Cond.methodLink RL 10 yX3_hold, Cond.instanceMethod yX3_hold, Cond.selects RX3 yX3_hold yX3_hold, Cond.code yX3_hold cX3_hold 5 (some .int), Cond.methodLink RX3 41 yX3_requireTwoCompanies, Cond.static yX3_requireTwoCompanies, Cond.code yX3_requireTwoCompanies cX3_requireTwoCompanies 2 none, Cond.instanceMethod yX2_take, Cond.selects RX2 yX2_take yX2_take, Cond.code yX2_take cX2_take 7 (some .boolean), Cond.methodLink RX2 45 yX2_heldByAll, Cond.instanceMethod yX2_heldByAll, Cond.selects RX2 yX2_heldByAll yX2_heldByAll, Cond.code yX2_heldByAll cX2_heldByAll 4 (some .int), Cond.methodLink RX2 49 yX2_determineShares, Cond.instanceMethod yX2_determineShares, Cond.selects RX2 yX2_determineShares yX2_determineShares, Cond.code yX2_determineShares cX2_determineShares 6 (some .boolean), Cond.fieldLink RX2 22 "Groupbooks$Holdings" "equations" "[J", Cond.methodLink RX2 53 yX2_writeEquations, Cond.instanceMethod yX2_writeEquations]
def wsL_isSo_r8 : List Cond := [Cond.selects RX2 yX2_writeEquations yX2_writeEquations, Cond.code yX2_writeEquations cX2_writeEquations 3 none, Cond.constantLong RX2 64 (100), Cond.methodLink RX2 56 yX2_clearColumn, Cond.instanceMethod yX2_clearColumn, Cond.selects RX2 yX2_clearColumn yX2_clearColumn, Cond.code yX2_clearColumn cX2_clearColumn 7 none, Cond.methodLink RX2 66 yX2_clearEntry, Cond.instanceMethod yX2_clearEntry, Cond.selects RX2 yX2_clearEntry yX2_clearEntry, Cond.code yX2_clearEntry cX2_clearEntry 13 none, Cond.methodLink RX2 60 yX2_keepShares, Cond.instanceMethod yX2_keepShares, Cond.selects RX2 yX2_keepShares yX2_keepShares, Cond.code yX2_keepShares cX2_keepShares 8 none, Cond.methodLink RX2 70 yX2_commonDivisor, Cond.static yX2_commonDivisor, Cond.code yX2_commonDivisor cX2_commonDivisor 11 (some .long), Cond.methodLink RX3 57 yX3_requireTaken, Cond.static yX3_requireTaken, Cond.code yX3_requireTaken cX3_requireTaken 1 none, Cond.classLink RX3 142 "java/lang/IllegalStateException", Cond.initialized "java/lang/IllegalStateException", Cond.methodLink RL 16 yX3_acquire]
def wsL_isSo_r9 : List Cond := [Cond.instanceMethod yX3_acquire, Cond.selects RX3 yX3_acquire yX3_acquire, Cond.code yX3_acquire cX3_acquire 6 (some .int), Cond.constant RX3 61 (1000000), Cond.methodLink RX3 66 yJ9_floorDiv_7cf53, Cond.methodLink RL 20 yX3_claim, Cond.instanceMethod yX3_claim, Cond.selects RX3 yX3_claim yX3_claim, Cond.code yX3_claim cX3_claim 4 (some .int), Cond.fieldLink RX3 26 "Groupbooks" "balances" "LGroupbooks$Balances;", Cond.instanceMethod yX0_replaceClaim, Cond.initialized RX0, Cond.selects RX0 yX0_replaceClaim yX0_replaceClaim, Cond.code yX0_replaceClaim cX0_replaceClaim 6 (some .int), Cond.fieldLink RX0 9 "Groupbooks$Balances" "claims" "[I", Cond.methodLink RL 23 yX3_admit, Cond.instanceMethod yX3_admit, Cond.selects RX3 yX3_admit yX3_admit, Cond.code yX3_admit cX3_admit 4 (some .int), Cond.instanceMethod yX0_replaceAdmitted, Cond.selects RX0 yX0_replaceAdmitted yX0_replaceAdmitted, Cond.code yX0_replaceAdmitted cX0_replaceAdmitted 6 (some .int), Cond.fieldLink RX0 15 "Groupbooks$Balances" "admissions" "[I", Cond.methodLink RL 26 yX3_close]
def wsL_isSo_r10 : List Cond := [Cond.instanceMethod yX3_close, Cond.selects RX3 yX3_close yX3_close, Cond.code yX3_close cX3_close 2 (some .int), Cond.fieldLink RX3 37 "Groupbooks" "closedPeriods" "I", Cond.fieldLink RX3 34 "Groupbooks" "periodResults" "[I", Cond.methodLink RX3 149 yX3_result, Cond.instanceMethod yX3_result, Cond.selects RX3 yX3_result yX3_result, Cond.code yX3_result cX3_result 4 (some .int), Cond.instanceMethod yX2_partOfParent, Cond.selects RX2 yX2_partOfParent yX2_partOfParent, Cond.code yX2_partOfParent cX2_partOfParent 3 (some .int), Cond.instanceMethod yX1_carryResults, Cond.selects RX1 yX1_carryResults yX1_carryResults, Cond.code yX1_carryResults cX1_carryResults 2 none, Cond.methodLink RL 30 yX3_difference, Cond.instanceMethod yX3_difference, Cond.selects RX3 yX3_difference yX3_difference, Cond.code yX3_difference cX3_difference 3 (some .int), Cond.instanceMethod yX0_disputed, Cond.selects RX0 yX0_disputed yX0_disputed, Cond.code yX0_disputed cX0_disputed 4 (some .int), Cond.methodLink RL 107 yX3_resultOf, Cond.instanceMethod yX3_resultOf]
def wsL_isSo_r11 : List Cond := [Cond.selects RX3 yX3_resultOf yX3_resultOf, Cond.code yX3_resultOf cX3_resultOf 2 (some .int), Cond.methodLink RL 110 yX3_eliminated, Cond.instanceMethod yX3_eliminated, Cond.selects RX3 yX3_eliminated yX3_eliminated, Cond.code yX3_eliminated cX3_eliminated 1 (some .int), Cond.instanceMethod yX0_agreedAmong, Cond.selects RX0 yX0_agreedAmong yX0_agreedAmong, Cond.code yX0_agreedAmong cX0_agreedAmong 6 (some .int), Cond.methodLink RX0 26 Lib.Math.min.name, Cond.static Lib.Math.min.name, Cond.initialized "java/lang/Math", Cond.code Lib.Math.min.name Lib.Math.min.code 2 (some .int), Cond.methodLink RL 113 yX3_assets, Cond.instanceMethod yX3_assets, Cond.selects RX3 yX3_assets yX3_assets, Cond.code yX3_assets cX3_assets 4 (some .int), Cond.methodLink RL 116 yX3_debts, Cond.instanceMethod yX3_debts, Cond.selects RX3 yX3_debts yX3_debts, Cond.code yX3_debts cX3_debts 4 (some .int), Cond.methodLink RL 119 yX3_equity, Cond.instanceMethod yX3_equity, Cond.selects RX3 yX3_equity yX3_equity]
def wsL_isSo_r12 : List Cond := [Cond.code yX3_equity cX3_equity 4 (some .int), Cond.methodLink RX3 133 yX3_assets, Cond.methodLink RX3 136 yX3_debts, Cond.methodLink RL 122 yX3_result, Cond.methodLink RL 125 yL_result, Cond.static yL_result, Cond.code yL_result cL_result 5 (some .int)]
def wsL_isSo : List Cond := .code yL_isSo cL_isSo 20 (some .boolean) :: ((wsL_isSo_r1 ++ (wsL_isSo_r2 ++ (wsL_isSo_r3 ++ (wsL_isSo_r4 ++ (wsL_isSo_r5 ++ (wsL_isSo_r6 ++ (wsL_isSo_r7 ++ (wsL_isSo_r8 ++ (wsL_isSo_r9 ++ (wsL_isSo_r10 ++ (wsL_isSo_r11 ++ wsL_isSo_r12))))))))))) ++ wsX30 ++ wsX20 ++ wsX10 ++ wsX00 ++ (vx_atS RX3 159 "java/lang/IllegalArgumentException" ["java/lang/RuntimeException", "java/lang/Exception"]).filter goodWord ++ (vx_atS RX3 146 "java/lang/IllegalStateException" ["java/lang/RuntimeException", "java/lang/Exception"]).filter goodWord)
def wsL_due : List Cond := .code yL_due cL_due 10 (some .int) :: ([.constant RL 36 (-2000002), .constant RL 39 (-2000003), .constantLong RL 44 (100), .methodLink RL 128 yL_total, .static yL_total, .initialized RL, .code yL_total cL_total 4 (some .int), .methodLink RL 131 yL_closedRing, .static yL_closedRing, .code yL_closedRing cL_closedRing 7 (some .boolean), .methodLink RL 77 yL_net, .static yL_net, .code yL_net cL_net 2 (some .int), .methodLink RL 52 yL_at, .static yL_at, .code yL_at cL_at 2 (some .int), .methodLink RL 46 yL_floor, .static yL_floor, .code yL_floor cL_floor 4 (some .long)])
def wsL_closes_r1 : List Cond := [Cond.constant RL 70 (1000000), Cond.constant RL 135 (-1000000), Cond.constant RL 39 (-2000003), Cond.methodLink RL 71 yL_group, Cond.static yL_group, Cond.initialized RL, Cond.code yL_group cL_group 7 (some .int), Cond.methodLink RL 125 yL_result, Cond.static yL_result, Cond.code yL_result cL_result 5 (some .int), Cond.methodLink RL 52 yL_at, Cond.static yL_at, Cond.code yL_at cL_at 2 (some .int), Cond.constantLong RL 44 (100), Cond.methodLink RL 46 yL_floor, Cond.static yL_floor, Cond.code yL_floor cL_floor 4 (some .long), Cond.methodLink RL 57 yX3_shareNumerator, Cond.instanceMethod yX3_shareNumerator, Cond.selects RX3 yX3_shareNumerator yX3_shareNumerator, Cond.initialized RX3, Cond.code yX3_shareNumerator cX3_shareNumerator 2 (some .long), Cond.fieldLink RX3 10 "Groupbooks" "holdings" "LGroupbooks$Holdings;", Cond.methodLink RX3 71 yX3_requireCompany]
def wsL_closes_r2 : List Cond := [Cond.static yX3_requireCompany, Cond.code yX3_requireCompany cX3_requireCompany 1 none, Cond.methodLink RX3 45 yX3_requireRange, Cond.static yX3_requireRange, Cond.code yX3_requireRange cX3_requireRange 3 none, Cond.classLink RX3 155 "java/lang/IllegalArgumentException", Cond.initialized "java/lang/IllegalArgumentException", Cond.instanceMethod yX2_numeratorOf, Cond.initialized RX2, Cond.selects RX2 yX2_numeratorOf yX2_numeratorOf, Cond.code yX2_numeratorOf cX2_numeratorOf 2 (some .long), Cond.fieldLink RX2 15 "Groupbooks$Holdings" "numerators" "[J", Cond.methodLink RL 61 yX3_shareDenominator, Cond.instanceMethod yX3_shareDenominator, Cond.selects RX3 yX3_shareDenominator yX3_shareDenominator, Cond.code yX3_shareDenominator cX3_shareDenominator 2 (some .long), Cond.instanceMethod yX2_denominatorOf, Cond.selects RX2 yX2_denominatorOf yX2_denominatorOf, Cond.code yX2_denominatorOf cX2_denominatorOf 2 (some .long), Cond.fieldLink RX2 19 "Groupbooks$Holdings" "denominators" "[J"]
def wsL_closes : List Cond := .code yL_closes cL_closes 8 (some .int) :: ((wsL_closes_r1 ++ wsL_closes_r2) ++ wsX30 ++ wsX20 ++ (vx_atS RX3 159 "java/lang/IllegalArgumentException" ["java/lang/RuntimeException", "java/lang/Exception"]).filter goodWord)
def wsL_law0_r1 : List Cond := [Cond.classLink RL 11 RX3, Cond.instantiable RX3 6, Cond.initialized RX3, Cond.arrayClass .int, Cond.constant RL 70 (1000000), Cond.constant RL 135 (-1000000), Cond.constant RL 155 (1000001), Cond.constant RL 36 (-2000002), Cond.constantLong RL 171 (1000000007), Cond.constantLong RL 177 (998244353), Cond.methodLink RL 136 yX3_init, Cond.instanceMethod yX3_init, Cond.code yX3_init cX3_init 1 none, Cond.methodLink RX3 1 objectInit, Cond.instanceMethod objectInit, Cond.code objectInit ⟨#[0xb1]⟩ 1 none, Cond.classLink RX3 7 RX2, Cond.instantiable RX2 6, Cond.initialized RX2, Cond.fieldLink RX3 10 "Groupbooks" "holdings" "LGroupbooks$Holdings;", Cond.classLink RX3 16 RX1, Cond.instantiable RX1 7, Cond.initialized RX1, Cond.fieldLink RX3 19 "Groupbooks" "books" "LGroupbooks$Books;"]
def wsL_law0_r2 : List Cond := [Cond.classLink RX3 23 RX0, Cond.instantiable RX0 2, Cond.initialized RX0, Cond.fieldLink RX3 26 "Groupbooks" "balances" "LGroupbooks$Balances;", Cond.fieldLink RX3 30 "Groupbooks" "goodwills" "[I", Cond.fieldLink RX3 34 "Groupbooks" "periodResults" "[I", Cond.fieldLink RX3 37 "Groupbooks" "closedPeriods" "I", Cond.instanceMethod yX2_init, Cond.code yX2_init cX2_init 2 none, Cond.methodLink RX2 3 objectInit, Cond.fieldLink RX2 9 "Groupbooks$Holdings" "percents" "[I", Cond.arrayClass .long, Cond.fieldLink RX2 15 "Groupbooks$Holdings" "numerators" "[J", Cond.fieldLink RX2 19 "Groupbooks$Holdings" "denominators" "[J", Cond.fieldLink RX2 22 "Groupbooks$Holdings" "equations" "[J", Cond.fieldLink RX2 25 "Groupbooks$Holdings" "amounts" "[I", Cond.fieldLink RX2 28 "Groupbooks$Holdings" "nextAmounts" "[I", Cond.instanceMethod yX1_init, Cond.code yX1_init cX1_init 2 none, Cond.methodLink RX1 3 objectInit, Cond.fieldLink RX1 9 "Groupbooks$Books" "ownAssets" "[I", Cond.fieldLink RX1 15 "Groupbooks$Books" "ownDebts" "[I", Cond.fieldLink RX1 18 "Groupbooks$Books" "ownEquities" "[I", Cond.fieldLink RX1 21 "Groupbooks$Books" "ownProfits" "[I"]
def wsL_law0_r3 : List Cond := [Cond.fieldLink RX1 24 "Groupbooks$Books" "closingRates" "[I", Cond.fieldLink RX1 27 "Groupbooks$Books" "averageRates" "[I", Cond.fieldLink RX1 30 "Groupbooks$Books" "historicalRates" "[I", Cond.instanceMethod yX0_init, Cond.code yX0_init cX0_init 1 none, Cond.methodLink RX0 3 objectInit, Cond.fieldLink RX0 9 "Groupbooks$Balances" "claims" "[I", Cond.fieldLink RX0 15 "Groupbooks$Balances" "admissions" "[I", Cond.methodLink RL 137 yL_cell, Cond.static yL_cell, Cond.initialized RL, Cond.code yL_cell cL_cell 2 (some .int), Cond.constant RL 7 (50321), Cond.constant RL 8 (2497011), Cond.methodLink RL 141 yL_low, Cond.static yL_low, Cond.code yL_low cL_low 2 (some .int), Cond.constant RL 9 (2147483647), Cond.methodLink RL 144 yL_due, Cond.static yL_due, Cond.code yL_due cL_due 10 (some .int), Cond.constant RL 39 (-2000003), Cond.constantLong RL 44 (100), Cond.methodLink RL 128 yL_total]
def wsL_law0_r4 : List Cond := [Cond.static yL_total, Cond.code yL_total cL_total 4 (some .int), Cond.methodLink RL 131 yL_closedRing, Cond.static yL_closedRing, Cond.code yL_closedRing cL_closedRing 7 (some .boolean), Cond.methodLink RL 77 yL_net, Cond.static yL_net, Cond.code yL_net cL_net 2 (some .int), Cond.methodLink RL 52 yL_at, Cond.static yL_at, Cond.code yL_at cL_at 2 (some .int), Cond.methodLink RL 46 yL_floor, Cond.static yL_floor, Cond.code yL_floor cL_floor 4 (some .long), Cond.methodLink RL 103 yL_calls, Cond.static yL_calls, Cond.codeWith yL_calls cL_calls 7 (some .int) [(0, 83, 84, 34), (0, 83, 89, 37)], Cond.classLink RL 34 "java/lang/IllegalArgumentException", Cond.classLink RL 37 "java/lang/IllegalStateException", Cond.methodLink RL 10 yX3_hold, Cond.instanceMethod yX3_hold, Cond.selects RX3 yX3_hold yX3_hold, Cond.code yX3_hold cX3_hold 5 (some .int), Cond.methodLink RX3 41 yX3_requireTwoCompanies]
def wsL_law0_r5 : List Cond := [Cond.static yX3_requireTwoCompanies, Cond.code yX3_requireTwoCompanies cX3_requireTwoCompanies 2 none, Cond.classLink RX3 155 "java/lang/IllegalArgumentException", Cond.initialized "java/lang/IllegalArgumentException", Cond.methodLink RX3 71 yX3_requireCompany, Cond.static yX3_requireCompany, Cond.code yX3_requireCompany cX3_requireCompany 1 none, Cond.methodLink RX3 45 yX3_requireRange, Cond.static yX3_requireRange, Cond.code yX3_requireRange cX3_requireRange 3 none, Cond.instanceMethod yX2_percentOf, Cond.selects RX2 yX2_percentOf yX2_percentOf, Cond.code yX2_percentOf cX2_percentOf 3 (some .int), Cond.static yX3_pair, Cond.code yX3_pair cX3_pair 2 (some .int), Cond.instanceMethod yX2_take, Cond.selects RX2 yX2_take yX2_take, Cond.code yX2_take cX2_take 7 (some .boolean), Cond.methodLink RX2 45 yX2_heldByAll, Cond.instanceMethod yX2_heldByAll, Cond.selects RX2 yX2_heldByAll yX2_heldByAll, Cond.code yX2_heldByAll cX2_heldByAll 4 (some .int), Cond.methodLink RX2 49 yX2_determineShares, Cond.instanceMethod yX2_determineShares]
def wsL_law0_r6 : List Cond := [Cond.selects RX2 yX2_determineShares yX2_determineShares, Cond.code yX2_determineShares cX2_determineShares 6 (some .boolean), Cond.methodLink RX2 53 yX2_writeEquations, Cond.instanceMethod yX2_writeEquations, Cond.selects RX2 yX2_writeEquations yX2_writeEquations, Cond.code yX2_writeEquations cX2_writeEquations 3 none, Cond.constantLong RX2 64 (100), Cond.methodLink RX2 56 yX2_clearColumn, Cond.instanceMethod yX2_clearColumn, Cond.selects RX2 yX2_clearColumn yX2_clearColumn, Cond.code yX2_clearColumn cX2_clearColumn 7 none, Cond.methodLink RX2 66 yX2_clearEntry, Cond.instanceMethod yX2_clearEntry, Cond.selects RX2 yX2_clearEntry yX2_clearEntry, Cond.code yX2_clearEntry cX2_clearEntry 13 none, Cond.methodLink RX2 60 yX2_keepShares, Cond.instanceMethod yX2_keepShares, Cond.selects RX2 yX2_keepShares yX2_keepShares, Cond.code yX2_keepShares cX2_keepShares 8 none, Cond.methodLink RX2 70 yX2_commonDivisor, Cond.static yX2_commonDivisor, Cond.code yX2_commonDivisor cX2_commonDivisor 11 (some .long), Cond.methodLink RX3 57 yX3_requireTaken, Cond.static yX3_requireTaken]
def wsL_law0_r7 : List Cond := [Cond.code yX3_requireTaken cX3_requireTaken 1 none, Cond.classLink RX3 142 "java/lang/IllegalStateException", Cond.initialized "java/lang/IllegalStateException", Cond.methodLink RL 16 yX3_acquire, Cond.instanceMethod yX3_acquire, Cond.selects RX3 yX3_acquire yX3_acquire, Cond.code yX3_acquire cX3_acquire 6 (some .int), Cond.constant RX3 61 (1000000), Cond.instanceMethod yX1_netOf, Cond.selects RX1 yX1_netOf yX1_netOf, Cond.code yX1_netOf cX1_netOf 2 (some .int), Cond.methodLink RX1 37 yX1_assetsOf, Cond.instanceMethod yX1_assetsOf, Cond.selects RX1 yX1_assetsOf yX1_assetsOf, Cond.code yX1_assetsOf cX1_assetsOf 2 (some .int), Cond.methodLink RX1 33 yX1_translate, Cond.static yX1_translate, Cond.code yX1_translate cX1_translate 2 (some .int), Cond.methodLink RX1 44 yJ9_floorDiv_7cf53, Cond.static yJ9_floorDiv_7cf53, Cond.initialized RJ9, Cond.code yJ9_floorDiv_7cf53 cJ9_floorDiv_7cf53 3 (some .int), Cond.methodLink RX1 41 yX1_debtsOf, Cond.instanceMethod yX1_debtsOf]
def wsL_law0_r8 : List Cond := [Cond.selects RX1 yX1_debtsOf yX1_debtsOf, Cond.code yX1_debtsOf cX1_debtsOf 2 (some .int), Cond.methodLink RX3 66 yJ9_floorDiv_7cf53, Cond.methodLink RL 20 yX3_claim, Cond.instanceMethod yX3_claim, Cond.selects RX3 yX3_claim yX3_claim, Cond.code yX3_claim cX3_claim 4 (some .int), Cond.instanceMethod yX0_replaceClaim, Cond.selects RX0 yX0_replaceClaim yX0_replaceClaim, Cond.code yX0_replaceClaim cX0_replaceClaim 6 (some .int), Cond.methodLink RL 23 yX3_admit, Cond.instanceMethod yX3_admit, Cond.selects RX3 yX3_admit yX3_admit, Cond.code yX3_admit cX3_admit 4 (some .int), Cond.instanceMethod yX0_replaceAdmitted, Cond.selects RX0 yX0_replaceAdmitted yX0_replaceAdmitted, Cond.code yX0_replaceAdmitted cX0_replaceAdmitted 6 (some .int), Cond.methodLink RL 26 yX3_close, Cond.instanceMethod yX3_close, Cond.selects RX3 yX3_close yX3_close, Cond.code yX3_close cX3_close 2 (some .int), Cond.methodLink RX3 149 yX3_result, Cond.instanceMethod yX3_result, Cond.selects RX3 yX3_result yX3_result]
def wsL_law0_r9 : List Cond := [Cond.code yX3_result cX3_result 4 (some .int), Cond.instanceMethod yX2_members, Cond.selects RX2 yX2_members yX2_members, Cond.code yX2_members cX2_members 3 (some .int), Cond.methodLink RX2 77 yX2_withControlled, Cond.instanceMethod yX2_withControlled, Cond.selects RX2 yX2_withControlled yX2_withControlled, Cond.code yX2_withControlled cX2_withControlled 4 (some .int), Cond.methodLink RX2 80 yX2_heldAmong, Cond.instanceMethod yX2_heldAmong, Cond.selects RX2 yX2_heldAmong yX2_heldAmong, Cond.code yX2_heldAmong cX2_heldAmong 5 (some .int), Cond.static yX3_isMember, Cond.code yX3_isMember cX3_isMember 2 (some .boolean), Cond.methodLink RX3 120 yX3_isMember, Cond.instanceMethod yX1_profitOf, Cond.selects RX1 yX1_profitOf yX1_profitOf, Cond.code yX1_profitOf cX1_profitOf 2 (some .int), Cond.instanceMethod yX2_partOfParent, Cond.selects RX2 yX2_partOfParent yX2_partOfParent, Cond.code yX2_partOfParent cX2_partOfParent 3 (some .int), Cond.methodLink RX2 35 yX2_scale, Cond.static yX2_scale, Cond.code yX2_scale cX2_scale 5 (some .int)]
def wsL_law0_r10 : List Cond := [Cond.methodLink RX2 39 yJ9_floorDiv_f86c9, Cond.static yJ9_floorDiv_f86c9, Cond.code yJ9_floorDiv_f86c9 cJ9_floorDiv_f86c9 6 (some .long), Cond.instanceMethod yX1_carryResults, Cond.selects RX1 yX1_carryResults yX1_carryResults, Cond.code yX1_carryResults cX1_carryResults 2 none, Cond.methodLink RL 30 yX3_difference, Cond.instanceMethod yX3_difference, Cond.selects RX3 yX3_difference yX3_difference, Cond.code yX3_difference cX3_difference 3 (some .int), Cond.instanceMethod yX0_disputed, Cond.selects RX0 yX0_disputed yX0_disputed, Cond.code yX0_disputed cX0_disputed 4 (some .int), Cond.methodLink RL 148 yL_books, Cond.static yL_books, Cond.codeWith yL_books cL_books 7 (some .int) [(0, 12, 13, 34)], Cond.methodLink RL 40 yX3_setBooks, Cond.instanceMethod yX3_setBooks, Cond.selects RX3 yX3_setBooks yX3_setBooks, Cond.code yX3_setBooks cX3_setBooks 6 none, Cond.constant RX3 89 (-1000000), Cond.methodLink RX3 90 yX3_requireBalance, Cond.static yX3_requireBalance, Cond.code yX3_requireBalance cX3_requireBalance 2 none]
def wsL_law0_r11 : List Cond := [Cond.instanceMethod yX1_enter, Cond.selects RX1 yX1_enter yX1_enter, Cond.code yX1_enter cX1_enter 6 none, Cond.methodLink RL 151 yX3_setRates, Cond.instanceMethod yX3_setRates, Cond.selects RX3 yX3_setRates yX3_setRates, Cond.code yX3_setRates cX3_setRates 5 none, Cond.instanceMethod yX1_enterRates, Cond.selects RX1 yX1_enterRates yX1_enterRates, Cond.code yX1_enterRates cX1_enterRates 5 none, Cond.methodLink RL 156 yL_closes, Cond.static yL_closes, Cond.code yL_closes cL_closes 8 (some .int), Cond.methodLink RL 71 yL_group, Cond.static yL_group, Cond.code yL_group cL_group 7 (some .int), Cond.methodLink RL 125 yL_result, Cond.static yL_result, Cond.code yL_result cL_result 5 (some .int), Cond.methodLink RL 57 yX3_shareNumerator, Cond.instanceMethod yX3_shareNumerator, Cond.selects RX3 yX3_shareNumerator yX3_shareNumerator, Cond.code yX3_shareNumerator cX3_shareNumerator 2 (some .long), Cond.instanceMethod yX2_numeratorOf]
def wsL_law0_r12 : List Cond := [Cond.selects RX2 yX2_numeratorOf yX2_numeratorOf, Cond.code yX2_numeratorOf cX2_numeratorOf 2 (some .long), Cond.methodLink RL 61 yX3_shareDenominator, Cond.instanceMethod yX3_shareDenominator, Cond.selects RX3 yX3_shareDenominator yX3_shareDenominator, Cond.code yX3_shareDenominator cX3_shareDenominator 2 (some .long), Cond.instanceMethod yX2_denominatorOf, Cond.selects RX2 yX2_denominatorOf yX2_denominatorOf, Cond.code yX2_denominatorOf cX2_denominatorOf 2 (some .long), Cond.methodLink RL 160 yL_isSo, Cond.static yL_isSo, Cond.code yL_isSo cL_isSo 20 (some .boolean), Cond.methodLink RL 75 yX3_group, Cond.instanceMethod yX3_group, Cond.selects RX3 yX3_group yX3_group, Cond.code yX3_group cX3_group 1 (some .int), Cond.methodLink RL 81 yX3_netValue, Cond.instanceMethod yX3_netValue, Cond.selects RX3 yX3_netValue yX3_netValue, Cond.code yX3_netValue cX3_netValue 2 (some .int), Cond.methodLink RL 85 yX3_translatedEquity, Cond.instanceMethod yX3_translatedEquity, Cond.selects RX3 yX3_translatedEquity yX3_translatedEquity, Cond.code yX3_translatedEquity cX3_translatedEquity 2 (some .int)]
def wsL_law0_r13 : List Cond := [Cond.instanceMethod yX1_equityOf, Cond.selects RX1 yX1_equityOf yX1_equityOf, Cond.code yX1_equityOf cX1_equityOf 2 (some .int), Cond.methodLink RL 88 yX3_translatedResult, Cond.instanceMethod yX3_translatedResult, Cond.selects RX3 yX3_translatedResult yX3_translatedResult, Cond.code yX3_translatedResult cX3_translatedResult 2 (some .int), Cond.methodLink RL 91 yX3_reserve, Cond.instanceMethod yX3_reserve, Cond.selects RX3 yX3_reserve yX3_reserve, Cond.code yX3_reserve cX3_reserve 2 (some .int), Cond.methodLink RL 94 yX3_minority, Cond.instanceMethod yX3_minority, Cond.selects RX3 yX3_minority yX3_minority, Cond.code yX3_minority cX3_minority 2 (some .int), Cond.methodLink RX3 130 yX3_minorityAmong, Cond.instanceMethod yX3_minorityAmong, Cond.selects RX3 yX3_minorityAmong yX3_minorityAmong, Cond.code yX3_minorityAmong cX3_minorityAmong 3 (some .int), Cond.instanceMethod yX2_partOfOthers, Cond.selects RX2 yX2_partOfOthers yX2_partOfOthers, Cond.code yX2_partOfOthers cX2_partOfOthers 5 (some .int), Cond.methodLink RL 97 yX3_goodwill, Cond.instanceMethod yX3_goodwill]
def wsL_law0_r14 : List Cond := [Cond.selects RX3 yX3_goodwill yX3_goodwill, Cond.code yX3_goodwill cX3_goodwill 2 (some .int), Cond.methodLink RL 100 yX3_held, Cond.instanceMethod yX3_held, Cond.selects RX3 yX3_held yX3_held, Cond.code yX3_held cX3_held 3 (some .int), Cond.methodLink RL 107 yX3_resultOf, Cond.instanceMethod yX3_resultOf, Cond.selects RX3 yX3_resultOf yX3_resultOf, Cond.code yX3_resultOf cX3_resultOf 2 (some .int), Cond.methodLink RL 110 yX3_eliminated, Cond.instanceMethod yX3_eliminated, Cond.selects RX3 yX3_eliminated yX3_eliminated, Cond.code yX3_eliminated cX3_eliminated 1 (some .int), Cond.instanceMethod yX0_agreedAmong, Cond.selects RX0 yX0_agreedAmong yX0_agreedAmong, Cond.code yX0_agreedAmong cX0_agreedAmong 6 (some .int), Cond.methodLink RX0 26 Lib.Math.min.name, Cond.static Lib.Math.min.name, Cond.initialized "java/lang/Math", Cond.code Lib.Math.min.name Lib.Math.min.code 2 (some .int), Cond.methodLink RL 113 yX3_assets, Cond.instanceMethod yX3_assets, Cond.selects RX3 yX3_assets yX3_assets]
def wsL_law0_r15 : List Cond := [Cond.code yX3_assets cX3_assets 4 (some .int), Cond.methodLink RL 116 yX3_debts, Cond.instanceMethod yX3_debts, Cond.selects RX3 yX3_debts yX3_debts, Cond.code yX3_debts cX3_debts 4 (some .int), Cond.methodLink RL 119 yX3_equity, Cond.instanceMethod yX3_equity, Cond.selects RX3 yX3_equity yX3_equity, Cond.code yX3_equity cX3_equity 4 (some .int), Cond.methodLink RX3 133 yX3_assets, Cond.methodLink RX3 136 yX3_debts, Cond.methodLink RL 122 yX3_result, Cond.methodLink RL 164 yX3_shareByRounds, Cond.instanceMethod yX3_shareByRounds, Cond.selects RX3 yX3_shareByRounds yX3_shareByRounds, Cond.code yX3_shareByRounds cX3_shareByRounds 3 (some .int), Cond.instanceMethod yX2_millionthsAfter, Cond.selects RX2 yX2_millionthsAfter yX2_millionthsAfter, Cond.code yX2_millionthsAfter cX2_millionthsAfter 4 (some .int), Cond.constant RX2 73 (1000000), Cond.methodLink RX2 74 yX2_playRound, Cond.instanceMethod yX2_playRound, Cond.selects RX2 yX2_playRound yX2_playRound, Cond.code yX2_playRound cX2_playRound 4 none]
def wsL_law0_r16 : List Cond := [Cond.methodLink RL 167 yL_rounds, Cond.static yL_rounds, Cond.code yL_rounds cL_rounds 8 (some .int), Cond.methodLink RL 173 yL_shares, Cond.static yL_shares, Cond.code yL_shares cL_shares 12 (some .boolean), Cond.methodLink RL 64 yL_common, Cond.static yL_common, Cond.code yL_common cL_common 10 (some .long), Cond.methodLink RL 67 yL_inverse, Cond.static yL_inverse, Cond.code yL_inverse cL_inverse 10 (some .long), Cond.constantLong RL 55 (2)]
def wsL_law0 : List Cond := (wsL_law0_r1 ++ (wsL_law0_r2 ++ (wsL_law0_r3 ++ (wsL_law0_r4 ++ (wsL_law0_r5 ++ (wsL_law0_r6 ++ (wsL_law0_r7 ++ (wsL_law0_r8 ++ (wsL_law0_r9 ++ (wsL_law0_r10 ++ (wsL_law0_r11 ++ (wsL_law0_r12 ++ (wsL_law0_r13 ++ (wsL_law0_r14 ++ (wsL_law0_r15 ++ wsL_law0_r16))))))))))))))) ++ wsX30 ++ wsX20 ++ wsX10 ++ wsX00 ++ ([] : List Cond)
def wsL_law : List Cond := wsL_law0 ++ (vx_atS RX3 159 "java/lang/IllegalArgumentException" ["java/lang/RuntimeException", "java/lang/Exception"]).filter goodWord ++ (vx_atS RX3 146 "java/lang/IllegalStateException" ["java/lang/RuntimeException", "java/lang/Exception"]).filter goodWord
end
section
theorem dX0_init_0 : decode cX0_init 0 = .ok (.aload_n 0, 1) := by decide +kernel
theorem dX0_init_1 : decode cX0_init 1 = .ok (.invokespecial 3, 3) := by decide +kernel
theorem dX0_init_4 : decode cX0_init 4 = .ok (.aload_n 0, 1) := by decide +kernel
theorem dX0_init_5 : decode cX0_init 5 = .ok (.bipush 36, 2) := by decide +kernel
theorem dX0_init_7 : decode cX0_init 7 = .ok (.newarray .int, 2) := by decide +kernel
theorem dX0_init_9 : decode cX0_init 9 = .ok (.putfield 9, 3) := by decide +kernel
theorem dX0_init_12 : decode cX0_init 12 = .ok (.aload_n 0, 1) := by decide +kernel
theorem dX0_init_13 : decode cX0_init 13 = .ok (.bipush 36, 2) := by decide +kernel
theorem dX0_init_15 : decode cX0_init 15 = .ok (.newarray .int, 2) := by decide +kernel
theorem dX0_init_17 : decode cX0_init 17 = .ok (.putfield 15, 3) := by decide +kernel
theorem dX0_init_20 : decode cX0_init 20 = .ok (.return_, 1) := by decide +kernel
set_option maxRecDepth 20000 in
theorem ggX0_disputed_X3_pair : GoodIn wsX0_disputed wsX3_pair := goodIn_r _ [5] (by decide +kernel) (by decide +kernel)
set_option maxRecDepth 20000 in
theorem gX0_disputed_X3_pair_n18 : GoodIn wsX0_disputed (wsX3_pair) := ggX0_disputed_X3_pair
theorem dX0_disputed_0 : decode cX0_disputed 0 = .ok (.iload_n 1, 1) := by decide +kernel
theorem dX0_disputed_1 : decode cX0_disputed 1 = .ok (.iload_n 2, 1) := by decide +kernel
theorem dX0_disputed_2 : decode cX0_disputed 2 = .ok (.invokestatic 18, 3) := by decide +kernel
theorem dX0_disputed_5 : decode cX0_disputed 5 = .ok (.istore_n 3, 1) := by decide +kernel
theorem dX0_disputed_6 : decode cX0_disputed 6 = .ok (.aload_n 0, 1) := by decide +kernel
theorem dX0_disputed_7 : decode cX0_disputed 7 = .ok (.getfield 9, 3) := by decide +kernel
theorem dX0_disputed_10 : decode cX0_disputed 10 = .ok (.iload_n 3, 1) := by decide +kernel
theorem dX0_disputed_11 : decode cX0_disputed 11 = .ok (.iaload, 1) := by decide +kernel
theorem dX0_disputed_12 : decode cX0_disputed 12 = .ok (.aload_n 0, 1) := by decide +kernel
theorem dX0_disputed_13 : decode cX0_disputed 13 = .ok (.getfield 15, 3) := by decide +kernel
theorem dX0_disputed_16 : decode cX0_disputed 16 = .ok (.iload_n 3, 1) := by decide +kernel
theorem dX0_disputed_17 : decode cX0_disputed 17 = .ok (.iaload, 1) := by decide +kernel
theorem dX0_disputed_18 : decode cX0_disputed 18 = .ok (.isub, 1) := by decide +kernel
theorem dX0_disputed_19 : decode cX0_disputed 19 = .ok (.ireturn, 1) := by decide +kernel
set_option maxRecDepth 20000 in
theorem ggX0_agreedAmong_X3_isMember : GoodIn wsX0_agreedAmong wsX3_isMember := goodIn_r _ [9] (by decide +kernel) (by decide +kernel)
set_option maxRecDepth 20000 in
theorem gX0_agreedAmong_X3_isMember_n22 : GoodIn wsX0_agreedAmong (wsX3_isMember) := ggX0_agreedAmong_X3_isMember
set_option maxRecDepth 20000 in
theorem ggX0_agreedAmong_X3_pair : GoodIn wsX0_agreedAmong wsX3_pair := goodIn_r _ [11] (by decide +kernel) (by decide +kernel)
set_option maxRecDepth 20000 in
theorem gX0_agreedAmong_X3_pair_n18 : GoodIn wsX0_agreedAmong (wsX3_pair) := ggX0_agreedAmong_X3_pair
theorem dX0_agreedAmong_0 : decode cX0_agreedAmong 0 = .ok (.iconst 0, 1) := by decide +kernel
theorem dX0_agreedAmong_1 : decode cX0_agreedAmong 1 = .ok (.istore_n 2, 1) := by decide +kernel
theorem dX0_agreedAmong_2 : decode cX0_agreedAmong 2 = .ok (.iconst 0, 1) := by decide +kernel
theorem dX0_agreedAmong_3 : decode cX0_agreedAmong 3 = .ok (.istore_n 3, 1) := by decide +kernel
theorem dX0_agreedAmong_4 : decode cX0_agreedAmong 4 = .ok (.iload_n 3, 1) := by decide +kernel
theorem dX0_agreedAmong_5 : decode cX0_agreedAmong 5 = .ok (.bipush 6, 2) := by decide +kernel
theorem dX0_agreedAmong_7 : decode cX0_agreedAmong 7 = .ok (.if_icmp .ge 70, 3) := by decide +kernel
theorem dX0_agreedAmong_10 : decode cX0_agreedAmong 10 = .ok (.iconst 0, 1) := by decide +kernel
theorem dX0_agreedAmong_11 : decode cX0_agreedAmong 11 = .ok (.istore 4, 2) := by decide +kernel
theorem dX0_agreedAmong_13 : decode cX0_agreedAmong 13 = .ok (.iload 4, 2) := by decide +kernel
theorem dX0_agreedAmong_15 : decode cX0_agreedAmong 15 = .ok (.bipush 6, 2) := by decide +kernel
theorem dX0_agreedAmong_17 : decode cX0_agreedAmong 17 = .ok (.if_icmp .ge 54, 3) := by decide +kernel
theorem dX0_agreedAmong_20 : decode cX0_agreedAmong 20 = .ok (.iload_n 1, 1) := by decide +kernel
theorem dX0_agreedAmong_21 : decode cX0_agreedAmong 21 = .ok (.iload_n 3, 1) := by decide +kernel
theorem dX0_agreedAmong_22 : decode cX0_agreedAmong 22 = .ok (.invokestatic 22, 3) := by decide +kernel
theorem dX0_agreedAmong_25 : decode cX0_agreedAmong 25 = .ok (.ifCond .eq 40, 3) := by decide +kernel
theorem dX0_agreedAmong_28 : decode cX0_agreedAmong 28 = .ok (.iload_n 1, 1) := by decide +kernel
theorem dX0_agreedAmong_29 : decode cX0_agreedAmong 29 = .ok (.iload 4, 2) := by decide +kernel
theorem dX0_agreedAmong_31 : decode cX0_agreedAmong 31 = .ok (.invokestatic 22, 3) := by decide +kernel
theorem dX0_agreedAmong_34 : decode cX0_agreedAmong 34 = .ok (.ifCond .eq 31, 3) := by decide +kernel
theorem dX0_agreedAmong_37 : decode cX0_agreedAmong 37 = .ok (.iload_n 3, 1) := by decide +kernel
theorem dX0_agreedAmong_38 : decode cX0_agreedAmong 38 = .ok (.iload 4, 2) := by decide +kernel
theorem dX0_agreedAmong_40 : decode cX0_agreedAmong 40 = .ok (.invokestatic 18, 3) := by decide +kernel
theorem dX0_agreedAmong_43 : decode cX0_agreedAmong 43 = .ok (.istore 5, 2) := by decide +kernel
theorem dX0_agreedAmong_45 : decode cX0_agreedAmong 45 = .ok (.iload_n 2, 1) := by decide +kernel
theorem dX0_agreedAmong_46 : decode cX0_agreedAmong 46 = .ok (.aload_n 0, 1) := by decide +kernel
theorem dX0_agreedAmong_47 : decode cX0_agreedAmong 47 = .ok (.getfield 9, 3) := by decide +kernel
theorem dX0_agreedAmong_50 : decode cX0_agreedAmong 50 = .ok (.iload 5, 2) := by decide +kernel
theorem dX0_agreedAmong_52 : decode cX0_agreedAmong 52 = .ok (.iaload, 1) := by decide +kernel
theorem dX0_agreedAmong_53 : decode cX0_agreedAmong 53 = .ok (.aload_n 0, 1) := by decide +kernel
theorem dX0_agreedAmong_54 : decode cX0_agreedAmong 54 = .ok (.getfield 15, 3) := by decide +kernel
theorem dX0_agreedAmong_57 : decode cX0_agreedAmong 57 = .ok (.iload 5, 2) := by decide +kernel
theorem dX0_agreedAmong_59 : decode cX0_agreedAmong 59 = .ok (.iaload, 1) := by decide +kernel
theorem dX0_agreedAmong_60 : decode cX0_agreedAmong 60 = .ok (.invokestatic 26, 3) := by decide +kernel
theorem dX0_agreedAmong_63 : decode cX0_agreedAmong 63 = .ok (.iadd, 1) := by decide +kernel
theorem dX0_agreedAmong_64 : decode cX0_agreedAmong 64 = .ok (.istore_n 2, 1) := by decide +kernel
theorem dX0_agreedAmong_65 : decode cX0_agreedAmong 65 = .ok (.iinc 4 1, 3) := by decide +kernel
theorem dX0_agreedAmong_68 : decode cX0_agreedAmong 68 = .ok (.goto (-55), 3) := by decide +kernel
theorem dX0_agreedAmong_71 : decode cX0_agreedAmong 71 = .ok (.iinc 3 1, 3) := by decide +kernel
theorem dX0_agreedAmong_74 : decode cX0_agreedAmong 74 = .ok (.goto (-70), 3) := by decide +kernel
theorem dX0_agreedAmong_77 : decode cX0_agreedAmong 77 = .ok (.iload_n 2, 1) := by decide +kernel
theorem dX0_agreedAmong_78 : decode cX0_agreedAmong 78 = .ok (.ireturn, 1) := by decide +kernel
theorem dX1_init_0 : decode cX1_init 0 = .ok (.aload_n 0, 1) := by decide +kernel
theorem dX1_init_1 : decode cX1_init 1 = .ok (.invokespecial 3, 3) := by decide +kernel
theorem dX1_init_4 : decode cX1_init 4 = .ok (.aload_n 0, 1) := by decide +kernel
theorem dX1_init_5 : decode cX1_init 5 = .ok (.bipush 6, 2) := by decide +kernel
theorem dX1_init_7 : decode cX1_init 7 = .ok (.newarray .int, 2) := by decide +kernel
theorem dX1_init_9 : decode cX1_init 9 = .ok (.putfield 9, 3) := by decide +kernel
theorem dX1_init_12 : decode cX1_init 12 = .ok (.aload_n 0, 1) := by decide +kernel
theorem dX1_init_13 : decode cX1_init 13 = .ok (.bipush 6, 2) := by decide +kernel
theorem dX1_init_15 : decode cX1_init 15 = .ok (.newarray .int, 2) := by decide +kernel
theorem dX1_init_17 : decode cX1_init 17 = .ok (.putfield 15, 3) := by decide +kernel
theorem dX1_init_20 : decode cX1_init 20 = .ok (.aload_n 0, 1) := by decide +kernel
theorem dX1_init_21 : decode cX1_init 21 = .ok (.bipush 6, 2) := by decide +kernel
theorem dX1_init_23 : decode cX1_init 23 = .ok (.newarray .int, 2) := by decide +kernel
theorem dX1_init_25 : decode cX1_init 25 = .ok (.putfield 18, 3) := by decide +kernel
theorem dX1_init_28 : decode cX1_init 28 = .ok (.aload_n 0, 1) := by decide +kernel
theorem dX1_init_29 : decode cX1_init 29 = .ok (.bipush 6, 2) := by decide +kernel
theorem dX1_init_31 : decode cX1_init 31 = .ok (.newarray .int, 2) := by decide +kernel
theorem dX1_init_33 : decode cX1_init 33 = .ok (.putfield 21, 3) := by decide +kernel
theorem dX1_init_36 : decode cX1_init 36 = .ok (.aload_n 0, 1) := by decide +kernel
theorem dX1_init_37 : decode cX1_init 37 = .ok (.bipush 6, 2) := by decide +kernel
theorem dX1_init_39 : decode cX1_init 39 = .ok (.newarray .int, 2) := by decide +kernel
theorem dX1_init_41 : decode cX1_init 41 = .ok (.putfield 24, 3) := by decide +kernel
theorem dX1_init_44 : decode cX1_init 44 = .ok (.aload_n 0, 1) := by decide +kernel
theorem dX1_init_45 : decode cX1_init 45 = .ok (.bipush 6, 2) := by decide +kernel
theorem dX1_init_47 : decode cX1_init 47 = .ok (.newarray .int, 2) := by decide +kernel
theorem dX1_init_49 : decode cX1_init 49 = .ok (.putfield 27, 3) := by decide +kernel
theorem dX1_init_52 : decode cX1_init 52 = .ok (.aload_n 0, 1) := by decide +kernel
theorem dX1_init_53 : decode cX1_init 53 = .ok (.bipush 6, 2) := by decide +kernel
theorem dX1_init_55 : decode cX1_init 55 = .ok (.newarray .int, 2) := by decide +kernel
theorem dX1_init_57 : decode cX1_init 57 = .ok (.putfield 30, 3) := by decide +kernel
theorem dX1_init_60 : decode cX1_init 60 = .ok (.iconst 0, 1) := by decide +kernel
theorem dX1_init_61 : decode cX1_init 61 = .ok (.istore_n 1, 1) := by decide +kernel
theorem dX1_init_62 : decode cX1_init 62 = .ok (.iload_n 1, 1) := by decide +kernel
theorem dX1_init_63 : decode cX1_init 63 = .ok (.bipush 6, 2) := by decide +kernel
theorem dX1_init_65 : decode cX1_init 65 = .ok (.if_icmp .ge 33, 3) := by decide +kernel
theorem dX1_init_68 : decode cX1_init 68 = .ok (.aload_n 0, 1) := by decide +kernel
theorem dX1_init_69 : decode cX1_init 69 = .ok (.getfield 24, 3) := by decide +kernel
theorem dX1_init_72 : decode cX1_init 72 = .ok (.iload_n 1, 1) := by decide +kernel
theorem dX1_init_73 : decode cX1_init 73 = .ok (.bipush 100, 2) := by decide +kernel
theorem dX1_init_75 : decode cX1_init 75 = .ok (.iastore, 1) := by decide +kernel
theorem dX1_init_76 : decode cX1_init 76 = .ok (.aload_n 0, 1) := by decide +kernel
theorem dX1_init_77 : decode cX1_init 77 = .ok (.getfield 27, 3) := by decide +kernel
theorem dX1_init_80 : decode cX1_init 80 = .ok (.iload_n 1, 1) := by decide +kernel
theorem dX1_init_81 : decode cX1_init 81 = .ok (.bipush 100, 2) := by decide +kernel
theorem dX1_init_83 : decode cX1_init 83 = .ok (.iastore, 1) := by decide +kernel
theorem dX1_init_84 : decode cX1_init 84 = .ok (.aload_n 0, 1) := by decide +kernel
theorem dX1_init_85 : decode cX1_init 85 = .ok (.getfield 30, 3) := by decide +kernel
theorem dX1_init_88 : decode cX1_init 88 = .ok (.iload_n 1, 1) := by decide +kernel
theorem dX1_init_89 : decode cX1_init 89 = .ok (.bipush 100, 2) := by decide +kernel
theorem dX1_init_91 : decode cX1_init 91 = .ok (.iastore, 1) := by decide +kernel
theorem dX1_init_92 : decode cX1_init 92 = .ok (.iinc 1 1, 3) := by decide +kernel
theorem dX1_init_95 : decode cX1_init 95 = .ok (.goto (-33), 3) := by decide +kernel
theorem dX1_init_98 : decode cX1_init 98 = .ok (.return_, 1) := by decide +kernel
set_option maxRecDepth 20000 in
theorem ggX1_assetsOf_X1_translate : GoodIn wsX1_assetsOf wsX1_translate := goodIn_r _ [6, 7, 8, 9, 10] (by decide +kernel) (by decide +kernel)
set_option maxRecDepth 20000 in
theorem gX1_assetsOf_X1_translate : GoodIn wsX1_assetsOf (va_wsS RX1 33 yX1_translate wsX1_translate) := goodIn_app (goodIn_of _ (by decide +kernel)) ggX1_assetsOf_X1_translate
theorem dX1_assetsOf_0 : decode cX1_assetsOf 0 = .ok (.aload_n 0, 1) := by decide +kernel
theorem dX1_assetsOf_1 : decode cX1_assetsOf 1 = .ok (.getfield 9, 3) := by decide +kernel
theorem dX1_assetsOf_4 : decode cX1_assetsOf 4 = .ok (.iload_n 1, 1) := by decide +kernel
theorem dX1_assetsOf_5 : decode cX1_assetsOf 5 = .ok (.iaload, 1) := by decide +kernel
theorem dX1_assetsOf_6 : decode cX1_assetsOf 6 = .ok (.aload_n 0, 1) := by decide +kernel
theorem dX1_assetsOf_7 : decode cX1_assetsOf 7 = .ok (.getfield 24, 3) := by decide +kernel
theorem dX1_assetsOf_10 : decode cX1_assetsOf 10 = .ok (.iload_n 1, 1) := by decide +kernel
theorem dX1_assetsOf_11 : decode cX1_assetsOf 11 = .ok (.iaload, 1) := by decide +kernel
theorem dX1_assetsOf_12 : decode cX1_assetsOf 12 = .ok (.invokestatic 33, 3) := by decide +kernel
theorem dX1_assetsOf_15 : decode cX1_assetsOf 15 = .ok (.ireturn, 1) := by decide +kernel
set_option maxRecDepth 20000 in
theorem ggX1_debtsOf_X1_translate : GoodIn wsX1_debtsOf wsX1_translate := goodIn_r _ [6, 7, 8, 9, 10] (by decide +kernel) (by decide +kernel)
set_option maxRecDepth 20000 in
theorem gX1_debtsOf_X1_translate : GoodIn wsX1_debtsOf (va_wsS RX1 33 yX1_translate wsX1_translate) := goodIn_app (goodIn_of _ (by decide +kernel)) ggX1_debtsOf_X1_translate
theorem dX1_debtsOf_0 : decode cX1_debtsOf 0 = .ok (.aload_n 0, 1) := by decide +kernel
theorem dX1_debtsOf_1 : decode cX1_debtsOf 1 = .ok (.getfield 15, 3) := by decide +kernel
theorem dX1_debtsOf_4 : decode cX1_debtsOf 4 = .ok (.iload_n 1, 1) := by decide +kernel
theorem dX1_debtsOf_5 : decode cX1_debtsOf 5 = .ok (.iaload, 1) := by decide +kernel
theorem dX1_debtsOf_6 : decode cX1_debtsOf 6 = .ok (.aload_n 0, 1) := by decide +kernel
theorem dX1_debtsOf_7 : decode cX1_debtsOf 7 = .ok (.getfield 24, 3) := by decide +kernel
theorem dX1_debtsOf_10 : decode cX1_debtsOf 10 = .ok (.iload_n 1, 1) := by decide +kernel
theorem dX1_debtsOf_11 : decode cX1_debtsOf 11 = .ok (.iaload, 1) := by decide +kernel
theorem dX1_debtsOf_12 : decode cX1_debtsOf 12 = .ok (.invokestatic 33, 3) := by decide +kernel
theorem dX1_debtsOf_15 : decode cX1_debtsOf 15 = .ok (.ireturn, 1) := by decide +kernel
set_option maxRecDepth 20000 in
theorem ggX1_equityOf_X1_translate : GoodIn wsX1_equityOf wsX1_translate := goodIn_r _ [6, 7, 8, 9, 10] (by decide +kernel) (by decide +kernel)
set_option maxRecDepth 20000 in
theorem gX1_equityOf_X1_translate : GoodIn wsX1_equityOf (va_wsS RX1 33 yX1_translate wsX1_translate) := goodIn_app (goodIn_of _ (by decide +kernel)) ggX1_equityOf_X1_translate
theorem dX1_equityOf_0 : decode cX1_equityOf 0 = .ok (.aload_n 0, 1) := by decide +kernel
theorem dX1_equityOf_1 : decode cX1_equityOf 1 = .ok (.getfield 18, 3) := by decide +kernel
theorem dX1_equityOf_4 : decode cX1_equityOf 4 = .ok (.iload_n 1, 1) := by decide +kernel
theorem dX1_equityOf_5 : decode cX1_equityOf 5 = .ok (.iaload, 1) := by decide +kernel
theorem dX1_equityOf_6 : decode cX1_equityOf 6 = .ok (.aload_n 0, 1) := by decide +kernel
theorem dX1_equityOf_7 : decode cX1_equityOf 7 = .ok (.getfield 30, 3) := by decide +kernel
theorem dX1_equityOf_10 : decode cX1_equityOf 10 = .ok (.iload_n 1, 1) := by decide +kernel
theorem dX1_equityOf_11 : decode cX1_equityOf 11 = .ok (.iaload, 1) := by decide +kernel
theorem dX1_equityOf_12 : decode cX1_equityOf 12 = .ok (.invokestatic 33, 3) := by decide +kernel
theorem dX1_equityOf_15 : decode cX1_equityOf 15 = .ok (.ireturn, 1) := by decide +kernel
set_option maxRecDepth 20000 in
theorem ggX1_profitOf_X1_translate : GoodIn wsX1_profitOf wsX1_translate := goodIn_r _ [6, 7, 8, 9, 10] (by decide +kernel) (by decide +kernel)
set_option maxRecDepth 20000 in
theorem gX1_profitOf_X1_translate : GoodIn wsX1_profitOf (va_wsS RX1 33 yX1_translate wsX1_translate) := goodIn_app (goodIn_of _ (by decide +kernel)) ggX1_profitOf_X1_translate
theorem dX1_profitOf_0 : decode cX1_profitOf 0 = .ok (.aload_n 0, 1) := by decide +kernel
theorem dX1_profitOf_1 : decode cX1_profitOf 1 = .ok (.getfield 21, 3) := by decide +kernel
theorem dX1_profitOf_4 : decode cX1_profitOf 4 = .ok (.iload_n 1, 1) := by decide +kernel
theorem dX1_profitOf_5 : decode cX1_profitOf 5 = .ok (.iaload, 1) := by decide +kernel
theorem dX1_profitOf_6 : decode cX1_profitOf 6 = .ok (.aload_n 0, 1) := by decide +kernel
theorem dX1_profitOf_7 : decode cX1_profitOf 7 = .ok (.getfield 27, 3) := by decide +kernel
theorem dX1_profitOf_10 : decode cX1_profitOf 10 = .ok (.iload_n 1, 1) := by decide +kernel
theorem dX1_profitOf_11 : decode cX1_profitOf 11 = .ok (.iaload, 1) := by decide +kernel
theorem dX1_profitOf_12 : decode cX1_profitOf 12 = .ok (.invokestatic 33, 3) := by decide +kernel
theorem dX1_profitOf_15 : decode cX1_profitOf 15 = .ok (.ireturn, 1) := by decide +kernel
set_option maxRecDepth 20000 in
theorem ggX1_netOf_X1_assetsOf : GoodIn wsX1_netOf wsX1_assetsOf := goodIn_r _ [5, 6, 7, 8, 9, 4, 10, 11, 12, 13, 14, 20, 21, 22, 23, 24, 25, 26] (by decide +kernel) (by decide +kernel)
set_option maxRecDepth 20000 in
theorem gX1_netOf_X1_assetsOf : GoodIn wsX1_netOf (wsV RX1 37 RX1 yX1_assetsOf wsX1_assetsOf) := goodIn_app (goodIn_of _ (by decide +kernel)) ggX1_netOf_X1_assetsOf
set_option maxRecDepth 20000 in
theorem ggX1_netOf_X1_debtsOf : GoodIn wsX1_netOf wsX1_debtsOf := goodIn_r _ [18, 19, 7, 8, 9, 4, 10, 11, 12, 13, 14, 20, 21, 22, 23, 24, 25, 26] (by decide +kernel) (by decide +kernel)
set_option maxRecDepth 20000 in
theorem gX1_netOf_X1_debtsOf : GoodIn wsX1_netOf (wsV RX1 41 RX1 yX1_debtsOf wsX1_debtsOf) := goodIn_app (goodIn_of _ (by decide +kernel)) ggX1_netOf_X1_debtsOf
theorem dX1_netOf_0 : decode cX1_netOf 0 = .ok (.aload_n 0, 1) := by decide +kernel
theorem dX1_netOf_1 : decode cX1_netOf 1 = .ok (.iload_n 1, 1) := by decide +kernel
theorem dX1_netOf_2 : decode cX1_netOf 2 = .ok (.invokevirtual 37, 3) := by decide +kernel
theorem dX1_netOf_5 : decode cX1_netOf 5 = .ok (.aload_n 0, 1) := by decide +kernel
theorem dX1_netOf_6 : decode cX1_netOf 6 = .ok (.iload_n 1, 1) := by decide +kernel
theorem dX1_netOf_7 : decode cX1_netOf 7 = .ok (.invokevirtual 41, 3) := by decide +kernel
theorem dX1_netOf_10 : decode cX1_netOf 10 = .ok (.isub, 1) := by decide +kernel
theorem dX1_netOf_11 : decode cX1_netOf 11 = .ok (.ireturn, 1) := by decide +kernel
set_option maxRecDepth 20000 in
theorem ggX1_translate_J9_floorDiv_7cf53 : GoodIn wsX1_translate wsJ9_floorDiv_7cf53 := goodIn_r _ [4] (by decide +kernel) (by decide +kernel)
set_option maxRecDepth 20000 in
theorem gX1_translate_J9_floorDiv_7cf53 : GoodIn wsX1_translate (va_wsS RX1 44 yJ9_floorDiv_7cf53 wsJ9_floorDiv_7cf53) := goodIn_app (goodIn_of _ (by decide +kernel)) ggX1_translate_J9_floorDiv_7cf53
theorem dX1_translate_0 : decode cX1_translate 0 = .ok (.iload_n 0, 1) := by decide +kernel
theorem dX1_translate_1 : decode cX1_translate 1 = .ok (.iload_n 1, 1) := by decide +kernel
theorem dX1_translate_2 : decode cX1_translate 2 = .ok (.imul, 1) := by decide +kernel
theorem dX1_translate_3 : decode cX1_translate 3 = .ok (.bipush 100, 2) := by decide +kernel
theorem dX1_translate_5 : decode cX1_translate 5 = .ok (.invokestatic 44, 3) := by decide +kernel
theorem dX1_translate_8 : decode cX1_translate 8 = .ok (.ireturn, 1) := by decide +kernel
theorem dX2_init_0 : decode cX2_init 0 = .ok (.aload_n 0, 1) := by decide +kernel
theorem dX2_init_1 : decode cX2_init 1 = .ok (.invokespecial 3, 3) := by decide +kernel
theorem dX2_init_4 : decode cX2_init 4 = .ok (.aload_n 0, 1) := by decide +kernel
theorem dX2_init_5 : decode cX2_init 5 = .ok (.bipush 36, 2) := by decide +kernel
theorem dX2_init_7 : decode cX2_init 7 = .ok (.newarray .int, 2) := by decide +kernel
theorem dX2_init_9 : decode cX2_init 9 = .ok (.putfield 9, 3) := by decide +kernel
theorem dX2_init_12 : decode cX2_init 12 = .ok (.aload_n 0, 1) := by decide +kernel
theorem dX2_init_13 : decode cX2_init 13 = .ok (.bipush 6, 2) := by decide +kernel
theorem dX2_init_15 : decode cX2_init 15 = .ok (.newarray .long, 2) := by decide +kernel
theorem dX2_init_17 : decode cX2_init 17 = .ok (.putfield 15, 3) := by decide +kernel
theorem dX2_init_20 : decode cX2_init 20 = .ok (.aload_n 0, 1) := by decide +kernel
theorem dX2_init_21 : decode cX2_init 21 = .ok (.bipush 6, 2) := by decide +kernel
theorem dX2_init_23 : decode cX2_init 23 = .ok (.newarray .long, 2) := by decide +kernel
theorem dX2_init_25 : decode cX2_init 25 = .ok (.putfield 19, 3) := by decide +kernel
theorem dX2_init_28 : decode cX2_init 28 = .ok (.aload_n 0, 1) := by decide +kernel
theorem dX2_init_29 : decode cX2_init 29 = .ok (.bipush 36, 2) := by decide +kernel
theorem dX2_init_31 : decode cX2_init 31 = .ok (.newarray .long, 2) := by decide +kernel
theorem dX2_init_33 : decode cX2_init 33 = .ok (.putfield 22, 3) := by decide +kernel
theorem dX2_init_36 : decode cX2_init 36 = .ok (.aload_n 0, 1) := by decide +kernel
theorem dX2_init_37 : decode cX2_init 37 = .ok (.bipush 6, 2) := by decide +kernel
theorem dX2_init_39 : decode cX2_init 39 = .ok (.newarray .int, 2) := by decide +kernel
theorem dX2_init_41 : decode cX2_init 41 = .ok (.putfield 25, 3) := by decide +kernel
theorem dX2_init_44 : decode cX2_init 44 = .ok (.aload_n 0, 1) := by decide +kernel
theorem dX2_init_45 : decode cX2_init 45 = .ok (.bipush 6, 2) := by decide +kernel
theorem dX2_init_47 : decode cX2_init 47 = .ok (.newarray .int, 2) := by decide +kernel
theorem dX2_init_49 : decode cX2_init 49 = .ok (.putfield 28, 3) := by decide +kernel
theorem dX2_init_52 : decode cX2_init 52 = .ok (.iconst 0, 1) := by decide +kernel
theorem dX2_init_53 : decode cX2_init 53 = .ok (.istore_n 1, 1) := by decide +kernel
theorem dX2_init_54 : decode cX2_init 54 = .ok (.iload_n 1, 1) := by decide +kernel
theorem dX2_init_55 : decode cX2_init 55 = .ok (.bipush 6, 2) := by decide +kernel
theorem dX2_init_57 : decode cX2_init 57 = .ok (.if_icmp .ge 31, 3) := by decide +kernel
theorem dX2_init_60 : decode cX2_init 60 = .ok (.aload_n 0, 1) := by decide +kernel
theorem dX2_init_61 : decode cX2_init 61 = .ok (.getfield 15, 3) := by decide +kernel
theorem dX2_init_64 : decode cX2_init 64 = .ok (.iload_n 1, 1) := by decide +kernel
theorem dX2_init_65 : decode cX2_init 65 = .ok (.iload_n 1, 1) := by decide +kernel
theorem dX2_init_66 : decode cX2_init 66 = .ok (.ifCond .ne 7, 3) := by decide +kernel
theorem dX2_init_69 : decode cX2_init 69 = .ok (.lconst 1, 1) := by decide +kernel
theorem dX2_init_70 : decode cX2_init 70 = .ok (.goto 4, 3) := by decide +kernel
theorem dX2_init_73 : decode cX2_init 73 = .ok (.lconst 0, 1) := by decide +kernel
theorem dX2_init_74 : decode cX2_init 74 = .ok (.lastore, 1) := by decide +kernel
theorem dX2_init_75 : decode cX2_init 75 = .ok (.aload_n 0, 1) := by decide +kernel
theorem dX2_init_76 : decode cX2_init 76 = .ok (.getfield 19, 3) := by decide +kernel
theorem dX2_init_79 : decode cX2_init 79 = .ok (.iload_n 1, 1) := by decide +kernel
theorem dX2_init_80 : decode cX2_init 80 = .ok (.lconst 1, 1) := by decide +kernel
theorem dX2_init_81 : decode cX2_init 81 = .ok (.lastore, 1) := by decide +kernel
theorem dX2_init_82 : decode cX2_init 82 = .ok (.iinc 1 1, 3) := by decide +kernel
theorem dX2_init_85 : decode cX2_init 85 = .ok (.goto (-31), 3) := by decide +kernel
theorem dX2_init_88 : decode cX2_init 88 = .ok (.return_, 1) := by decide +kernel
set_option maxRecDepth 20000 in
theorem ggX2_percentOf_X3_pair : GoodIn wsX2_percentOf wsX3_pair := goodIn_r _ [4] (by decide +kernel) (by decide +kernel)
set_option maxRecDepth 20000 in
theorem gX2_percentOf_X3_pair_n31 : GoodIn wsX2_percentOf (wsX3_pair) := ggX2_percentOf_X3_pair
theorem dX2_percentOf_0 : decode cX2_percentOf 0 = .ok (.aload_n 0, 1) := by decide +kernel
theorem dX2_percentOf_1 : decode cX2_percentOf 1 = .ok (.getfield 9, 3) := by decide +kernel
theorem dX2_percentOf_4 : decode cX2_percentOf 4 = .ok (.iload_n 1, 1) := by decide +kernel
theorem dX2_percentOf_5 : decode cX2_percentOf 5 = .ok (.iload_n 2, 1) := by decide +kernel
theorem dX2_percentOf_6 : decode cX2_percentOf 6 = .ok (.invokestatic 31, 3) := by decide +kernel
theorem dX2_percentOf_9 : decode cX2_percentOf 9 = .ok (.iaload, 1) := by decide +kernel
theorem dX2_percentOf_10 : decode cX2_percentOf 10 = .ok (.ireturn, 1) := by decide +kernel
theorem dX2_numeratorOf_0 : decode cX2_numeratorOf 0 = .ok (.aload_n 0, 1) := by decide +kernel
theorem dX2_numeratorOf_1 : decode cX2_numeratorOf 1 = .ok (.getfield 15, 3) := by decide +kernel
theorem dX2_numeratorOf_4 : decode cX2_numeratorOf 4 = .ok (.iload_n 1, 1) := by decide +kernel
theorem dX2_numeratorOf_5 : decode cX2_numeratorOf 5 = .ok (.laload, 1) := by decide +kernel
theorem dX2_numeratorOf_6 : decode cX2_numeratorOf 6 = .ok (.lreturn, 1) := by decide +kernel
theorem dX2_denominatorOf_0 : decode cX2_denominatorOf 0 = .ok (.aload_n 0, 1) := by decide +kernel
theorem dX2_denominatorOf_1 : decode cX2_denominatorOf 1 = .ok (.getfield 19, 3) := by decide +kernel
theorem dX2_denominatorOf_4 : decode cX2_denominatorOf 4 = .ok (.iload_n 1, 1) := by decide +kernel
theorem dX2_denominatorOf_5 : decode cX2_denominatorOf 5 = .ok (.laload, 1) := by decide +kernel
theorem dX2_denominatorOf_6 : decode cX2_denominatorOf 6 = .ok (.lreturn, 1) := by decide +kernel
set_option maxRecDepth 20000 in
theorem ggX2_partOfParent_X2_scale : GoodIn wsX2_partOfParent wsX2_scale := goodIn_r _ [6, 7, 8, 9, 10] (by decide +kernel) (by decide +kernel)
set_option maxRecDepth 20000 in
theorem gX2_partOfParent_X2_scale : GoodIn wsX2_partOfParent (va_wsS RX2 35 yX2_scale wsX2_scale) := goodIn_app (goodIn_of _ (by decide +kernel)) ggX2_partOfParent_X2_scale
theorem dX2_partOfParent_0 : decode cX2_partOfParent 0 = .ok (.iload_n 2, 1) := by decide +kernel
theorem dX2_partOfParent_1 : decode cX2_partOfParent 1 = .ok (.aload_n 0, 1) := by decide +kernel
theorem dX2_partOfParent_2 : decode cX2_partOfParent 2 = .ok (.getfield 15, 3) := by decide +kernel
theorem dX2_partOfParent_5 : decode cX2_partOfParent 5 = .ok (.iload_n 1, 1) := by decide +kernel
theorem dX2_partOfParent_6 : decode cX2_partOfParent 6 = .ok (.laload, 1) := by decide +kernel
theorem dX2_partOfParent_7 : decode cX2_partOfParent 7 = .ok (.aload_n 0, 1) := by decide +kernel
theorem dX2_partOfParent_8 : decode cX2_partOfParent 8 = .ok (.getfield 19, 3) := by decide +kernel
theorem dX2_partOfParent_11 : decode cX2_partOfParent 11 = .ok (.iload_n 1, 1) := by decide +kernel
theorem dX2_partOfParent_12 : decode cX2_partOfParent 12 = .ok (.laload, 1) := by decide +kernel
theorem dX2_partOfParent_13 : decode cX2_partOfParent 13 = .ok (.invokestatic 35, 3) := by decide +kernel
theorem dX2_partOfParent_16 : decode cX2_partOfParent 16 = .ok (.ireturn, 1) := by decide +kernel
set_option maxRecDepth 20000 in
theorem ggX2_partOfOthers_X2_scale : GoodIn wsX2_partOfOthers wsX2_scale := goodIn_r _ [6, 7, 8, 9, 10] (by decide +kernel) (by decide +kernel)
set_option maxRecDepth 20000 in
theorem gX2_partOfOthers_X2_scale : GoodIn wsX2_partOfOthers (va_wsS RX2 35 yX2_scale wsX2_scale) := goodIn_app (goodIn_of _ (by decide +kernel)) ggX2_partOfOthers_X2_scale
theorem dX2_partOfOthers_0 : decode cX2_partOfOthers 0 = .ok (.aload_n 0, 1) := by decide +kernel
theorem dX2_partOfOthers_1 : decode cX2_partOfOthers 1 = .ok (.getfield 19, 3) := by decide +kernel
theorem dX2_partOfOthers_4 : decode cX2_partOfOthers 4 = .ok (.iload_n 1, 1) := by decide +kernel
theorem dX2_partOfOthers_5 : decode cX2_partOfOthers 5 = .ok (.laload, 1) := by decide +kernel
theorem dX2_partOfOthers_6 : decode cX2_partOfOthers 6 = .ok (.aload_n 0, 1) := by decide +kernel
theorem dX2_partOfOthers_7 : decode cX2_partOfOthers 7 = .ok (.getfield 15, 3) := by decide +kernel
theorem dX2_partOfOthers_10 : decode cX2_partOfOthers 10 = .ok (.iload_n 1, 1) := by decide +kernel
theorem dX2_partOfOthers_11 : decode cX2_partOfOthers 11 = .ok (.laload, 1) := by decide +kernel
theorem dX2_partOfOthers_12 : decode cX2_partOfOthers 12 = .ok (.lsub, 1) := by decide +kernel
theorem dX2_partOfOthers_13 : decode cX2_partOfOthers 13 = .ok (.lstore_n 3, 1) := by decide +kernel
theorem dX2_partOfOthers_14 : decode cX2_partOfOthers 14 = .ok (.iload_n 2, 1) := by decide +kernel
theorem dX2_partOfOthers_15 : decode cX2_partOfOthers 15 = .ok (.lload_n 3, 1) := by decide +kernel
theorem dX2_partOfOthers_16 : decode cX2_partOfOthers 16 = .ok (.aload_n 0, 1) := by decide +kernel
theorem dX2_partOfOthers_17 : decode cX2_partOfOthers 17 = .ok (.getfield 19, 3) := by decide +kernel
theorem dX2_partOfOthers_20 : decode cX2_partOfOthers 20 = .ok (.iload_n 1, 1) := by decide +kernel
theorem dX2_partOfOthers_21 : decode cX2_partOfOthers 21 = .ok (.laload, 1) := by decide +kernel
theorem dX2_partOfOthers_22 : decode cX2_partOfOthers 22 = .ok (.invokestatic 35, 3) := by decide +kernel
theorem dX2_partOfOthers_25 : decode cX2_partOfOthers 25 = .ok (.ireturn, 1) := by decide +kernel
set_option maxRecDepth 20000 in
theorem ggX2_scale_J9_floorDiv_f86c9 : GoodIn wsX2_scale wsJ9_floorDiv_f86c9 := goodIn_r _ [4] (by decide +kernel) (by decide +kernel)
set_option maxRecDepth 20000 in
theorem gX2_scale_J9_floorDiv_f86c9 : GoodIn wsX2_scale (va_wsS RX2 39 yJ9_floorDiv_f86c9 wsJ9_floorDiv_f86c9) := goodIn_app (goodIn_of _ (by decide +kernel)) ggX2_scale_J9_floorDiv_f86c9
theorem dX2_scale_0 : decode cX2_scale 0 = .ok (.lload_n 3, 1) := by decide +kernel
theorem dX2_scale_1 : decode cX2_scale 1 = .ok (.lconst 0, 1) := by decide +kernel
theorem dX2_scale_2 : decode cX2_scale 2 = .ok (.lcmp, 1) := by decide +kernel
theorem dX2_scale_3 : decode cX2_scale 3 = .ok (.ifCond .le 15, 3) := by decide +kernel
theorem dX2_scale_6 : decode cX2_scale 6 = .ok (.iload_n 0, 1) := by decide +kernel
theorem dX2_scale_7 : decode cX2_scale 7 = .ok (.i2l, 1) := by decide +kernel
theorem dX2_scale_8 : decode cX2_scale 8 = .ok (.lload_n 1, 1) := by decide +kernel
theorem dX2_scale_9 : decode cX2_scale 9 = .ok (.lmul, 1) := by decide +kernel
theorem dX2_scale_10 : decode cX2_scale 10 = .ok (.lload_n 3, 1) := by decide +kernel
theorem dX2_scale_11 : decode cX2_scale 11 = .ok (.invokestatic 39, 3) := by decide +kernel
theorem dX2_scale_14 : decode cX2_scale 14 = .ok (.l2i, 1) := by decide +kernel
theorem dX2_scale_15 : decode cX2_scale 15 = .ok (.goto 4, 3) := by decide +kernel
theorem dX2_scale_18 : decode cX2_scale 18 = .ok (.iconst 0, 1) := by decide +kernel
theorem dX2_scale_19 : decode cX2_scale 19 = .ok (.ireturn, 1) := by decide +kernel
set_option maxRecDepth 20000 in
theorem ggX2_millionthsAfter_X2_playRound : GoodIn wsX2_millionthsAfter wsX2_playRound := goodIn_r _ [7, 8, 1, 9, 10, 11, 12, 13, 14, 15, 16, 17, 18] (by decide +kernel) (by decide +kernel)
set_option maxRecDepth 20000 in
theorem gX2_millionthsAfter_X2_playRound : GoodIn wsX2_millionthsAfter (wsV RX2 74 RX2 yX2_playRound wsX2_playRound) := goodIn_app (goodIn_of _ (by decide +kernel)) ggX2_millionthsAfter_X2_playRound
theorem dX2_millionthsAfter_0 : decode cX2_millionthsAfter 0 = .ok (.iconst 0, 1) := by decide +kernel
theorem dX2_millionthsAfter_1 : decode cX2_millionthsAfter 1 = .ok (.istore_n 3, 1) := by decide +kernel
theorem dX2_millionthsAfter_2 : decode cX2_millionthsAfter 2 = .ok (.iload_n 3, 1) := by decide +kernel
theorem dX2_millionthsAfter_3 : decode cX2_millionthsAfter 3 = .ok (.bipush 6, 2) := by decide +kernel
theorem dX2_millionthsAfter_5 : decode cX2_millionthsAfter 5 = .ok (.if_icmp .ge 25, 3) := by decide +kernel
theorem dX2_millionthsAfter_8 : decode cX2_millionthsAfter 8 = .ok (.aload_n 0, 1) := by decide +kernel
theorem dX2_millionthsAfter_9 : decode cX2_millionthsAfter 9 = .ok (.getfield 25, 3) := by decide +kernel
theorem dX2_millionthsAfter_12 : decode cX2_millionthsAfter 12 = .ok (.iload_n 3, 1) := by decide +kernel
theorem dX2_millionthsAfter_13 : decode cX2_millionthsAfter 13 = .ok (.iload_n 3, 1) := by decide +kernel
theorem dX2_millionthsAfter_14 : decode cX2_millionthsAfter 14 = .ok (.ifCond .ne 8, 3) := by decide +kernel
theorem dX2_millionthsAfter_17 : decode cX2_millionthsAfter 17 = .ok (.ldc 73, 2) := by decide +kernel
theorem dX2_millionthsAfter_19 : decode cX2_millionthsAfter 19 = .ok (.goto 4, 3) := by decide +kernel
theorem dX2_millionthsAfter_22 : decode cX2_millionthsAfter 22 = .ok (.iconst 0, 1) := by decide +kernel
theorem dX2_millionthsAfter_23 : decode cX2_millionthsAfter 23 = .ok (.iastore, 1) := by decide +kernel
theorem dX2_millionthsAfter_24 : decode cX2_millionthsAfter 24 = .ok (.iinc 3 1, 3) := by decide +kernel
theorem dX2_millionthsAfter_27 : decode cX2_millionthsAfter 27 = .ok (.goto (-25), 3) := by decide +kernel
theorem dX2_millionthsAfter_30 : decode cX2_millionthsAfter 30 = .ok (.iconst 0, 1) := by decide +kernel
theorem dX2_millionthsAfter_31 : decode cX2_millionthsAfter 31 = .ok (.istore_n 3, 1) := by decide +kernel
theorem dX2_millionthsAfter_32 : decode cX2_millionthsAfter 32 = .ok (.iload_n 3, 1) := by decide +kernel
theorem dX2_millionthsAfter_33 : decode cX2_millionthsAfter 33 = .ok (.iload_n 1, 1) := by decide +kernel
theorem dX2_millionthsAfter_34 : decode cX2_millionthsAfter 34 = .ok (.if_icmp .ge 13, 3) := by decide +kernel
theorem dX2_millionthsAfter_37 : decode cX2_millionthsAfter 37 = .ok (.aload_n 0, 1) := by decide +kernel
theorem dX2_millionthsAfter_38 : decode cX2_millionthsAfter 38 = .ok (.invokevirtual 74, 3) := by decide +kernel
theorem dX2_millionthsAfter_41 : decode cX2_millionthsAfter 41 = .ok (.iinc 3 1, 3) := by decide +kernel
theorem dX2_millionthsAfter_44 : decode cX2_millionthsAfter 44 = .ok (.goto (-12), 3) := by decide +kernel
theorem dX2_millionthsAfter_47 : decode cX2_millionthsAfter 47 = .ok (.aload_n 0, 1) := by decide +kernel
theorem dX2_millionthsAfter_48 : decode cX2_millionthsAfter 48 = .ok (.getfield 25, 3) := by decide +kernel
theorem dX2_millionthsAfter_51 : decode cX2_millionthsAfter 51 = .ok (.iload_n 2, 1) := by decide +kernel
theorem dX2_millionthsAfter_52 : decode cX2_millionthsAfter 52 = .ok (.iaload, 1) := by decide +kernel
theorem dX2_millionthsAfter_53 : decode cX2_millionthsAfter 53 = .ok (.ireturn, 1) := by decide +kernel
set_option maxRecDepth 20000 in
theorem ggX2_playRound_X3_pair : GoodIn wsX2_playRound wsX3_pair := goodIn_r _ [6] (by decide +kernel) (by decide +kernel)
set_option maxRecDepth 20000 in
theorem gX2_playRound_X3_pair_n31 : GoodIn wsX2_playRound (wsX3_pair) := ggX2_playRound_X3_pair
theorem dX2_playRound_0 : decode cX2_playRound 0 = .ok (.iconst 1, 1) := by decide +kernel
theorem dX2_playRound_1 : decode cX2_playRound 1 = .ok (.istore_n 1, 1) := by decide +kernel
theorem dX2_playRound_2 : decode cX2_playRound 2 = .ok (.iload_n 1, 1) := by decide +kernel
theorem dX2_playRound_3 : decode cX2_playRound 3 = .ok (.bipush 6, 2) := by decide +kernel
theorem dX2_playRound_5 : decode cX2_playRound 5 = .ok (.if_icmp .ge 55, 3) := by decide +kernel
theorem dX2_playRound_8 : decode cX2_playRound 8 = .ok (.iconst 0, 1) := by decide +kernel
theorem dX2_playRound_9 : decode cX2_playRound 9 = .ok (.istore_n 2, 1) := by decide +kernel
theorem dX2_playRound_10 : decode cX2_playRound 10 = .ok (.iconst 0, 1) := by decide +kernel
theorem dX2_playRound_11 : decode cX2_playRound 11 = .ok (.istore_n 3, 1) := by decide +kernel
theorem dX2_playRound_12 : decode cX2_playRound 12 = .ok (.iload_n 3, 1) := by decide +kernel
theorem dX2_playRound_13 : decode cX2_playRound 13 = .ok (.bipush 6, 2) := by decide +kernel
theorem dX2_playRound_15 : decode cX2_playRound 15 = .ok (.if_icmp .ge 29, 3) := by decide +kernel
theorem dX2_playRound_18 : decode cX2_playRound 18 = .ok (.iload_n 2, 1) := by decide +kernel
theorem dX2_playRound_19 : decode cX2_playRound 19 = .ok (.aload_n 0, 1) := by decide +kernel
theorem dX2_playRound_20 : decode cX2_playRound 20 = .ok (.getfield 9, 3) := by decide +kernel
theorem dX2_playRound_23 : decode cX2_playRound 23 = .ok (.iload_n 3, 1) := by decide +kernel
theorem dX2_playRound_24 : decode cX2_playRound 24 = .ok (.iload_n 1, 1) := by decide +kernel
theorem dX2_playRound_25 : decode cX2_playRound 25 = .ok (.invokestatic 31, 3) := by decide +kernel
theorem dX2_playRound_28 : decode cX2_playRound 28 = .ok (.iaload, 1) := by decide +kernel
theorem dX2_playRound_29 : decode cX2_playRound 29 = .ok (.aload_n 0, 1) := by decide +kernel
theorem dX2_playRound_30 : decode cX2_playRound 30 = .ok (.getfield 25, 3) := by decide +kernel
theorem dX2_playRound_33 : decode cX2_playRound 33 = .ok (.iload_n 3, 1) := by decide +kernel
theorem dX2_playRound_34 : decode cX2_playRound 34 = .ok (.iaload, 1) := by decide +kernel
theorem dX2_playRound_35 : decode cX2_playRound 35 = .ok (.imul, 1) := by decide +kernel
theorem dX2_playRound_36 : decode cX2_playRound 36 = .ok (.iadd, 1) := by decide +kernel
theorem dX2_playRound_37 : decode cX2_playRound 37 = .ok (.istore_n 2, 1) := by decide +kernel
theorem dX2_playRound_38 : decode cX2_playRound 38 = .ok (.iinc 3 1, 3) := by decide +kernel
theorem dX2_playRound_41 : decode cX2_playRound 41 = .ok (.goto (-29), 3) := by decide +kernel
theorem dX2_playRound_44 : decode cX2_playRound 44 = .ok (.aload_n 0, 1) := by decide +kernel
theorem dX2_playRound_45 : decode cX2_playRound 45 = .ok (.getfield 28, 3) := by decide +kernel
theorem dX2_playRound_48 : decode cX2_playRound 48 = .ok (.iload_n 1, 1) := by decide +kernel
theorem dX2_playRound_49 : decode cX2_playRound 49 = .ok (.iload_n 2, 1) := by decide +kernel
theorem dX2_playRound_50 : decode cX2_playRound 50 = .ok (.bipush 100, 2) := by decide +kernel
theorem dX2_playRound_52 : decode cX2_playRound 52 = .ok (.idiv, 1) := by decide +kernel
theorem dX2_playRound_53 : decode cX2_playRound 53 = .ok (.iastore, 1) := by decide +kernel
theorem dX2_playRound_54 : decode cX2_playRound 54 = .ok (.iinc 1 1, 3) := by decide +kernel
theorem dX2_playRound_57 : decode cX2_playRound 57 = .ok (.goto (-55), 3) := by decide +kernel
theorem dX2_playRound_60 : decode cX2_playRound 60 = .ok (.iconst 1, 1) := by decide +kernel
theorem dX2_playRound_61 : decode cX2_playRound 61 = .ok (.istore_n 1, 1) := by decide +kernel
theorem dX2_playRound_62 : decode cX2_playRound 62 = .ok (.iload_n 1, 1) := by decide +kernel
theorem dX2_playRound_63 : decode cX2_playRound 63 = .ok (.bipush 6, 2) := by decide +kernel
theorem dX2_playRound_65 : decode cX2_playRound 65 = .ok (.if_icmp .ge 21, 3) := by decide +kernel
theorem dX2_playRound_68 : decode cX2_playRound 68 = .ok (.aload_n 0, 1) := by decide +kernel
theorem dX2_playRound_69 : decode cX2_playRound 69 = .ok (.getfield 25, 3) := by decide +kernel
theorem dX2_playRound_72 : decode cX2_playRound 72 = .ok (.iload_n 1, 1) := by decide +kernel
theorem dX2_playRound_73 : decode cX2_playRound 73 = .ok (.aload_n 0, 1) := by decide +kernel
theorem dX2_playRound_74 : decode cX2_playRound 74 = .ok (.getfield 28, 3) := by decide +kernel
theorem dX2_playRound_77 : decode cX2_playRound 77 = .ok (.iload_n 1, 1) := by decide +kernel
theorem dX2_playRound_78 : decode cX2_playRound 78 = .ok (.iaload, 1) := by decide +kernel
theorem dX2_playRound_79 : decode cX2_playRound 79 = .ok (.iastore, 1) := by decide +kernel
theorem dX2_playRound_80 : decode cX2_playRound 80 = .ok (.iinc 1 1, 3) := by decide +kernel
theorem dX2_playRound_83 : decode cX2_playRound 83 = .ok (.goto (-21), 3) := by decide +kernel
theorem dX2_playRound_86 : decode cX2_playRound 86 = .ok (.return_, 1) := by decide +kernel
set_option maxRecDepth 20000 in
theorem ggX2_members_X2_withControlled : GoodIn wsX2_members wsX2_withControlled := goodIn_r _ [5, 6, 7, 8, 4, 9, 10, 11, 12, 13, 14, 15, 16, 17, 18, 19, 20, 21] (by decide +kernel) (by decide +kernel)
set_option maxRecDepth 20000 in
theorem gX2_members_X2_withControlled : GoodIn wsX2_members (wsV RX2 77 RX2 yX2_withControlled wsX2_withControlled) := goodIn_app (goodIn_of _ (by decide +kernel)) ggX2_members_X2_withControlled
theorem dX2_members_0 : decode cX2_members 0 = .ok (.iconst 1, 1) := by decide +kernel
theorem dX2_members_1 : decode cX2_members 1 = .ok (.istore_n 1, 1) := by decide +kernel
theorem dX2_members_2 : decode cX2_members 2 = .ok (.iconst 1, 1) := by decide +kernel
theorem dX2_members_3 : decode cX2_members 3 = .ok (.istore_n 2, 1) := by decide +kernel
theorem dX2_members_4 : decode cX2_members 4 = .ok (.iload_n 2, 1) := by decide +kernel
theorem dX2_members_5 : decode cX2_members 5 = .ok (.bipush 6, 2) := by decide +kernel
theorem dX2_members_7 : decode cX2_members 7 = .ok (.if_icmp .ge 15, 3) := by decide +kernel
theorem dX2_members_10 : decode cX2_members 10 = .ok (.aload_n 0, 1) := by decide +kernel
theorem dX2_members_11 : decode cX2_members 11 = .ok (.iload_n 1, 1) := by decide +kernel
theorem dX2_members_12 : decode cX2_members 12 = .ok (.invokevirtual 77, 3) := by decide +kernel
theorem dX2_members_15 : decode cX2_members 15 = .ok (.istore_n 1, 1) := by decide +kernel
theorem dX2_members_16 : decode cX2_members 16 = .ok (.iinc 2 1, 3) := by decide +kernel
theorem dX2_members_19 : decode cX2_members 19 = .ok (.goto (-15), 3) := by decide +kernel
theorem dX2_members_22 : decode cX2_members 22 = .ok (.iload_n 1, 1) := by decide +kernel
theorem dX2_members_23 : decode cX2_members 23 = .ok (.ireturn, 1) := by decide +kernel
set_option maxRecDepth 20000 in
theorem ggX2_withControlled_X2_heldAmong : GoodIn wsX2_withControlled wsX2_heldAmong := goodIn_r _ [5, 6, 7, 8, 9, 10, 11, 12, 13, 14, 15, 16, 17] (by decide +kernel) (by decide +kernel)
set_option maxRecDepth 20000 in
theorem gX2_withControlled_X2_heldAmong : GoodIn wsX2_withControlled (wsV RX2 80 RX2 yX2_heldAmong wsX2_heldAmong) := goodIn_app (goodIn_of _ (by decide +kernel)) ggX2_withControlled_X2_heldAmong
theorem dX2_withControlled_0 : decode cX2_withControlled 0 = .ok (.iload_n 1, 1) := by decide +kernel
theorem dX2_withControlled_1 : decode cX2_withControlled 1 = .ok (.istore_n 2, 1) := by decide +kernel
theorem dX2_withControlled_2 : decode cX2_withControlled 2 = .ok (.iconst 1, 1) := by decide +kernel
theorem dX2_withControlled_3 : decode cX2_withControlled 3 = .ok (.istore_n 3, 1) := by decide +kernel
theorem dX2_withControlled_4 : decode cX2_withControlled 4 = .ok (.iload_n 3, 1) := by decide +kernel
theorem dX2_withControlled_5 : decode cX2_withControlled 5 = .ok (.bipush 6, 2) := by decide +kernel
theorem dX2_withControlled_7 : decode cX2_withControlled 7 = .ok (.if_icmp .ge 26, 3) := by decide +kernel
theorem dX2_withControlled_10 : decode cX2_withControlled 10 = .ok (.aload_n 0, 1) := by decide +kernel
theorem dX2_withControlled_11 : decode cX2_withControlled 11 = .ok (.iload_n 1, 1) := by decide +kernel
theorem dX2_withControlled_12 : decode cX2_withControlled 12 = .ok (.iload_n 3, 1) := by decide +kernel
theorem dX2_withControlled_13 : decode cX2_withControlled 13 = .ok (.invokevirtual 80, 3) := by decide +kernel
theorem dX2_withControlled_16 : decode cX2_withControlled 16 = .ok (.bipush 50, 2) := by decide +kernel
theorem dX2_withControlled_18 : decode cX2_withControlled 18 = .ok (.if_icmp .le 9, 3) := by decide +kernel
theorem dX2_withControlled_21 : decode cX2_withControlled 21 = .ok (.iload_n 2, 1) := by decide +kernel
theorem dX2_withControlled_22 : decode cX2_withControlled 22 = .ok (.iconst 1, 1) := by decide +kernel
theorem dX2_withControlled_23 : decode cX2_withControlled 23 = .ok (.iload_n 3, 1) := by decide +kernel
theorem dX2_withControlled_24 : decode cX2_withControlled 24 = .ok (.ishl, 1) := by decide +kernel
theorem dX2_withControlled_25 : decode cX2_withControlled 25 = .ok (.ior, 1) := by decide +kernel
theorem dX2_withControlled_26 : decode cX2_withControlled 26 = .ok (.istore_n 2, 1) := by decide +kernel
theorem dX2_withControlled_27 : decode cX2_withControlled 27 = .ok (.iinc 3 1, 3) := by decide +kernel
theorem dX2_withControlled_30 : decode cX2_withControlled 30 = .ok (.goto (-26), 3) := by decide +kernel
theorem dX2_withControlled_33 : decode cX2_withControlled 33 = .ok (.iload_n 2, 1) := by decide +kernel
theorem dX2_withControlled_34 : decode cX2_withControlled 34 = .ok (.ireturn, 1) := by decide +kernel
set_option maxRecDepth 20000 in
theorem ggX2_heldAmong_X3_isMember : GoodIn wsX2_heldAmong wsX3_isMember := goodIn_r _ [4] (by decide +kernel) (by decide +kernel)
set_option maxRecDepth 20000 in
theorem gX2_heldAmong_X3_isMember_n83 : GoodIn wsX2_heldAmong (wsX3_isMember) := ggX2_heldAmong_X3_isMember
set_option maxRecDepth 20000 in
theorem ggX2_heldAmong_X3_pair : GoodIn wsX2_heldAmong wsX3_pair := goodIn_r _ [6] (by decide +kernel) (by decide +kernel)
set_option maxRecDepth 20000 in
theorem gX2_heldAmong_X3_pair_n31 : GoodIn wsX2_heldAmong (wsX3_pair) := ggX2_heldAmong_X3_pair
theorem dX2_heldAmong_0 : decode cX2_heldAmong 0 = .ok (.iconst 0, 1) := by decide +kernel
theorem dX2_heldAmong_1 : decode cX2_heldAmong 1 = .ok (.istore_n 3, 1) := by decide +kernel
theorem dX2_heldAmong_2 : decode cX2_heldAmong 2 = .ok (.iconst 0, 1) := by decide +kernel
theorem dX2_heldAmong_3 : decode cX2_heldAmong 3 = .ok (.istore 4, 2) := by decide +kernel
theorem dX2_heldAmong_5 : decode cX2_heldAmong 5 = .ok (.iload 4, 2) := by decide +kernel
theorem dX2_heldAmong_7 : decode cX2_heldAmong 7 = .ok (.bipush 6, 2) := by decide +kernel
theorem dX2_heldAmong_9 : decode cX2_heldAmong 9 = .ok (.if_icmp .ge 32, 3) := by decide +kernel
theorem dX2_heldAmong_12 : decode cX2_heldAmong 12 = .ok (.iload_n 1, 1) := by decide +kernel
theorem dX2_heldAmong_13 : decode cX2_heldAmong 13 = .ok (.iload 4, 2) := by decide +kernel
theorem dX2_heldAmong_15 : decode cX2_heldAmong 15 = .ok (.invokestatic 83, 3) := by decide +kernel
theorem dX2_heldAmong_18 : decode cX2_heldAmong 18 = .ok (.ifCond .eq 17, 3) := by decide +kernel
theorem dX2_heldAmong_21 : decode cX2_heldAmong 21 = .ok (.iload_n 3, 1) := by decide +kernel
theorem dX2_heldAmong_22 : decode cX2_heldAmong 22 = .ok (.aload_n 0, 1) := by decide +kernel
theorem dX2_heldAmong_23 : decode cX2_heldAmong 23 = .ok (.getfield 9, 3) := by decide +kernel
theorem dX2_heldAmong_26 : decode cX2_heldAmong 26 = .ok (.iload 4, 2) := by decide +kernel
theorem dX2_heldAmong_28 : decode cX2_heldAmong 28 = .ok (.iload_n 2, 1) := by decide +kernel
theorem dX2_heldAmong_29 : decode cX2_heldAmong 29 = .ok (.invokestatic 31, 3) := by decide +kernel
theorem dX2_heldAmong_32 : decode cX2_heldAmong 32 = .ok (.iaload, 1) := by decide +kernel
theorem dX2_heldAmong_33 : decode cX2_heldAmong 33 = .ok (.iadd, 1) := by decide +kernel
theorem dX2_heldAmong_34 : decode cX2_heldAmong 34 = .ok (.istore_n 3, 1) := by decide +kernel
theorem dX2_heldAmong_35 : decode cX2_heldAmong 35 = .ok (.iinc 4 1, 3) := by decide +kernel
theorem dX2_heldAmong_38 : decode cX2_heldAmong 38 = .ok (.goto (-33), 3) := by decide +kernel
theorem dX2_heldAmong_41 : decode cX2_heldAmong 41 = .ok (.iload_n 3, 1) := by decide +kernel
theorem dX2_heldAmong_42 : decode cX2_heldAmong 42 = .ok (.ireturn, 1) := by decide +kernel
set_option maxRecDepth 20000 in
theorem ggX3_init_X2_init : GoodIn wsX3_init wsX2_init := goodIn_r _ [21, 22, 2, 3, 16, 23, 24, 25, 26, 27, 28, 29, 45, 46, 47, 48, 49, 50] (by decide +kernel) (by decide +kernel)
set_option maxRecDepth 20000 in
theorem gX3_init_X2_init_n9 : GoodIn wsX3_init (wsX2_init) := ggX3_init_X2_init
set_option maxRecDepth 20000 in
theorem ggX3_init_X1_init : GoodIn wsX3_init wsX1_init := goodIn_r _ [31, 32, 2, 3, 16, 33, 34, 35, 36, 37, 38, 39, 57, 58, 59, 60, 61, 62, 63] (by decide +kernel) (by decide +kernel)
set_option maxRecDepth 20000 in
theorem gX3_init_X1_init_n18 : GoodIn wsX3_init (wsX1_init) := ggX3_init_X1_init
set_option maxRecDepth 20000 in
theorem ggX3_init_X0_init : GoodIn wsX3_init wsX0_init := goodIn_r _ [41, 42, 2, 3, 16, 43, 44, 64, 65] (by decide +kernel) (by decide +kernel)
set_option maxRecDepth 20000 in
theorem gX3_init_X0_init_n25 : GoodIn wsX3_init (wsX0_init) := ggX3_init_X0_init
theorem dX3_init_0 : decode cX3_init 0 = .ok (.aload_n 0, 1) := by decide +kernel
theorem dX3_init_1 : decode cX3_init 1 = .ok (.invokespecial 1, 3) := by decide +kernel
theorem dX3_init_4 : decode cX3_init 4 = .ok (.aload_n 0, 1) := by decide +kernel
theorem dX3_init_5 : decode cX3_init 5 = .ok (.new 7, 3) := by decide +kernel
theorem dX3_init_8 : decode cX3_init 8 = .ok (.dup, 1) := by decide +kernel
theorem dX3_init_9 : decode cX3_init 9 = .ok (.invokespecial 9, 3) := by decide +kernel
theorem dX3_init_12 : decode cX3_init 12 = .ok (.putfield 10, 3) := by decide +kernel
theorem dX3_init_15 : decode cX3_init 15 = .ok (.aload_n 0, 1) := by decide +kernel
theorem dX3_init_16 : decode cX3_init 16 = .ok (.new 16, 3) := by decide +kernel
theorem dX3_init_19 : decode cX3_init 19 = .ok (.dup, 1) := by decide +kernel
theorem dX3_init_20 : decode cX3_init 20 = .ok (.invokespecial 18, 3) := by decide +kernel
theorem dX3_init_23 : decode cX3_init 23 = .ok (.putfield 19, 3) := by decide +kernel
theorem dX3_init_26 : decode cX3_init 26 = .ok (.aload_n 0, 1) := by decide +kernel
theorem dX3_init_27 : decode cX3_init 27 = .ok (.new 23, 3) := by decide +kernel
theorem dX3_init_30 : decode cX3_init 30 = .ok (.dup, 1) := by decide +kernel
theorem dX3_init_31 : decode cX3_init 31 = .ok (.invokespecial 25, 3) := by decide +kernel
theorem dX3_init_34 : decode cX3_init 34 = .ok (.putfield 26, 3) := by decide +kernel
theorem dX3_init_37 : decode cX3_init 37 = .ok (.aload_n 0, 1) := by decide +kernel
theorem dX3_init_38 : decode cX3_init 38 = .ok (.bipush 6, 2) := by decide +kernel
theorem dX3_init_40 : decode cX3_init 40 = .ok (.newarray .int, 2) := by decide +kernel
theorem dX3_init_42 : decode cX3_init 42 = .ok (.putfield 30, 3) := by decide +kernel
theorem dX3_init_45 : decode cX3_init 45 = .ok (.aload_n 0, 1) := by decide +kernel
theorem dX3_init_46 : decode cX3_init 46 = .ok (.bipush 12, 2) := by decide +kernel
theorem dX3_init_48 : decode cX3_init 48 = .ok (.newarray .int, 2) := by decide +kernel
theorem dX3_init_50 : decode cX3_init 50 = .ok (.putfield 34, 3) := by decide +kernel
theorem dX3_init_53 : decode cX3_init 53 = .ok (.aload_n 0, 1) := by decide +kernel
theorem dX3_init_54 : decode cX3_init 54 = .ok (.iconst 0, 1) := by decide +kernel
theorem dX3_init_55 : decode cX3_init 55 = .ok (.putfield 37, 3) := by decide +kernel
theorem dX3_init_58 : decode cX3_init 58 = .ok (.return_, 1) := by decide +kernel
set_option maxRecDepth 20000 in
theorem ggX3_hold_X3_requireTwoCompanies : GoodIn wsX3_hold wsX3_requireTwoCompanies := goodIn_ca (goodIn_r _ [5, 6, 7, 8, 9, 4, 10, 11, 12, 13] (by decide +kernel) (by decide +kernel)) (goodIn_sub (fun _ h => List.mem_cons_of_mem _ (List.mem_append_left _ (List.mem_append_right _ h))) (by decide +kernel))
set_option maxRecDepth 20000 in
theorem gX3_hold_X3_requireTwoCompanies : GoodIn wsX3_hold (va_wsS RX3 41 yX3_requireTwoCompanies wsX3_requireTwoCompanies) := goodIn_app (goodIn_of _ (by decide +kernel)) ggX3_hold_X3_requireTwoCompanies
set_option maxRecDepth 20000 in
theorem ggX3_hold_X3_requireRange : GoodIn wsX3_hold wsX3_requireRange := goodIn_ca (goodIn_r _ [13, 6, 7] (by decide +kernel) (by decide +kernel)) (goodIn_sub (fun _ h => List.mem_cons_of_mem _ (List.mem_append_left _ (List.mem_append_right _ h))) (by decide +kernel))
set_option maxRecDepth 20000 in
theorem gX3_hold_X3_requireRange : GoodIn wsX3_hold (va_wsS RX3 45 yX3_requireRange wsX3_requireRange) := goodIn_app (goodIn_of _ (by decide +kernel)) ggX3_hold_X3_requireRange
set_option maxRecDepth 20000 in
theorem ggX3_hold_X2_percentOf : GoodIn wsX3_hold wsX2_percentOf := goodIn_r _ [17, 18, 19, 4, 20, 66, 67, 68, 69, 70, 71] (by decide +kernel) (by decide +kernel)
set_option maxRecDepth 20000 in
theorem gX3_hold_X2_percentOf_n49 : GoodIn wsX3_hold (wsX2_percentOf) := ggX3_hold_X2_percentOf
set_option maxRecDepth 20000 in
theorem ggX3_hold_X2_take : GoodIn wsX3_hold wsX2_take := goodIn_r _ [23, 18, 19, 4, 20, 24, 25, 26, 15, 27, 28, 29, 30, 31, 32, 33, 34, 35, 36, 37, 38, 39, 40, 41, 42, 43, 44, 45, 46, 47, 48, 49, 50, 51, 52, 53, 54, 66, 67, 68, 69, 70, 71] (by decide +kernel) (by decide +kernel)
set_option maxRecDepth 20000 in
theorem gX3_hold_X2_take_n53 : GoodIn wsX3_hold (wsX2_take) := ggX3_hold_X2_take
set_option maxRecDepth 20000 in
theorem ggX3_hold_X3_requireTaken : GoodIn wsX3_hold wsX3_requireTaken := goodIn_ca (goodIn_r _ [57, 58, 59] (by decide +kernel) (by decide +kernel)) (goodIn_sub (fun _ h => List.mem_cons_of_mem _ (List.mem_append_right _ h)) (by decide +kernel))
set_option maxRecDepth 20000 in
theorem gX3_hold_X3_requireTaken : GoodIn wsX3_hold (va_wsS RX3 57 yX3_requireTaken wsX3_requireTaken) := goodIn_app (goodIn_of _ (by decide +kernel)) ggX3_hold_X3_requireTaken
theorem dX3_hold_0 : decode cX3_hold 0 = .ok (.iload_n 1, 1) := by decide +kernel
theorem dX3_hold_1 : decode cX3_hold 1 = .ok (.iload_n 2, 1) := by decide +kernel
theorem dX3_hold_2 : decode cX3_hold 2 = .ok (.invokestatic 41, 3) := by decide +kernel
theorem dX3_hold_5 : decode cX3_hold 5 = .ok (.iload_n 3, 1) := by decide +kernel
theorem dX3_hold_6 : decode cX3_hold 6 = .ok (.iconst 0, 1) := by decide +kernel
theorem dX3_hold_7 : decode cX3_hold 7 = .ok (.bipush 100, 2) := by decide +kernel
theorem dX3_hold_9 : decode cX3_hold 9 = .ok (.invokestatic 45, 3) := by decide +kernel
theorem dX3_hold_12 : decode cX3_hold 12 = .ok (.aload_n 0, 1) := by decide +kernel
theorem dX3_hold_13 : decode cX3_hold 13 = .ok (.getfield 10, 3) := by decide +kernel
theorem dX3_hold_16 : decode cX3_hold 16 = .ok (.iload_n 1, 1) := by decide +kernel
theorem dX3_hold_17 : decode cX3_hold 17 = .ok (.iload_n 2, 1) := by decide +kernel
theorem dX3_hold_18 : decode cX3_hold 18 = .ok (.invokevirtual 49, 3) := by decide +kernel
theorem dX3_hold_21 : decode cX3_hold 21 = .ok (.istore 4, 2) := by decide +kernel
theorem dX3_hold_23 : decode cX3_hold 23 = .ok (.aload_n 0, 1) := by decide +kernel
theorem dX3_hold_24 : decode cX3_hold 24 = .ok (.getfield 10, 3) := by decide +kernel
theorem dX3_hold_27 : decode cX3_hold 27 = .ok (.iload_n 1, 1) := by decide +kernel
theorem dX3_hold_28 : decode cX3_hold 28 = .ok (.iload_n 2, 1) := by decide +kernel
theorem dX3_hold_29 : decode cX3_hold 29 = .ok (.iload_n 3, 1) := by decide +kernel
theorem dX3_hold_30 : decode cX3_hold 30 = .ok (.invokevirtual 53, 3) := by decide +kernel
theorem dX3_hold_33 : decode cX3_hold 33 = .ok (.invokestatic 57, 3) := by decide +kernel
theorem dX3_hold_36 : decode cX3_hold 36 = .ok (.iload 4, 2) := by decide +kernel
theorem dX3_hold_38 : decode cX3_hold 38 = .ok (.ireturn, 1) := by decide +kernel
set_option maxRecDepth 20000 in
theorem ggX3_held_X3_requireCompany : GoodIn wsX3_held wsX3_requireCompany := goodIn_ca (goodIn_r _ [5, 6, 7, 4, 8, 9, 10] (by decide +kernel) (by decide +kernel)) (goodIn_sub (fun _ h => List.mem_cons_of_mem _ (List.mem_append_right _ h)) (by decide +kernel))
set_option maxRecDepth 20000 in
theorem gX3_held_X3_requireCompany : GoodIn wsX3_held (va_wsS RX3 71 yX3_requireCompany wsX3_requireCompany) := goodIn_app (goodIn_of _ (by decide +kernel)) ggX3_held_X3_requireCompany
set_option maxRecDepth 20000 in
theorem ggX3_held_X2_percentOf : GoodIn wsX3_held wsX2_percentOf := goodIn_r _ [14, 15, 16, 4, 17, 24, 25, 26, 27, 28, 29] (by decide +kernel) (by decide +kernel)
set_option maxRecDepth 20000 in
theorem gX3_held_X2_percentOf_n49 : GoodIn wsX3_held (wsX2_percentOf) := ggX3_held_X2_percentOf
theorem dX3_held_0 : decode cX3_held 0 = .ok (.iload_n 1, 1) := by decide +kernel
theorem dX3_held_1 : decode cX3_held 1 = .ok (.invokestatic 71, 3) := by decide +kernel
theorem dX3_held_4 : decode cX3_held 4 = .ok (.iload_n 2, 1) := by decide +kernel
theorem dX3_held_5 : decode cX3_held 5 = .ok (.invokestatic 71, 3) := by decide +kernel
theorem dX3_held_8 : decode cX3_held 8 = .ok (.aload_n 0, 1) := by decide +kernel
theorem dX3_held_9 : decode cX3_held 9 = .ok (.getfield 10, 3) := by decide +kernel
theorem dX3_held_12 : decode cX3_held 12 = .ok (.iload_n 1, 1) := by decide +kernel
theorem dX3_held_13 : decode cX3_held 13 = .ok (.iload_n 2, 1) := by decide +kernel
theorem dX3_held_14 : decode cX3_held 14 = .ok (.invokevirtual 49, 3) := by decide +kernel
theorem dX3_held_17 : decode cX3_held 17 = .ok (.ireturn, 1) := by decide +kernel
set_option maxRecDepth 20000 in
theorem ggX3_shareNumerator_X3_requireCompany : GoodIn wsX3_shareNumerator wsX3_requireCompany := goodIn_ca (goodIn_r _ [5, 6, 7, 4, 8, 9, 10] (by decide +kernel) (by decide +kernel)) (goodIn_sub (fun _ h => List.mem_cons_of_mem _ (List.mem_append_right _ h)) (by decide +kernel))
set_option maxRecDepth 20000 in
theorem gX3_shareNumerator_X3_requireCompany : GoodIn wsX3_shareNumerator (va_wsS RX3 71 yX3_requireCompany wsX3_requireCompany) := goodIn_app (goodIn_of _ (by decide +kernel)) ggX3_shareNumerator_X3_requireCompany
set_option maxRecDepth 20000 in
theorem ggX3_shareNumerator_X2_numeratorOf : GoodIn wsX3_shareNumerator wsX2_numeratorOf := goodIn_r _ [14, 15, 22, 23, 24, 25, 26, 27] (by decide +kernel) (by decide +kernel)
set_option maxRecDepth 20000 in
theorem gX3_shareNumerator_X2_numeratorOf_n75 : GoodIn wsX3_shareNumerator (wsX2_numeratorOf) := ggX3_shareNumerator_X2_numeratorOf
theorem dX3_shareNumerator_0 : decode cX3_shareNumerator 0 = .ok (.iload_n 1, 1) := by decide +kernel
theorem dX3_shareNumerator_1 : decode cX3_shareNumerator 1 = .ok (.invokestatic 71, 3) := by decide +kernel
theorem dX3_shareNumerator_4 : decode cX3_shareNumerator 4 = .ok (.aload_n 0, 1) := by decide +kernel
theorem dX3_shareNumerator_5 : decode cX3_shareNumerator 5 = .ok (.getfield 10, 3) := by decide +kernel
theorem dX3_shareNumerator_8 : decode cX3_shareNumerator 8 = .ok (.iload_n 1, 1) := by decide +kernel
theorem dX3_shareNumerator_9 : decode cX3_shareNumerator 9 = .ok (.invokevirtual 75, 3) := by decide +kernel
theorem dX3_shareNumerator_12 : decode cX3_shareNumerator 12 = .ok (.lreturn, 1) := by decide +kernel
set_option maxRecDepth 20000 in
theorem ggX3_shareDenominator_X3_requireCompany : GoodIn wsX3_shareDenominator wsX3_requireCompany := goodIn_ca (goodIn_r _ [5, 6, 7, 4, 8, 9, 10] (by decide +kernel) (by decide +kernel)) (goodIn_sub (fun _ h => List.mem_cons_of_mem _ (List.mem_append_right _ h)) (by decide +kernel))
set_option maxRecDepth 20000 in
theorem gX3_shareDenominator_X3_requireCompany : GoodIn wsX3_shareDenominator (va_wsS RX3 71 yX3_requireCompany wsX3_requireCompany) := goodIn_app (goodIn_of _ (by decide +kernel)) ggX3_shareDenominator_X3_requireCompany
set_option maxRecDepth 20000 in
theorem ggX3_shareDenominator_X2_denominatorOf : GoodIn wsX3_shareDenominator wsX2_denominatorOf := goodIn_r _ [14, 15, 22, 23, 24, 25, 26, 27] (by decide +kernel) (by decide +kernel)
set_option maxRecDepth 20000 in
theorem gX3_shareDenominator_X2_denominatorOf_n79 : GoodIn wsX3_shareDenominator (wsX2_denominatorOf) := ggX3_shareDenominator_X2_denominatorOf
theorem dX3_shareDenominator_0 : decode cX3_shareDenominator 0 = .ok (.iload_n 1, 1) := by decide +kernel
theorem dX3_shareDenominator_1 : decode cX3_shareDenominator 1 = .ok (.invokestatic 71, 3) := by decide +kernel
theorem dX3_shareDenominator_4 : decode cX3_shareDenominator 4 = .ok (.aload_n 0, 1) := by decide +kernel
theorem dX3_shareDenominator_5 : decode cX3_shareDenominator 5 = .ok (.getfield 10, 3) := by decide +kernel
theorem dX3_shareDenominator_8 : decode cX3_shareDenominator 8 = .ok (.iload_n 1, 1) := by decide +kernel
theorem dX3_shareDenominator_9 : decode cX3_shareDenominator 9 = .ok (.invokevirtual 79, 3) := by decide +kernel
theorem dX3_shareDenominator_12 : decode cX3_shareDenominator 12 = .ok (.lreturn, 1) := by decide +kernel
set_option maxRecDepth 20000 in
theorem ggX3_shareByRounds_X3_requireCompany : GoodIn wsX3_shareByRounds wsX3_requireCompany := goodIn_ca (goodIn_r _ [5, 6, 7, 4, 8, 9, 10] (by decide +kernel) (by decide +kernel)) (goodIn_sub (fun _ h => List.mem_cons_of_mem _ (List.mem_append_right _ h)) (by decide +kernel))
set_option maxRecDepth 20000 in
theorem gX3_shareByRounds_X3_requireCompany : GoodIn wsX3_shareByRounds (va_wsS RX3 71 yX3_requireCompany wsX3_requireCompany) := goodIn_app (goodIn_of _ (by decide +kernel)) ggX3_shareByRounds_X3_requireCompany
set_option maxRecDepth 20000 in
theorem ggX3_shareByRounds_X3_requireRange : GoodIn wsX3_shareByRounds wsX3_requireRange := goodIn_ca (goodIn_r _ [8, 9, 10] (by decide +kernel) (by decide +kernel)) (goodIn_sub (fun _ h => List.mem_cons_of_mem _ (List.mem_append_right _ h)) (by decide +kernel))
set_option maxRecDepth 20000 in
theorem gX3_shareByRounds_X3_requireRange : GoodIn wsX3_shareByRounds (va_wsS RX3 45 yX3_requireRange wsX3_requireRange) := goodIn_app (goodIn_of _ (by decide +kernel)) ggX3_shareByRounds_X3_requireRange
set_option maxRecDepth 20000 in
theorem ggX3_shareByRounds_X2_millionthsAfter : GoodIn wsX3_shareByRounds wsX2_millionthsAfter := goodIn_r _ [14, 15, 16, 17, 18, 19, 12, 20, 21, 22, 23, 4, 24, 31, 32, 33, 34, 35, 36] (by decide +kernel) (by decide +kernel)
set_option maxRecDepth 20000 in
theorem gX3_shareByRounds_X2_millionthsAfter_n82 : GoodIn wsX3_shareByRounds (wsX2_millionthsAfter) := ggX3_shareByRounds_X2_millionthsAfter
theorem dX3_shareByRounds_0 : decode cX3_shareByRounds 0 = .ok (.iload_n 1, 1) := by decide +kernel
theorem dX3_shareByRounds_1 : decode cX3_shareByRounds 1 = .ok (.invokestatic 71, 3) := by decide +kernel
theorem dX3_shareByRounds_4 : decode cX3_shareByRounds 4 = .ok (.iload_n 2, 1) := by decide +kernel
theorem dX3_shareByRounds_5 : decode cX3_shareByRounds 5 = .ok (.iconst 0, 1) := by decide +kernel
theorem dX3_shareByRounds_6 : decode cX3_shareByRounds 6 = .ok (.sipush 200, 3) := by decide +kernel
theorem dX3_shareByRounds_9 : decode cX3_shareByRounds 9 = .ok (.invokestatic 45, 3) := by decide +kernel
theorem dX3_shareByRounds_12 : decode cX3_shareByRounds 12 = .ok (.aload_n 0, 1) := by decide +kernel
theorem dX3_shareByRounds_13 : decode cX3_shareByRounds 13 = .ok (.getfield 10, 3) := by decide +kernel
theorem dX3_shareByRounds_16 : decode cX3_shareByRounds 16 = .ok (.iload_n 2, 1) := by decide +kernel
theorem dX3_shareByRounds_17 : decode cX3_shareByRounds 17 = .ok (.iload_n 1, 1) := by decide +kernel
theorem dX3_shareByRounds_18 : decode cX3_shareByRounds 18 = .ok (.invokevirtual 82, 3) := by decide +kernel
theorem dX3_shareByRounds_21 : decode cX3_shareByRounds 21 = .ok (.ireturn, 1) := by decide +kernel
set_option maxRecDepth 20000 in
theorem ggX3_group_X2_members : GoodIn wsX3_group wsX2_members := goodIn_r _ [5, 6, 7, 8, 3, 9, 10, 11, 12, 13, 14, 15, 16, 17, 18, 19, 26, 27, 28, 29, 30, 31] (by decide +kernel) (by decide +kernel)
set_option maxRecDepth 20000 in
theorem gX3_group_X2_members_n85 : GoodIn wsX3_group (wsX2_members) := ggX3_group_X2_members
theorem dX3_group_0 : decode cX3_group 0 = .ok (.aload_n 0, 1) := by decide +kernel
theorem dX3_group_1 : decode cX3_group 1 = .ok (.getfield 10, 3) := by decide +kernel
theorem dX3_group_4 : decode cX3_group 4 = .ok (.invokevirtual 85, 3) := by decide +kernel
theorem dX3_group_7 : decode cX3_group 7 = .ok (.ireturn, 1) := by decide +kernel
set_option maxRecDepth 20000 in
theorem ggX3_goodwill_X3_requireCompany : GoodIn wsX3_goodwill wsX3_requireCompany := goodIn_ca (goodIn_r _ [5, 6, 7, 4, 8, 9, 10] (by decide +kernel) (by decide +kernel)) (goodIn_sub (fun _ h => List.mem_cons_of_mem _ (List.mem_append_right _ h)) (by decide +kernel))
set_option maxRecDepth 20000 in
theorem gX3_goodwill_X3_requireCompany : GoodIn wsX3_goodwill (va_wsS RX3 71 yX3_requireCompany wsX3_requireCompany) := goodIn_app (goodIn_of _ (by decide +kernel)) ggX3_goodwill_X3_requireCompany
theorem dX3_goodwill_0 : decode cX3_goodwill 0 = .ok (.iload_n 1, 1) := by decide +kernel
theorem dX3_goodwill_1 : decode cX3_goodwill 1 = .ok (.invokestatic 71, 3) := by decide +kernel
theorem dX3_goodwill_4 : decode cX3_goodwill 4 = .ok (.aload_n 0, 1) := by decide +kernel
theorem dX3_goodwill_5 : decode cX3_goodwill 5 = .ok (.getfield 30, 3) := by decide +kernel
theorem dX3_goodwill_8 : decode cX3_goodwill 8 = .ok (.iload_n 1, 1) := by decide +kernel
theorem dX3_goodwill_9 : decode cX3_goodwill 9 = .ok (.iaload, 1) := by decide +kernel
theorem dX3_goodwill_10 : decode cX3_goodwill 10 = .ok (.ireturn, 1) := by decide +kernel
set_option maxRecDepth 20000 in
theorem ggX3_netValue_X3_requireCompany : GoodIn wsX3_netValue wsX3_requireCompany := goodIn_ca (goodIn_r _ [5, 6, 7, 4, 8, 9, 10] (by decide +kernel) (by decide +kernel)) (goodIn_sub (fun _ h => List.mem_cons_of_mem _ (List.mem_append_right _ h)) (by decide +kernel))
set_option maxRecDepth 20000 in
theorem gX3_netValue_X3_requireCompany : GoodIn wsX3_netValue (va_wsS RX3 71 yX3_requireCompany wsX3_requireCompany) := goodIn_app (goodIn_of _ (by decide +kernel)) ggX3_netValue_X3_requireCompany
set_option maxRecDepth 20000 in
theorem ggX3_netValue_X1_netOf : GoodIn wsX3_netValue wsX1_netOf := goodIn_r _ [14, 15, 16, 17, 12, 18, 19, 20, 21, 22, 23, 24, 25, 26, 27, 28, 29, 30, 31, 32, 39, 40, 41, 42, 43, 44, 45] (by decide +kernel) (by decide +kernel)
set_option maxRecDepth 20000 in
theorem gX3_netValue_X1_netOf_n62 : GoodIn wsX3_netValue (wsX1_netOf) := ggX3_netValue_X1_netOf
theorem dX3_netValue_0 : decode cX3_netValue 0 = .ok (.iload_n 1, 1) := by decide +kernel
theorem dX3_netValue_1 : decode cX3_netValue 1 = .ok (.invokestatic 71, 3) := by decide +kernel
theorem dX3_netValue_4 : decode cX3_netValue 4 = .ok (.aload_n 0, 1) := by decide +kernel
theorem dX3_netValue_5 : decode cX3_netValue 5 = .ok (.getfield 19, 3) := by decide +kernel
theorem dX3_netValue_8 : decode cX3_netValue 8 = .ok (.iload_n 1, 1) := by decide +kernel
theorem dX3_netValue_9 : decode cX3_netValue 9 = .ok (.invokevirtual 62, 3) := by decide +kernel
theorem dX3_netValue_12 : decode cX3_netValue 12 = .ok (.ireturn, 1) := by decide +kernel
set_option maxRecDepth 20000 in
theorem ggX3_translatedEquity_X3_requireCompany : GoodIn wsX3_translatedEquity wsX3_requireCompany := goodIn_ca (goodIn_r _ [5, 6, 7, 4, 8, 9, 10] (by decide +kernel) (by decide +kernel)) (goodIn_sub (fun _ h => List.mem_cons_of_mem _ (List.mem_append_right _ h)) (by decide +kernel))
set_option maxRecDepth 20000 in
theorem gX3_translatedEquity_X3_requireCompany : GoodIn wsX3_translatedEquity (va_wsS RX3 71 yX3_requireCompany wsX3_requireCompany) := goodIn_app (goodIn_of _ (by decide +kernel)) ggX3_translatedEquity_X3_requireCompany
set_option maxRecDepth 20000 in
theorem ggX3_translatedEquity_X1_equityOf : GoodIn wsX3_translatedEquity wsX1_equityOf := goodIn_r _ [14, 15, 16, 17, 18, 12, 19, 20, 21, 22, 23, 30, 31, 32, 33, 34, 35, 36] (by decide +kernel) (by decide +kernel)
set_option maxRecDepth 20000 in
theorem gX3_translatedEquity_X1_equityOf_n101 : GoodIn wsX3_translatedEquity (wsX1_equityOf) := ggX3_translatedEquity_X1_equityOf
theorem dX3_translatedEquity_0 : decode cX3_translatedEquity 0 = .ok (.iload_n 1, 1) := by decide +kernel
theorem dX3_translatedEquity_1 : decode cX3_translatedEquity 1 = .ok (.invokestatic 71, 3) := by decide +kernel
theorem dX3_translatedEquity_4 : decode cX3_translatedEquity 4 = .ok (.aload_n 0, 1) := by decide +kernel
theorem dX3_translatedEquity_5 : decode cX3_translatedEquity 5 = .ok (.getfield 19, 3) := by decide +kernel
theorem dX3_translatedEquity_8 : decode cX3_translatedEquity 8 = .ok (.iload_n 1, 1) := by decide +kernel
theorem dX3_translatedEquity_9 : decode cX3_translatedEquity 9 = .ok (.invokevirtual 101, 3) := by decide +kernel
theorem dX3_translatedEquity_12 : decode cX3_translatedEquity 12 = .ok (.ireturn, 1) := by decide +kernel
set_option maxRecDepth 20000 in
theorem ggX3_translatedResult_X3_requireCompany : GoodIn wsX3_translatedResult wsX3_requireCompany := goodIn_ca (goodIn_r _ [5, 6, 7, 4, 8, 9, 10] (by decide +kernel) (by decide +kernel)) (goodIn_sub (fun _ h => List.mem_cons_of_mem _ (List.mem_append_right _ h)) (by decide +kernel))
set_option maxRecDepth 20000 in
theorem gX3_translatedResult_X3_requireCompany : GoodIn wsX3_translatedResult (va_wsS RX3 71 yX3_requireCompany wsX3_requireCompany) := goodIn_app (goodIn_of _ (by decide +kernel)) ggX3_translatedResult_X3_requireCompany
set_option maxRecDepth 20000 in
theorem ggX3_translatedResult_X1_profitOf : GoodIn wsX3_translatedResult wsX1_profitOf := goodIn_r _ [14, 15, 16, 17, 18, 12, 19, 20, 21, 22, 23, 30, 31, 32, 33, 34, 35, 36] (by decide +kernel) (by decide +kernel)
set_option maxRecDepth 20000 in
theorem gX3_translatedResult_X1_profitOf_n104 : GoodIn wsX3_translatedResult (wsX1_profitOf) := ggX3_translatedResult_X1_profitOf
theorem dX3_translatedResult_0 : decode cX3_translatedResult 0 = .ok (.iload_n 1, 1) := by decide +kernel
theorem dX3_translatedResult_1 : decode cX3_translatedResult 1 = .ok (.invokestatic 71, 3) := by decide +kernel
theorem dX3_translatedResult_4 : decode cX3_translatedResult 4 = .ok (.aload_n 0, 1) := by decide +kernel
theorem dX3_translatedResult_5 : decode cX3_translatedResult 5 = .ok (.getfield 19, 3) := by decide +kernel
theorem dX3_translatedResult_8 : decode cX3_translatedResult 8 = .ok (.iload_n 1, 1) := by decide +kernel
theorem dX3_translatedResult_9 : decode cX3_translatedResult 9 = .ok (.invokevirtual 104, 3) := by decide +kernel
theorem dX3_translatedResult_12 : decode cX3_translatedResult 12 = .ok (.ireturn, 1) := by decide +kernel
set_option maxRecDepth 20000 in
theorem ggX3_reserve_X3_requireCompany : GoodIn wsX3_reserve wsX3_requireCompany := goodIn_ca (goodIn_r _ [5, 6, 7, 4, 8, 9, 10] (by decide +kernel) (by decide +kernel)) (goodIn_sub (fun _ h => List.mem_cons_of_mem _ (List.mem_append_right _ h)) (by decide +kernel))
set_option maxRecDepth 20000 in
theorem gX3_reserve_X3_requireCompany : GoodIn wsX3_reserve (va_wsS RX3 71 yX3_requireCompany wsX3_requireCompany) := goodIn_app (goodIn_of _ (by decide +kernel)) ggX3_reserve_X3_requireCompany
set_option maxRecDepth 20000 in
theorem ggX3_reserve_X1_netOf : GoodIn wsX3_reserve wsX1_netOf := goodIn_r _ [14, 15, 16, 17, 12, 18, 19, 20, 21, 22, 23, 24, 25, 26, 27, 28, 29, 30, 31, 32, 49, 50, 51, 52, 53, 54, 55] (by decide +kernel) (by decide +kernel)
set_option maxRecDepth 20000 in
theorem gX3_reserve_X1_netOf_n62 : GoodIn wsX3_reserve (wsX1_netOf) := ggX3_reserve_X1_netOf
set_option maxRecDepth 20000 in
theorem ggX3_reserve_X1_equityOf : GoodIn wsX3_reserve wsX1_equityOf := goodIn_r _ [35, 36, 37, 21, 22, 12, 23, 24, 25, 26, 27, 49, 50, 51, 52, 53, 54, 55] (by decide +kernel) (by decide +kernel)
set_option maxRecDepth 20000 in
theorem gX3_reserve_X1_equityOf_n101 : GoodIn wsX3_reserve (wsX1_equityOf) := ggX3_reserve_X1_equityOf
set_option maxRecDepth 20000 in
theorem ggX3_reserve_X1_profitOf : GoodIn wsX3_reserve wsX1_profitOf := goodIn_r _ [40, 41, 42, 21, 22, 12, 23, 24, 25, 26, 27, 49, 50, 51, 52, 53, 54, 55] (by decide +kernel) (by decide +kernel)
set_option maxRecDepth 20000 in
theorem gX3_reserve_X1_profitOf_n104 : GoodIn wsX3_reserve (wsX1_profitOf) := ggX3_reserve_X1_profitOf
theorem dX3_reserve_0 : decode cX3_reserve 0 = .ok (.iload_n 1, 1) := by decide +kernel
theorem dX3_reserve_1 : decode cX3_reserve 1 = .ok (.invokestatic 71, 3) := by decide +kernel
theorem dX3_reserve_4 : decode cX3_reserve 4 = .ok (.aload_n 0, 1) := by decide +kernel
theorem dX3_reserve_5 : decode cX3_reserve 5 = .ok (.getfield 19, 3) := by decide +kernel
theorem dX3_reserve_8 : decode cX3_reserve 8 = .ok (.iload_n 1, 1) := by decide +kernel
theorem dX3_reserve_9 : decode cX3_reserve 9 = .ok (.invokevirtual 62, 3) := by decide +kernel
theorem dX3_reserve_12 : decode cX3_reserve 12 = .ok (.aload_n 0, 1) := by decide +kernel
theorem dX3_reserve_13 : decode cX3_reserve 13 = .ok (.getfield 19, 3) := by decide +kernel
theorem dX3_reserve_16 : decode cX3_reserve 16 = .ok (.iload_n 1, 1) := by decide +kernel
theorem dX3_reserve_17 : decode cX3_reserve 17 = .ok (.invokevirtual 101, 3) := by decide +kernel
theorem dX3_reserve_20 : decode cX3_reserve 20 = .ok (.isub, 1) := by decide +kernel
theorem dX3_reserve_21 : decode cX3_reserve 21 = .ok (.aload_n 0, 1) := by decide +kernel
theorem dX3_reserve_22 : decode cX3_reserve 22 = .ok (.getfield 19, 3) := by decide +kernel
theorem dX3_reserve_25 : decode cX3_reserve 25 = .ok (.iload_n 1, 1) := by decide +kernel
theorem dX3_reserve_26 : decode cX3_reserve 26 = .ok (.invokevirtual 104, 3) := by decide +kernel
theorem dX3_reserve_29 : decode cX3_reserve 29 = .ok (.isub, 1) := by decide +kernel
theorem dX3_reserve_30 : decode cX3_reserve 30 = .ok (.ireturn, 1) := by decide +kernel
set_option maxRecDepth 20000 in
theorem ggX3_difference_X3_requireTwoCompanies : GoodIn wsX3_difference wsX3_requireTwoCompanies := goodIn_ca (goodIn_r _ [5, 6, 7, 8, 9, 4, 10, 11, 12, 13] (by decide +kernel) (by decide +kernel)) (goodIn_sub (fun _ h => List.mem_cons_of_mem _ (List.mem_append_right _ h)) (by decide +kernel))
set_option maxRecDepth 20000 in
theorem gX3_difference_X3_requireTwoCompanies : GoodIn wsX3_difference (va_wsS RX3 41 yX3_requireTwoCompanies wsX3_requireTwoCompanies) := goodIn_app (goodIn_of _ (by decide +kernel)) ggX3_difference_X3_requireTwoCompanies
set_option maxRecDepth 20000 in
theorem ggX3_difference_X0_disputed : GoodIn wsX3_difference wsX0_disputed := goodIn_r _ [17, 18, 19, 20, 4, 21, 28, 29] (by decide +kernel) (by decide +kernel)
set_option maxRecDepth 20000 in
theorem gX3_difference_X0_disputed_n114 : GoodIn wsX3_difference (wsX0_disputed) := ggX3_difference_X0_disputed
theorem dX3_difference_0 : decode cX3_difference 0 = .ok (.iload_n 1, 1) := by decide +kernel
theorem dX3_difference_1 : decode cX3_difference 1 = .ok (.iload_n 2, 1) := by decide +kernel
theorem dX3_difference_2 : decode cX3_difference 2 = .ok (.invokestatic 41, 3) := by decide +kernel
theorem dX3_difference_5 : decode cX3_difference 5 = .ok (.aload_n 0, 1) := by decide +kernel
theorem dX3_difference_6 : decode cX3_difference 6 = .ok (.getfield 26, 3) := by decide +kernel
theorem dX3_difference_9 : decode cX3_difference 9 = .ok (.iload_n 1, 1) := by decide +kernel
theorem dX3_difference_10 : decode cX3_difference 10 = .ok (.iload_n 2, 1) := by decide +kernel
theorem dX3_difference_11 : decode cX3_difference 11 = .ok (.invokevirtual 114, 3) := by decide +kernel
theorem dX3_difference_14 : decode cX3_difference 14 = .ok (.ireturn, 1) := by decide +kernel
set_option maxRecDepth 20000 in
theorem ggX3_eliminated_X2_members : GoodIn wsX3_eliminated wsX2_members := goodIn_r _ [6, 7, 8, 9, 4, 10, 11, 12, 13, 14, 15, 16, 17, 18, 19, 20, 37, 38, 39, 40, 41, 42] (by decide +kernel) (by decide +kernel)
set_option maxRecDepth 20000 in
theorem gX3_eliminated_X2_members_n85 : GoodIn wsX3_eliminated (wsX2_members) := ggX3_eliminated_X2_members
set_option maxRecDepth 20000 in
theorem ggX3_eliminated_X0_agreedAmong : GoodIn wsX3_eliminated wsX0_agreedAmong := goodIn_r _ [24, 25, 26, 27, 28, 29, 30, 16, 17, 18, 19, 20, 43, 44] (by decide +kernel) (by decide +kernel)
set_option maxRecDepth 20000 in
theorem gX3_eliminated_X0_agreedAmong_n117 : GoodIn wsX3_eliminated (wsX0_agreedAmong) := ggX3_eliminated_X0_agreedAmong
theorem dX3_eliminated_0 : decode cX3_eliminated 0 = .ok (.aload_n 0, 1) := by decide +kernel
theorem dX3_eliminated_1 : decode cX3_eliminated 1 = .ok (.getfield 26, 3) := by decide +kernel
theorem dX3_eliminated_4 : decode cX3_eliminated 4 = .ok (.aload_n 0, 1) := by decide +kernel
theorem dX3_eliminated_5 : decode cX3_eliminated 5 = .ok (.getfield 10, 3) := by decide +kernel
theorem dX3_eliminated_8 : decode cX3_eliminated 8 = .ok (.invokevirtual 85, 3) := by decide +kernel
theorem dX3_eliminated_11 : decode cX3_eliminated 11 = .ok (.invokevirtual 117, 3) := by decide +kernel
theorem dX3_eliminated_14 : decode cX3_eliminated 14 = .ok (.ireturn, 1) := by decide +kernel
set_option maxRecDepth 20000 in
theorem ggX3_assets_X2_members : GoodIn wsX3_assets wsX2_members := goodIn_r _ [7, 8, 9, 10, 5, 11, 12, 13, 14, 15, 16, 17, 18, 19, 20, 21, 52, 53, 54, 55, 56, 57] (by decide +kernel) (by decide +kernel)
set_option maxRecDepth 20000 in
theorem gX3_assets_X2_members_n85 : GoodIn wsX3_assets (wsX2_members) := ggX3_assets_X2_members
set_option maxRecDepth 20000 in
theorem ggX3_assets_X3_isMember : GoodIn wsX3_assets wsX3_isMember := goodIn_r _ [19] (by decide +kernel) (by decide +kernel)
set_option maxRecDepth 20000 in
theorem gX3_assets_X3_isMember : GoodIn wsX3_assets (va_wsS RX3 120 yX3_isMember wsX3_isMember) := goodIn_app (goodIn_of _ (by decide +kernel)) ggX3_assets_X3_isMember
set_option maxRecDepth 20000 in
theorem ggX3_assets_X1_assetsOf : GoodIn wsX3_assets wsX1_assetsOf := goodIn_r _ [26, 27, 28, 29, 30, 24, 31, 32, 33, 34, 35, 58, 59, 60, 61, 62, 63, 64] (by decide +kernel) (by decide +kernel)
set_option maxRecDepth 20000 in
theorem gX3_assets_X1_assetsOf_n124 : GoodIn wsX3_assets (wsX1_assetsOf) := ggX3_assets_X1_assetsOf
set_option maxRecDepth 20000 in
theorem ggX3_assets_X0_agreedAmong : GoodIn wsX3_assets wsX0_agreedAmong := goodIn_r _ [39, 40, 41, 42, 43, 44, 45, 17, 18, 19, 20, 21, 65, 66] (by decide +kernel) (by decide +kernel)
set_option maxRecDepth 20000 in
theorem gX3_assets_X0_agreedAmong_n117 : GoodIn wsX3_assets (wsX0_agreedAmong) := ggX3_assets_X0_agreedAmong
theorem dX3_assets_0 : decode cX3_assets 0 = .ok (.aload_n 0, 1) := by decide +kernel
theorem dX3_assets_1 : decode cX3_assets 1 = .ok (.getfield 10, 3) := by decide +kernel
theorem dX3_assets_4 : decode cX3_assets 4 = .ok (.invokevirtual 85, 3) := by decide +kernel
theorem dX3_assets_7 : decode cX3_assets 7 = .ok (.istore_n 1, 1) := by decide +kernel
theorem dX3_assets_8 : decode cX3_assets 8 = .ok (.iconst 0, 1) := by decide +kernel
theorem dX3_assets_9 : decode cX3_assets 9 = .ok (.istore_n 2, 1) := by decide +kernel
theorem dX3_assets_10 : decode cX3_assets 10 = .ok (.iconst 0, 1) := by decide +kernel
theorem dX3_assets_11 : decode cX3_assets 11 = .ok (.istore_n 3, 1) := by decide +kernel
theorem dX3_assets_12 : decode cX3_assets 12 = .ok (.iload_n 3, 1) := by decide +kernel
theorem dX3_assets_13 : decode cX3_assets 13 = .ok (.bipush 6, 2) := by decide +kernel
theorem dX3_assets_15 : decode cX3_assets 15 = .ok (.if_icmp .ge 28, 3) := by decide +kernel
theorem dX3_assets_18 : decode cX3_assets 18 = .ok (.iload_n 1, 1) := by decide +kernel
theorem dX3_assets_19 : decode cX3_assets 19 = .ok (.iload_n 3, 1) := by decide +kernel
theorem dX3_assets_20 : decode cX3_assets 20 = .ok (.invokestatic 120, 3) := by decide +kernel
theorem dX3_assets_23 : decode cX3_assets 23 = .ok (.ifCond .eq 14, 3) := by decide +kernel
theorem dX3_assets_26 : decode cX3_assets 26 = .ok (.iload_n 2, 1) := by decide +kernel
theorem dX3_assets_27 : decode cX3_assets 27 = .ok (.aload_n 0, 1) := by decide +kernel
theorem dX3_assets_28 : decode cX3_assets 28 = .ok (.getfield 19, 3) := by decide +kernel
theorem dX3_assets_31 : decode cX3_assets 31 = .ok (.iload_n 3, 1) := by decide +kernel
theorem dX3_assets_32 : decode cX3_assets 32 = .ok (.invokevirtual 124, 3) := by decide +kernel
theorem dX3_assets_35 : decode cX3_assets 35 = .ok (.iadd, 1) := by decide +kernel
theorem dX3_assets_36 : decode cX3_assets 36 = .ok (.istore_n 2, 1) := by decide +kernel
theorem dX3_assets_37 : decode cX3_assets 37 = .ok (.iinc 3 1, 3) := by decide +kernel
theorem dX3_assets_40 : decode cX3_assets 40 = .ok (.goto (-28), 3) := by decide +kernel
theorem dX3_assets_43 : decode cX3_assets 43 = .ok (.iload_n 2, 1) := by decide +kernel
theorem dX3_assets_44 : decode cX3_assets 44 = .ok (.aload_n 0, 1) := by decide +kernel
theorem dX3_assets_45 : decode cX3_assets 45 = .ok (.getfield 26, 3) := by decide +kernel
theorem dX3_assets_48 : decode cX3_assets 48 = .ok (.iload_n 1, 1) := by decide +kernel
theorem dX3_assets_49 : decode cX3_assets 49 = .ok (.invokevirtual 117, 3) := by decide +kernel
theorem dX3_assets_52 : decode cX3_assets 52 = .ok (.isub, 1) := by decide +kernel
theorem dX3_assets_53 : decode cX3_assets 53 = .ok (.ireturn, 1) := by decide +kernel
set_option maxRecDepth 20000 in
theorem ggX3_debts_X2_members : GoodIn wsX3_debts wsX2_members := goodIn_r _ [7, 8, 9, 10, 5, 11, 12, 13, 14, 15, 16, 17, 18, 19, 20, 21, 52, 53, 54, 55, 56, 57] (by decide +kernel) (by decide +kernel)
set_option maxRecDepth 20000 in
theorem gX3_debts_X2_members_n85 : GoodIn wsX3_debts (wsX2_members) := ggX3_debts_X2_members
set_option maxRecDepth 20000 in
theorem ggX3_debts_X3_isMember : GoodIn wsX3_debts wsX3_isMember := goodIn_r _ [19] (by decide +kernel) (by decide +kernel)
set_option maxRecDepth 20000 in
theorem gX3_debts_X3_isMember : GoodIn wsX3_debts (va_wsS RX3 120 yX3_isMember wsX3_isMember) := goodIn_app (goodIn_of _ (by decide +kernel)) ggX3_debts_X3_isMember
set_option maxRecDepth 20000 in
theorem ggX3_debts_X1_debtsOf : GoodIn wsX3_debts wsX1_debtsOf := goodIn_r _ [26, 27, 28, 29, 30, 24, 31, 32, 33, 34, 35, 58, 59, 60, 61, 62, 63, 64] (by decide +kernel) (by decide +kernel)
set_option maxRecDepth 20000 in
theorem gX3_debts_X1_debtsOf_n127 : GoodIn wsX3_debts (wsX1_debtsOf) := ggX3_debts_X1_debtsOf
set_option maxRecDepth 20000 in
theorem ggX3_debts_X0_agreedAmong : GoodIn wsX3_debts wsX0_agreedAmong := goodIn_r _ [39, 40, 41, 42, 43, 44, 45, 17, 18, 19, 20, 21, 65, 66] (by decide +kernel) (by decide +kernel)
set_option maxRecDepth 20000 in
theorem gX3_debts_X0_agreedAmong_n117 : GoodIn wsX3_debts (wsX0_agreedAmong) := ggX3_debts_X0_agreedAmong
theorem dX3_debts_0 : decode cX3_debts 0 = .ok (.aload_n 0, 1) := by decide +kernel
theorem dX3_debts_1 : decode cX3_debts 1 = .ok (.getfield 10, 3) := by decide +kernel
theorem dX3_debts_4 : decode cX3_debts 4 = .ok (.invokevirtual 85, 3) := by decide +kernel
theorem dX3_debts_7 : decode cX3_debts 7 = .ok (.istore_n 1, 1) := by decide +kernel
theorem dX3_debts_8 : decode cX3_debts 8 = .ok (.iconst 0, 1) := by decide +kernel
theorem dX3_debts_9 : decode cX3_debts 9 = .ok (.istore_n 2, 1) := by decide +kernel
theorem dX3_debts_10 : decode cX3_debts 10 = .ok (.iconst 0, 1) := by decide +kernel
theorem dX3_debts_11 : decode cX3_debts 11 = .ok (.istore_n 3, 1) := by decide +kernel
theorem dX3_debts_12 : decode cX3_debts 12 = .ok (.iload_n 3, 1) := by decide +kernel
theorem dX3_debts_13 : decode cX3_debts 13 = .ok (.bipush 6, 2) := by decide +kernel
theorem dX3_debts_15 : decode cX3_debts 15 = .ok (.if_icmp .ge 28, 3) := by decide +kernel
theorem dX3_debts_18 : decode cX3_debts 18 = .ok (.iload_n 1, 1) := by decide +kernel
theorem dX3_debts_19 : decode cX3_debts 19 = .ok (.iload_n 3, 1) := by decide +kernel
theorem dX3_debts_20 : decode cX3_debts 20 = .ok (.invokestatic 120, 3) := by decide +kernel
theorem dX3_debts_23 : decode cX3_debts 23 = .ok (.ifCond .eq 14, 3) := by decide +kernel
theorem dX3_debts_26 : decode cX3_debts 26 = .ok (.iload_n 2, 1) := by decide +kernel
theorem dX3_debts_27 : decode cX3_debts 27 = .ok (.aload_n 0, 1) := by decide +kernel
theorem dX3_debts_28 : decode cX3_debts 28 = .ok (.getfield 19, 3) := by decide +kernel
theorem dX3_debts_31 : decode cX3_debts 31 = .ok (.iload_n 3, 1) := by decide +kernel
theorem dX3_debts_32 : decode cX3_debts 32 = .ok (.invokevirtual 127, 3) := by decide +kernel
theorem dX3_debts_35 : decode cX3_debts 35 = .ok (.iadd, 1) := by decide +kernel
theorem dX3_debts_36 : decode cX3_debts 36 = .ok (.istore_n 2, 1) := by decide +kernel
theorem dX3_debts_37 : decode cX3_debts 37 = .ok (.iinc 3 1, 3) := by decide +kernel
theorem dX3_debts_40 : decode cX3_debts 40 = .ok (.goto (-28), 3) := by decide +kernel
theorem dX3_debts_43 : decode cX3_debts 43 = .ok (.iload_n 2, 1) := by decide +kernel
theorem dX3_debts_44 : decode cX3_debts 44 = .ok (.aload_n 0, 1) := by decide +kernel
theorem dX3_debts_45 : decode cX3_debts 45 = .ok (.getfield 26, 3) := by decide +kernel
theorem dX3_debts_48 : decode cX3_debts 48 = .ok (.iload_n 1, 1) := by decide +kernel
theorem dX3_debts_49 : decode cX3_debts 49 = .ok (.invokevirtual 117, 3) := by decide +kernel
theorem dX3_debts_52 : decode cX3_debts 52 = .ok (.isub, 1) := by decide +kernel
theorem dX3_debts_53 : decode cX3_debts 53 = .ok (.ireturn, 1) := by decide +kernel
set_option maxRecDepth 20000 in
theorem ggX3_minority_X3_requireCompany : GoodIn wsX3_minority wsX3_requireCompany := goodIn_ca (goodIn_r _ [5, 6, 7, 4, 8, 9, 10] (by decide +kernel) (by decide +kernel)) (goodIn_sub (fun _ h => List.mem_cons_of_mem _ (List.mem_append_right _ h)) (by decide +kernel))
set_option maxRecDepth 20000 in
theorem gX3_minority_X3_requireCompany : GoodIn wsX3_minority (va_wsS RX3 71 yX3_requireCompany wsX3_requireCompany) := goodIn_app (goodIn_of _ (by decide +kernel)) ggX3_minority_X3_requireCompany
set_option maxRecDepth 20000 in
theorem ggX3_minority_X2_members : GoodIn wsX3_minority wsX2_members := goodIn_r _ [14, 15, 16, 17, 12, 18, 19, 20, 21, 22, 23, 24, 4, 25, 26, 27, 73, 74, 75, 76, 77, 78] (by decide +kernel) (by decide +kernel)
set_option maxRecDepth 20000 in
theorem gX3_minority_X2_members_n85 : GoodIn wsX3_minority (wsX2_members) := ggX3_minority_X2_members
set_option maxRecDepth 20000 in
theorem ggX3_minority_X3_minorityAmong : GoodIn wsX3_minority wsX3_minorityAmong := goodIn_r _ [31, 1, 32, 33, 24, 4, 25, 34, 35, 36, 37, 38, 39, 40, 41, 42, 43, 44, 45, 46, 47, 48, 49, 50, 51, 52, 53, 54, 55, 56, 12, 57, 58, 59, 60, 61, 62, 63, 64, 65, 66, 67, 68, 69, 70, 71, 72, 79, 80, 81, 82, 83, 84, 85, 73, 74, 75, 76, 77, 78] (by decide +kernel) (by decide +kernel)
set_option maxRecDepth 20000 in
theorem gX3_minority_X3_minorityAmong : GoodIn wsX3_minority (wsV RX3 130 RX3 yX3_minorityAmong wsX3_minorityAmong) := goodIn_app (goodIn_of _ (by decide +kernel)) ggX3_minority_X3_minorityAmong
theorem dX3_minority_0 : decode cX3_minority 0 = .ok (.iload_n 1, 1) := by decide +kernel
theorem dX3_minority_1 : decode cX3_minority 1 = .ok (.invokestatic 71, 3) := by decide +kernel
theorem dX3_minority_4 : decode cX3_minority 4 = .ok (.aload_n 0, 1) := by decide +kernel
theorem dX3_minority_5 : decode cX3_minority 5 = .ok (.aload_n 0, 1) := by decide +kernel
theorem dX3_minority_6 : decode cX3_minority 6 = .ok (.getfield 10, 3) := by decide +kernel
theorem dX3_minority_9 : decode cX3_minority 9 = .ok (.invokevirtual 85, 3) := by decide +kernel
theorem dX3_minority_12 : decode cX3_minority 12 = .ok (.iload_n 1, 1) := by decide +kernel
theorem dX3_minority_13 : decode cX3_minority 13 = .ok (.invokevirtual 130, 3) := by decide +kernel
theorem dX3_minority_16 : decode cX3_minority 16 = .ok (.ireturn, 1) := by decide +kernel
set_option maxRecDepth 20000 in
theorem ggX3_equity_X2_members : GoodIn wsX3_equity wsX2_members := goodIn_r _ [5, 6, 7, 8, 3, 9, 10, 11, 12, 13, 14, 15, 16, 17, 18, 19, 84, 85, 86, 87, 88, 89] (by decide +kernel) (by decide +kernel)
set_option maxRecDepth 20000 in
theorem gX3_equity_X2_members_n85 : GoodIn wsX3_equity (wsX2_members) := ggX3_equity_X2_members
set_option maxRecDepth 20000 in
theorem ggX3_equity_X3_minorityAmong : GoodIn wsX3_equity wsX3_minorityAmong := goodIn_r _ [23, 1, 24, 25, 15, 16, 17, 26, 27, 28, 29, 30, 31, 32, 33, 34, 35, 36, 37, 38, 39, 40, 41, 42, 43, 44, 45, 46, 47, 48, 3, 49, 50, 51, 52, 53, 54, 55, 56, 57, 58, 78, 79, 80, 81, 82, 83, 90, 91, 92, 93, 94, 95, 96, 84, 85, 86, 87, 88, 89] (by decide +kernel) (by decide +kernel)
set_option maxRecDepth 20000 in
theorem gX3_equity_X3_minorityAmong : GoodIn wsX3_equity (wsV RX3 130 RX3 yX3_minorityAmong wsX3_minorityAmong) := goodIn_app (goodIn_of _ (by decide +kernel)) ggX3_equity_X3_minorityAmong
set_option maxRecDepth 20000 in
theorem ggX3_equity_X3_assets : GoodIn wsX3_equity wsX3_assets := goodIn_r _ [62, 1, 24, 63, 2, 3, 4, 5, 6, 7, 8, 9, 10, 11, 12, 13, 14, 15, 16, 17, 18, 19, 25, 31, 27, 32, 33, 34, 35, 36, 37, 38, 39, 40, 41, 42, 64, 65, 66, 67, 68, 69, 70, 71, 72, 73, 78, 79, 80, 81, 82, 83, 84, 85, 86, 87, 88, 89, 90, 91, 92, 93, 94, 95, 96, 97, 98] (by decide +kernel) (by decide +kernel)
set_option maxRecDepth 20000 in
theorem gX3_equity_X3_assets : GoodIn wsX3_equity (wsV RX3 133 RX3 yX3_assets wsX3_assets) := goodIn_app (goodIn_of _ (by decide +kernel)) ggX3_equity_X3_assets
set_option maxRecDepth 20000 in
theorem ggX3_equity_X3_debts : GoodIn wsX3_equity wsX3_debts := goodIn_r _ [77, 1, 24, 63, 2, 3, 4, 5, 6, 7, 8, 9, 10, 11, 12, 13, 14, 15, 16, 17, 18, 19, 25, 44, 27, 45, 46, 47, 35, 36, 37, 38, 39, 40, 41, 42, 64, 65, 66, 67, 68, 69, 70, 71, 72, 73, 78, 79, 80, 81, 82, 83, 84, 85, 86, 87, 88, 89, 90, 91, 92, 93, 94, 95, 96, 97, 98] (by decide +kernel) (by decide +kernel)
set_option maxRecDepth 20000 in
theorem gX3_equity_X3_debts : GoodIn wsX3_equity (wsV RX3 136 RX3 yX3_debts wsX3_debts) := goodIn_app (goodIn_of _ (by decide +kernel)) ggX3_equity_X3_debts
theorem dX3_equity_0 : decode cX3_equity 0 = .ok (.aload_n 0, 1) := by decide +kernel
theorem dX3_equity_1 : decode cX3_equity 1 = .ok (.getfield 10, 3) := by decide +kernel
theorem dX3_equity_4 : decode cX3_equity 4 = .ok (.invokevirtual 85, 3) := by decide +kernel
theorem dX3_equity_7 : decode cX3_equity 7 = .ok (.istore_n 1, 1) := by decide +kernel
theorem dX3_equity_8 : decode cX3_equity 8 = .ok (.iconst 0, 1) := by decide +kernel
theorem dX3_equity_9 : decode cX3_equity 9 = .ok (.istore_n 2, 1) := by decide +kernel
theorem dX3_equity_10 : decode cX3_equity 10 = .ok (.iconst 0, 1) := by decide +kernel
theorem dX3_equity_11 : decode cX3_equity 11 = .ok (.istore_n 3, 1) := by decide +kernel
theorem dX3_equity_12 : decode cX3_equity 12 = .ok (.iload_n 3, 1) := by decide +kernel
theorem dX3_equity_13 : decode cX3_equity 13 = .ok (.bipush 6, 2) := by decide +kernel
theorem dX3_equity_15 : decode cX3_equity 15 = .ok (.if_icmp .ge 18, 3) := by decide +kernel
theorem dX3_equity_18 : decode cX3_equity 18 = .ok (.iload_n 2, 1) := by decide +kernel
theorem dX3_equity_19 : decode cX3_equity 19 = .ok (.aload_n 0, 1) := by decide +kernel
theorem dX3_equity_20 : decode cX3_equity 20 = .ok (.iload_n 1, 1) := by decide +kernel
theorem dX3_equity_21 : decode cX3_equity 21 = .ok (.iload_n 3, 1) := by decide +kernel
theorem dX3_equity_22 : decode cX3_equity 22 = .ok (.invokevirtual 130, 3) := by decide +kernel
theorem dX3_equity_25 : decode cX3_equity 25 = .ok (.iadd, 1) := by decide +kernel
theorem dX3_equity_26 : decode cX3_equity 26 = .ok (.istore_n 2, 1) := by decide +kernel
theorem dX3_equity_27 : decode cX3_equity 27 = .ok (.iinc 3 1, 3) := by decide +kernel
theorem dX3_equity_30 : decode cX3_equity 30 = .ok (.goto (-18), 3) := by decide +kernel
theorem dX3_equity_33 : decode cX3_equity 33 = .ok (.aload_n 0, 1) := by decide +kernel
theorem dX3_equity_34 : decode cX3_equity 34 = .ok (.invokevirtual 133, 3) := by decide +kernel
theorem dX3_equity_37 : decode cX3_equity 37 = .ok (.aload_n 0, 1) := by decide +kernel
theorem dX3_equity_38 : decode cX3_equity 38 = .ok (.invokevirtual 136, 3) := by decide +kernel
theorem dX3_equity_41 : decode cX3_equity 41 = .ok (.isub, 1) := by decide +kernel
theorem dX3_equity_42 : decode cX3_equity 42 = .ok (.iload_n 2, 1) := by decide +kernel
theorem dX3_equity_43 : decode cX3_equity 43 = .ok (.isub, 1) := by decide +kernel
theorem dX3_equity_44 : decode cX3_equity 44 = .ok (.ireturn, 1) := by decide +kernel
set_option maxRecDepth 20000 in
theorem ggX3_result_X2_members : GoodIn wsX3_result wsX2_members := goodIn_r _ [6, 7, 8, 9, 4, 10, 11, 12, 13, 14, 15, 16, 17, 18, 19, 20, 52, 53, 54, 55, 56, 57] (by decide +kernel) (by decide +kernel)
set_option maxRecDepth 20000 in
theorem gX3_result_X2_members_n85 : GoodIn wsX3_result (wsX2_members) := ggX3_result_X2_members
set_option maxRecDepth 20000 in
theorem ggX3_result_X3_isMember : GoodIn wsX3_result wsX3_isMember := goodIn_r _ [18] (by decide +kernel) (by decide +kernel)
set_option maxRecDepth 20000 in
theorem gX3_result_X3_isMember : GoodIn wsX3_result (va_wsS RX3 120 yX3_isMember wsX3_isMember) := goodIn_app (goodIn_of _ (by decide +kernel)) ggX3_result_X3_isMember
set_option maxRecDepth 20000 in
theorem ggX3_result_X1_profitOf : GoodIn wsX3_result wsX1_profitOf := goodIn_r _ [25, 26, 27, 28, 29, 23, 30, 31, 32, 33, 34, 58, 59, 60, 61, 62, 63, 64] (by decide +kernel) (by decide +kernel)
set_option maxRecDepth 20000 in
theorem gX3_result_X1_profitOf_n104 : GoodIn wsX3_result (wsX1_profitOf) := ggX3_result_X1_profitOf
set_option maxRecDepth 20000 in
theorem ggX3_result_X2_partOfParent : GoodIn wsX3_result wsX2_partOfParent := goodIn_r _ [37, 38, 39, 40, 41, 4, 42, 43, 44, 33, 45, 52, 53, 54, 55, 56, 57] (by decide +kernel) (by decide +kernel)
set_option maxRecDepth 20000 in
theorem gX3_result_X2_partOfParent_n139 : GoodIn wsX3_result (wsX2_partOfParent) := ggX3_result_X2_partOfParent
theorem dX3_result_0 : decode cX3_result 0 = .ok (.aload_n 0, 1) := by decide +kernel
theorem dX3_result_1 : decode cX3_result 1 = .ok (.getfield 10, 3) := by decide +kernel
theorem dX3_result_4 : decode cX3_result 4 = .ok (.invokevirtual 85, 3) := by decide +kernel
theorem dX3_result_7 : decode cX3_result 7 = .ok (.istore_n 1, 1) := by decide +kernel
theorem dX3_result_8 : decode cX3_result 8 = .ok (.iconst 0, 1) := by decide +kernel
theorem dX3_result_9 : decode cX3_result 9 = .ok (.istore_n 2, 1) := by decide +kernel
theorem dX3_result_10 : decode cX3_result 10 = .ok (.iconst 0, 1) := by decide +kernel
theorem dX3_result_11 : decode cX3_result 11 = .ok (.istore_n 3, 1) := by decide +kernel
theorem dX3_result_12 : decode cX3_result 12 = .ok (.iload_n 3, 1) := by decide +kernel
theorem dX3_result_13 : decode cX3_result 13 = .ok (.bipush 6, 2) := by decide +kernel
theorem dX3_result_15 : decode cX3_result 15 = .ok (.if_icmp .ge 36, 3) := by decide +kernel
theorem dX3_result_18 : decode cX3_result 18 = .ok (.iload_n 1, 1) := by decide +kernel
theorem dX3_result_19 : decode cX3_result 19 = .ok (.iload_n 3, 1) := by decide +kernel
theorem dX3_result_20 : decode cX3_result 20 = .ok (.invokestatic 120, 3) := by decide +kernel
theorem dX3_result_23 : decode cX3_result 23 = .ok (.ifCond .eq 22, 3) := by decide +kernel
theorem dX3_result_26 : decode cX3_result 26 = .ok (.iload_n 2, 1) := by decide +kernel
theorem dX3_result_27 : decode cX3_result 27 = .ok (.aload_n 0, 1) := by decide +kernel
theorem dX3_result_28 : decode cX3_result 28 = .ok (.getfield 10, 3) := by decide +kernel
theorem dX3_result_31 : decode cX3_result 31 = .ok (.iload_n 3, 1) := by decide +kernel
theorem dX3_result_32 : decode cX3_result 32 = .ok (.aload_n 0, 1) := by decide +kernel
theorem dX3_result_33 : decode cX3_result 33 = .ok (.getfield 19, 3) := by decide +kernel
theorem dX3_result_36 : decode cX3_result 36 = .ok (.iload_n 3, 1) := by decide +kernel
theorem dX3_result_37 : decode cX3_result 37 = .ok (.invokevirtual 104, 3) := by decide +kernel
theorem dX3_result_40 : decode cX3_result 40 = .ok (.invokevirtual 139, 3) := by decide +kernel
theorem dX3_result_43 : decode cX3_result 43 = .ok (.iadd, 1) := by decide +kernel
theorem dX3_result_44 : decode cX3_result 44 = .ok (.istore_n 2, 1) := by decide +kernel
theorem dX3_result_45 : decode cX3_result 45 = .ok (.iinc 3 1, 3) := by decide +kernel
theorem dX3_result_48 : decode cX3_result 48 = .ok (.goto (-36), 3) := by decide +kernel
theorem dX3_result_51 : decode cX3_result 51 = .ok (.iload_n 2, 1) := by decide +kernel
theorem dX3_result_52 : decode cX3_result 52 = .ok (.ireturn, 1) := by decide +kernel
set_option maxRecDepth 20000 in
theorem ggX3_minorityAmong_X3_isMember : GoodIn wsX3_minorityAmong wsX3_isMember := goodIn_r _ [6] (by decide +kernel) (by decide +kernel)
set_option maxRecDepth 20000 in
theorem gX3_minorityAmong_X3_isMember : GoodIn wsX3_minorityAmong (va_wsS RX3 120 yX3_isMember wsX3_isMember) := goodIn_app (goodIn_of _ (by decide +kernel)) ggX3_minorityAmong_X3_isMember
set_option maxRecDepth 20000 in
theorem ggX3_minorityAmong_X1_netOf : GoodIn wsX3_minorityAmong wsX1_netOf := goodIn_r _ [10, 11, 12, 13, 8, 14, 15, 16, 17, 18, 19, 20, 21, 22, 23, 24, 25, 26, 27, 28, 47, 48, 49, 50, 51, 52, 53] (by decide +kernel) (by decide +kernel)
set_option maxRecDepth 20000 in
theorem gX3_minorityAmong_X1_netOf_n62 : GoodIn wsX3_minorityAmong (wsX1_netOf) := ggX3_minorityAmong_X1_netOf
set_option maxRecDepth 20000 in
theorem ggX3_minorityAmong_X2_partOfOthers : GoodIn wsX3_minorityAmong wsX2_partOfOthers := goodIn_r _ [32, 33, 34, 35, 36, 30, 37, 38, 39, 22, 40, 54, 55, 56, 57, 58, 59] (by decide +kernel) (by decide +kernel)
set_option maxRecDepth 20000 in
theorem gX3_minorityAmong_X2_partOfOthers_n160 : GoodIn wsX3_minorityAmong (wsX2_partOfOthers) := ggX3_minorityAmong_X2_partOfOthers
theorem dX3_minorityAmong_0 : decode cX3_minorityAmong 0 = .ok (.iload_n 1, 1) := by decide +kernel
theorem dX3_minorityAmong_1 : decode cX3_minorityAmong 1 = .ok (.iload_n 2, 1) := by decide +kernel
theorem dX3_minorityAmong_2 : decode cX3_minorityAmong 2 = .ok (.invokestatic 120, 3) := by decide +kernel
theorem dX3_minorityAmong_5 : decode cX3_minorityAmong 5 = .ok (.ifCond .eq 22, 3) := by decide +kernel
theorem dX3_minorityAmong_8 : decode cX3_minorityAmong 8 = .ok (.aload_n 0, 1) := by decide +kernel
theorem dX3_minorityAmong_9 : decode cX3_minorityAmong 9 = .ok (.getfield 10, 3) := by decide +kernel
theorem dX3_minorityAmong_12 : decode cX3_minorityAmong 12 = .ok (.iload_n 2, 1) := by decide +kernel
theorem dX3_minorityAmong_13 : decode cX3_minorityAmong 13 = .ok (.aload_n 0, 1) := by decide +kernel
theorem dX3_minorityAmong_14 : decode cX3_minorityAmong 14 = .ok (.getfield 19, 3) := by decide +kernel
theorem dX3_minorityAmong_17 : decode cX3_minorityAmong 17 = .ok (.iload_n 2, 1) := by decide +kernel
theorem dX3_minorityAmong_18 : decode cX3_minorityAmong 18 = .ok (.invokevirtual 62, 3) := by decide +kernel
theorem dX3_minorityAmong_21 : decode cX3_minorityAmong 21 = .ok (.invokevirtual 160, 3) := by decide +kernel
theorem dX3_minorityAmong_24 : decode cX3_minorityAmong 24 = .ok (.goto 4, 3) := by decide +kernel
theorem dX3_minorityAmong_27 : decode cX3_minorityAmong 27 = .ok (.iconst 0, 1) := by decide +kernel
theorem dX3_minorityAmong_28 : decode cX3_minorityAmong 28 = .ok (.ireturn, 1) := by decide +kernel
theorem dX3_isMember_0 : decode cX3_isMember 0 = .ok (.iload_n 0, 1) := by decide +kernel
theorem dX3_isMember_1 : decode cX3_isMember 1 = .ok (.iload_n 1, 1) := by decide +kernel
theorem dX3_isMember_2 : decode cX3_isMember 2 = .ok (.ishr, 1) := by decide +kernel
theorem dX3_isMember_3 : decode cX3_isMember 3 = .ok (.iconst 1, 1) := by decide +kernel
theorem dX3_isMember_4 : decode cX3_isMember 4 = .ok (.iand, 1) := by decide +kernel
theorem dX3_isMember_5 : decode cX3_isMember 5 = .ok (.iconst 1, 1) := by decide +kernel
theorem dX3_isMember_6 : decode cX3_isMember 6 = .ok (.if_icmp .ne 7, 3) := by decide +kernel
theorem dX3_isMember_9 : decode cX3_isMember 9 = .ok (.iconst 1, 1) := by decide +kernel
theorem dX3_isMember_10 : decode cX3_isMember 10 = .ok (.goto 4, 3) := by decide +kernel
theorem dX3_isMember_13 : decode cX3_isMember 13 = .ok (.iconst 0, 1) := by decide +kernel
theorem dX3_isMember_14 : decode cX3_isMember 14 = .ok (.ireturn, 1) := by decide +kernel
set_option maxRecDepth 20000 in
theorem ggX3_requireCompany_X3_requireRange : GoodIn wsX3_requireCompany wsX3_requireRange := goodIn_ca (goodIn_r _ [4, 5, 6] (by decide +kernel) (by decide +kernel)) (goodIn_sub (fun _ h => List.mem_cons_of_mem _ (List.mem_append_right _ h)) (by decide +kernel))
set_option maxRecDepth 20000 in
theorem gX3_requireCompany_X3_requireRange : GoodIn wsX3_requireCompany (va_wsS RX3 45 yX3_requireRange wsX3_requireRange) := goodIn_app (goodIn_of _ (by decide +kernel)) ggX3_requireCompany_X3_requireRange
theorem dX3_requireCompany_0 : decode cX3_requireCompany 0 = .ok (.iload_n 0, 1) := by decide +kernel
theorem dX3_requireCompany_1 : decode cX3_requireCompany 1 = .ok (.iconst 0, 1) := by decide +kernel
theorem dX3_requireCompany_2 : decode cX3_requireCompany 2 = .ok (.iconst 5, 1) := by decide +kernel
theorem dX3_requireCompany_3 : decode cX3_requireCompany 3 = .ok (.invokestatic 45, 3) := by decide +kernel
theorem dX3_requireCompany_6 : decode cX3_requireCompany 6 = .ok (.return_, 1) := by decide +kernel
set_option maxRecDepth 20000 in
theorem ggX3_requireTwoCompanies_X3_requireCompany : GoodIn wsX3_requireTwoCompanies wsX3_requireCompany := goodIn_ca (goodIn_r _ [6, 7, 8, 5, 9, 1, 2] (by decide +kernel) (by decide +kernel)) (goodIn_sub (fun _ h => List.mem_cons_of_mem _ (List.mem_append_right _ h)) (by decide +kernel))
set_option maxRecDepth 20000 in
theorem gX3_requireTwoCompanies_X3_requireCompany : GoodIn wsX3_requireTwoCompanies (va_wsS RX3 71 yX3_requireCompany wsX3_requireCompany) := goodIn_app (goodIn_of _ (by decide +kernel)) ggX3_requireTwoCompanies_X3_requireCompany
theorem dX3_requireTwoCompanies_0 : decode cX3_requireTwoCompanies 0 = .ok (.iload_n 0, 1) := by decide +kernel
theorem dX3_requireTwoCompanies_1 : decode cX3_requireTwoCompanies 1 = .ok (.invokestatic 71, 3) := by decide +kernel
theorem dX3_requireTwoCompanies_4 : decode cX3_requireTwoCompanies 4 = .ok (.iload_n 1, 1) := by decide +kernel
theorem dX3_requireTwoCompanies_5 : decode cX3_requireTwoCompanies 5 = .ok (.invokestatic 71, 3) := by decide +kernel
theorem dX3_requireTwoCompanies_8 : decode cX3_requireTwoCompanies 8 = .ok (.iload_n 0, 1) := by decide +kernel
theorem dX3_requireTwoCompanies_9 : decode cX3_requireTwoCompanies 9 = .ok (.iload_n 1, 1) := by decide +kernel
theorem dX3_requireTwoCompanies_10 : decode cX3_requireTwoCompanies 10 = .ok (.if_icmp .ne 13, 3) := by decide +kernel
theorem dX3_requireTwoCompanies_13 : decode cX3_requireTwoCompanies 13 = .ok (.new 155, 3) := by decide +kernel
theorem dX3_requireTwoCompanies_16 : decode cX3_requireTwoCompanies 16 = .ok (.dup, 1) := by decide +kernel
theorem dX3_requireTwoCompanies_17 : decode cX3_requireTwoCompanies 17 = .ok (.ldc 163, 2) := by decide +kernel
theorem dX3_requireTwoCompanies_19 : decode cX3_requireTwoCompanies 19 = .ok (.invokespecial 159, 3) := by decide +kernel
theorem dX3_requireTwoCompanies_22 : decode cX3_requireTwoCompanies 22 = .ok (.athrow, 1) := by decide +kernel
theorem dX3_requireTwoCompanies_23 : decode cX3_requireTwoCompanies 23 = .ok (.return_, 1) := by decide +kernel
theorem dX3_requireRange_0 : decode cX3_requireRange 0 = .ok (.iload_n 0, 1) := by decide +kernel
theorem dX3_requireRange_1 : decode cX3_requireRange 1 = .ok (.iload_n 1, 1) := by decide +kernel
theorem dX3_requireRange_2 : decode cX3_requireRange 2 = .ok (.if_icmp .lt 8, 3) := by decide +kernel
theorem dX3_requireRange_5 : decode cX3_requireRange 5 = .ok (.iload_n 0, 1) := by decide +kernel
theorem dX3_requireRange_6 : decode cX3_requireRange 6 = .ok (.iload_n 2, 1) := by decide +kernel
theorem dX3_requireRange_7 : decode cX3_requireRange 7 = .ok (.if_icmp .le 13, 3) := by decide +kernel
theorem dX3_requireRange_10 : decode cX3_requireRange 10 = .ok (.new 155, 3) := by decide +kernel
theorem dX3_requireRange_13 : decode cX3_requireRange 13 = .ok (.dup, 1) := by decide +kernel
theorem dX3_requireRange_14 : decode cX3_requireRange 14 = .ok (.ldc 165, 2) := by decide +kernel
theorem dX3_requireRange_16 : decode cX3_requireRange 16 = .ok (.invokespecial 159, 3) := by decide +kernel
theorem dX3_requireRange_19 : decode cX3_requireRange 19 = .ok (.athrow, 1) := by decide +kernel
theorem dX3_requireRange_20 : decode cX3_requireRange 20 = .ok (.return_, 1) := by decide +kernel
theorem dX3_pair_0 : decode cX3_pair 0 = .ok (.iload_n 0, 1) := by decide +kernel
theorem dX3_pair_1 : decode cX3_pair 1 = .ok (.bipush 6, 2) := by decide +kernel
theorem dX3_pair_3 : decode cX3_pair 3 = .ok (.imul, 1) := by decide +kernel
theorem dX3_pair_4 : decode cX3_pair 4 = .ok (.iload_n 1, 1) := by decide +kernel
theorem dX3_pair_5 : decode cX3_pair 5 = .ok (.iadd, 1) := by decide +kernel
theorem dX3_pair_6 : decode cX3_pair 6 = .ok (.ireturn, 1) := by decide +kernel
theorem dJ9_floorDiv_7cf53_0 : decode cJ9_floorDiv_7cf53 0 = .ok (.iload_n 0, 1) := by decide +kernel
theorem dJ9_floorDiv_7cf53_1 : decode cJ9_floorDiv_7cf53 1 = .ok (.iload_n 1, 1) := by decide +kernel
theorem dJ9_floorDiv_7cf53_2 : decode cJ9_floorDiv_7cf53 2 = .ok (.idiv, 1) := by decide +kernel
theorem dJ9_floorDiv_7cf53_3 : decode cJ9_floorDiv_7cf53 3 = .ok (.istore_n 2, 1) := by decide +kernel
theorem dJ9_floorDiv_7cf53_4 : decode cJ9_floorDiv_7cf53 4 = .ok (.iload_n 0, 1) := by decide +kernel
theorem dJ9_floorDiv_7cf53_5 : decode cJ9_floorDiv_7cf53 5 = .ok (.iload_n 1, 1) := by decide +kernel
theorem dJ9_floorDiv_7cf53_6 : decode cJ9_floorDiv_7cf53 6 = .ok (.ixor, 1) := by decide +kernel
theorem dJ9_floorDiv_7cf53_7 : decode cJ9_floorDiv_7cf53 7 = .ok (.ifCond .ge 14, 3) := by decide +kernel
theorem dJ9_floorDiv_7cf53_10 : decode cJ9_floorDiv_7cf53 10 = .ok (.iload_n 2, 1) := by decide +kernel
theorem dJ9_floorDiv_7cf53_11 : decode cJ9_floorDiv_7cf53 11 = .ok (.iload_n 1, 1) := by decide +kernel
theorem dJ9_floorDiv_7cf53_12 : decode cJ9_floorDiv_7cf53 12 = .ok (.imul, 1) := by decide +kernel
theorem dJ9_floorDiv_7cf53_13 : decode cJ9_floorDiv_7cf53 13 = .ok (.iload_n 0, 1) := by decide +kernel
theorem dJ9_floorDiv_7cf53_14 : decode cJ9_floorDiv_7cf53 14 = .ok (.if_icmp .eq 7, 3) := by decide +kernel
theorem dJ9_floorDiv_7cf53_17 : decode cJ9_floorDiv_7cf53 17 = .ok (.iload_n 2, 1) := by decide +kernel
theorem dJ9_floorDiv_7cf53_18 : decode cJ9_floorDiv_7cf53 18 = .ok (.iconst 1, 1) := by decide +kernel
theorem dJ9_floorDiv_7cf53_19 : decode cJ9_floorDiv_7cf53 19 = .ok (.isub, 1) := by decide +kernel
theorem dJ9_floorDiv_7cf53_20 : decode cJ9_floorDiv_7cf53 20 = .ok (.ireturn, 1) := by decide +kernel
theorem dJ9_floorDiv_7cf53_21 : decode cJ9_floorDiv_7cf53 21 = .ok (.iload_n 2, 1) := by decide +kernel
theorem dJ9_floorDiv_7cf53_22 : decode cJ9_floorDiv_7cf53 22 = .ok (.ireturn, 1) := by decide +kernel
theorem dJ9_floorDiv_f86c9_0 : decode cJ9_floorDiv_f86c9 0 = .ok (.lload_n 0, 1) := by decide +kernel
theorem dJ9_floorDiv_f86c9_1 : decode cJ9_floorDiv_f86c9 1 = .ok (.lload_n 2, 1) := by decide +kernel
theorem dJ9_floorDiv_f86c9_2 : decode cJ9_floorDiv_f86c9 2 = .ok (.ldiv, 1) := by decide +kernel
theorem dJ9_floorDiv_f86c9_3 : decode cJ9_floorDiv_f86c9 3 = .ok (.lstore 4, 2) := by decide +kernel
theorem dJ9_floorDiv_f86c9_5 : decode cJ9_floorDiv_f86c9 5 = .ok (.lload_n 0, 1) := by decide +kernel
theorem dJ9_floorDiv_f86c9_6 : decode cJ9_floorDiv_f86c9 6 = .ok (.lload_n 2, 1) := by decide +kernel
theorem dJ9_floorDiv_f86c9_7 : decode cJ9_floorDiv_f86c9 7 = .ok (.lxor, 1) := by decide +kernel
theorem dJ9_floorDiv_f86c9_8 : decode cJ9_floorDiv_f86c9 8 = .ok (.lconst 0, 1) := by decide +kernel
theorem dJ9_floorDiv_f86c9_9 : decode cJ9_floorDiv_f86c9 9 = .ok (.lcmp, 1) := by decide +kernel
theorem dJ9_floorDiv_f86c9_10 : decode cJ9_floorDiv_f86c9 10 = .ok (.ifCond .ge 17, 3) := by decide +kernel
theorem dJ9_floorDiv_f86c9_13 : decode cJ9_floorDiv_f86c9 13 = .ok (.lload 4, 2) := by decide +kernel
theorem dJ9_floorDiv_f86c9_15 : decode cJ9_floorDiv_f86c9 15 = .ok (.lload_n 2, 1) := by decide +kernel
theorem dJ9_floorDiv_f86c9_16 : decode cJ9_floorDiv_f86c9 16 = .ok (.lmul, 1) := by decide +kernel
theorem dJ9_floorDiv_f86c9_17 : decode cJ9_floorDiv_f86c9 17 = .ok (.lload_n 0, 1) := by decide +kernel
theorem dJ9_floorDiv_f86c9_18 : decode cJ9_floorDiv_f86c9 18 = .ok (.lcmp, 1) := by decide +kernel
theorem dJ9_floorDiv_f86c9_19 : decode cJ9_floorDiv_f86c9 19 = .ok (.ifCond .eq 8, 3) := by decide +kernel
theorem dJ9_floorDiv_f86c9_22 : decode cJ9_floorDiv_f86c9 22 = .ok (.lload 4, 2) := by decide +kernel
theorem dJ9_floorDiv_f86c9_24 : decode cJ9_floorDiv_f86c9 24 = .ok (.lconst 1, 1) := by decide +kernel
theorem dJ9_floorDiv_f86c9_25 : decode cJ9_floorDiv_f86c9 25 = .ok (.lsub, 1) := by decide +kernel
theorem dJ9_floorDiv_f86c9_26 : decode cJ9_floorDiv_f86c9 26 = .ok (.lreturn, 1) := by decide +kernel
theorem dJ9_floorDiv_f86c9_27 : decode cJ9_floorDiv_f86c9 27 = .ok (.lload 4, 2) := by decide +kernel
theorem dJ9_floorDiv_f86c9_29 : decode cJ9_floorDiv_f86c9 29 = .ok (.lreturn, 1) := by decide +kernel
end
section
theorem dL_cell_0 : decode cL_cell 0 = .ok (.iload_n 1, 1) := by decide +kernel
theorem dL_cell_1 : decode cL_cell 1 = .ok (.aload_n 0, 1) := by decide +kernel
theorem dL_cell_2 : decode cL_cell 2 = .ok (.arraylength, 1) := by decide +kernel
theorem dL_cell_3 : decode cL_cell 3 = .ok (.if_icmp .ge 9, 3) := by decide +kernel
theorem dL_cell_6 : decode cL_cell 6 = .ok (.aload_n 0, 1) := by decide +kernel
theorem dL_cell_7 : decode cL_cell 7 = .ok (.iload_n 1, 1) := by decide +kernel
theorem dL_cell_8 : decode cL_cell 8 = .ok (.iaload, 1) := by decide +kernel
theorem dL_cell_9 : decode cL_cell 9 = .ok (.goto 13, 3) := by decide +kernel
theorem dL_cell_12 : decode cL_cell 12 = .ok (.ldc 7, 2) := by decide +kernel
theorem dL_cell_14 : decode cL_cell 14 = .ok (.iload_n 1, 1) := by decide +kernel
theorem dL_cell_15 : decode cL_cell 15 = .ok (.bipush 37, 2) := by decide +kernel
theorem dL_cell_17 : decode cL_cell 17 = .ok (.iadd, 1) := by decide +kernel
theorem dL_cell_18 : decode cL_cell 18 = .ok (.imul, 1) := by decide +kernel
theorem dL_cell_19 : decode cL_cell 19 = .ok (.ldc 8, 2) := by decide +kernel
theorem dL_cell_21 : decode cL_cell 21 = .ok (.iadd, 1) := by decide +kernel
theorem dL_cell_22 : decode cL_cell 22 = .ok (.ireturn, 1) := by decide +kernel
theorem dL_low_0 : decode cL_low 0 = .ok (.iload_n 0, 1) := by decide +kernel
theorem dL_low_1 : decode cL_low 1 = .ok (.ldc 9, 2) := by decide +kernel
theorem dL_low_3 : decode cL_low 3 = .ok (.iand, 1) := by decide +kernel
theorem dL_low_4 : decode cL_low 4 = .ok (.iload_n 1, 1) := by decide +kernel
theorem dL_low_5 : decode cL_low 5 = .ok (.irem, 1) := by decide +kernel
theorem dL_low_6 : decode cL_low 6 = .ok (.ireturn, 1) := by decide +kernel
set_option maxRecDepth 20000 in
theorem ggL_calls_X3_hold : GoodIn wsL_calls wsX3_hold := goodIn_ca (goodIn_ca (goodIn_r _ [9, 10, 11, 12, 8, 13, 14, 15, 16, 17, 18, 19, 20, 21, 22, 23, 24, 25, 26, 27, 28, 29, 30, 31, 32, 33, 34, 35, 36, 37, 38, 39, 40, 41, 42, 43, 44, 45, 46, 47, 48, 49, 50, 51, 52, 53, 54, 55, 56, 57, 58, 59, 60, 61, 62, 63, 64, 65, 66, 67, 165, 166, 167, 168, 169, 170, 171, 172, 173, 174, 175, 176] (by decide +kernel) (by decide +kernel)) (goodIn_sub (fun _ h => List.mem_cons_of_mem _ (List.mem_append_left _ (List.mem_append_right _ h))) (by decide +kernel))) (goodIn_sub (fun _ h => List.mem_cons_of_mem _ (List.mem_append_right _ h)) (by decide +kernel))
set_option maxRecDepth 20000 in
theorem gL_calls_X3_hold : GoodIn wsL_calls (wsV RL 10 RX3 yX3_hold wsX3_hold) := goodIn_app (goodIn_of _ (by decide +kernel)) ggL_calls_X3_hold
set_option maxRecDepth 20000 in
theorem ggL_calls_X3_acquire : GoodIn wsL_calls wsX3_acquire := goodIn_ca (goodIn_ca (goodIn_r _ [71, 72, 10, 73, 74, 11, 12, 8, 13, 14, 15, 16, 17, 18, 19, 20, 21, 22, 23, 24, 25, 26, 27, 28, 29, 30, 31, 32, 33, 34, 35, 36, 37, 38, 39, 40, 41, 42, 43, 44, 45, 46, 47, 48, 49, 50, 51, 52, 53, 54, 55, 56, 57, 58, 59, 60, 61, 62, 63, 64, 65, 66, 67, 75, 76, 77, 78, 79, 80, 81, 82, 83, 84, 85, 86, 87, 88, 89, 90, 91, 92, 93, 94, 95, 96, 97, 165, 166, 167, 168, 169, 170, 171, 172, 173, 174, 175, 176, 177, 178, 179, 180, 181, 182, 183] (by decide +kernel) (by decide +kernel)) (goodIn_sub (fun _ h => List.mem_cons_of_mem _ (List.mem_append_left _ (List.mem_append_right _ h))) (by decide +kernel))) (goodIn_sub (fun _ h => List.mem_cons_of_mem _ (List.mem_append_right _ h)) (by decide +kernel))
set_option maxRecDepth 20000 in
theorem gL_calls_X3_acquire : GoodIn wsL_calls (wsV RL 16 RX3 yX3_acquire wsX3_acquire) := goodIn_app (goodIn_of _ (by decide +kernel)) ggL_calls_X3_acquire
set_option maxRecDepth 20000 in
theorem ggL_calls_X3_claim : GoodIn wsL_calls wsX3_claim := goodIn_ca (goodIn_r _ [101, 72, 102, 11, 12, 8, 13, 14, 15, 16, 17, 18, 19, 20, 21, 103, 104, 105, 106, 107, 27, 28, 165, 166, 167, 168, 169, 170, 184, 185] (by decide +kernel) (by decide +kernel)) (goodIn_sub (fun _ h => List.mem_cons_of_mem _ (List.mem_append_left _ (List.mem_append_right _ h))) (by decide +kernel))
set_option maxRecDepth 20000 in
theorem gL_calls_X3_claim : GoodIn wsL_calls (wsV RL 20 RX3 yX3_claim wsX3_claim) := goodIn_app (goodIn_of _ (by decide +kernel)) ggL_calls_X3_claim
set_option maxRecDepth 20000 in
theorem ggL_calls_X3_admit : GoodIn wsL_calls wsX3_admit := goodIn_ca (goodIn_r _ [111, 72, 102, 11, 12, 8, 13, 14, 15, 16, 17, 18, 19, 20, 21, 112, 104, 113, 114, 115, 27, 28, 165, 166, 167, 168, 169, 170, 184, 185] (by decide +kernel) (by decide +kernel)) (goodIn_sub (fun _ h => List.mem_cons_of_mem _ (List.mem_append_left _ (List.mem_append_right _ h))) (by decide +kernel))
set_option maxRecDepth 20000 in
theorem gL_calls_X3_admit : GoodIn wsL_calls (wsV RL 23 RX3 yX3_admit wsX3_admit) := goodIn_app (goodIn_of _ (by decide +kernel)) ggL_calls_X3_admit
set_option maxRecDepth 20000 in
theorem ggL_calls_X3_close : GoodIn wsL_calls wsX3_close := goodIn_ca (goodIn_r _ [119, 66, 67, 120, 121, 74, 122, 123, 124, 8, 125, 10, 126, 23, 127, 128, 129, 130, 131, 132, 133, 134, 135, 136, 26, 137, 138, 27, 28, 139, 140, 76, 141, 142, 143, 144, 85, 86, 87, 88, 89, 90, 91, 145, 146, 147, 58, 59, 148, 149, 150, 151, 152, 153, 154, 155, 156, 157, 165, 166, 167, 168, 169, 170, 171, 172, 173, 174, 175, 176, 177, 178, 179, 180, 181, 182, 183] (by decide +kernel) (by decide +kernel)) (goodIn_sub (fun _ h => List.mem_cons_of_mem _ (List.mem_append_right _ h)) (by decide +kernel))
set_option maxRecDepth 20000 in
theorem gL_calls_X3_close : GoodIn wsL_calls (wsV RL 26 RX3 yX3_close wsX3_close) := goodIn_app (goodIn_of _ (by decide +kernel)) ggL_calls_X3_close
set_option maxRecDepth 20000 in
theorem ggL_calls_X3_difference : GoodIn wsL_calls wsX3_difference := goodIn_ca (goodIn_r _ [161, 102, 11, 12, 8, 13, 14, 15, 16, 17, 18, 19, 20, 21, 162, 104, 163, 164, 107, 115, 27, 28, 165, 166, 167, 168, 169, 170, 184, 185] (by decide +kernel) (by decide +kernel)) (goodIn_sub (fun _ h => List.mem_cons_of_mem _ (List.mem_append_left _ (List.mem_append_right _ h))) (by decide +kernel))
set_option maxRecDepth 20000 in
theorem gL_calls_X3_difference : GoodIn wsL_calls (wsV RL 30 RX3 yX3_difference wsX3_difference) := goodIn_app (goodIn_of _ (by decide +kernel)) ggL_calls_X3_difference
theorem dL_calls_0 : decode cL_calls 0 = .ok (.iload_n 1, 1) := by decide +kernel
theorem dL_calls_1 : decode cL_calls 1 = .ok (.ifCond .ne 14, 3) := by decide +kernel
theorem dL_calls_4 : decode cL_calls 4 = .ok (.aload_n 0, 1) := by decide +kernel
theorem dL_calls_5 : decode cL_calls 5 = .ok (.iload_n 2, 1) := by decide +kernel
theorem dL_calls_6 : decode cL_calls 6 = .ok (.iload_n 3, 1) := by decide +kernel
theorem dL_calls_7 : decode cL_calls 7 = .ok (.iload 4, 2) := by decide +kernel
theorem dL_calls_9 : decode cL_calls 9 = .ok (.invokevirtual 10, 3) := by decide +kernel
theorem dL_calls_12 : decode cL_calls 12 = .ok (.goto 71, 3) := by decide +kernel
theorem dL_calls_15 : decode cL_calls 15 = .ok (.iload_n 1, 1) := by decide +kernel
theorem dL_calls_16 : decode cL_calls 16 = .ok (.iconst 1, 1) := by decide +kernel
theorem dL_calls_17 : decode cL_calls 17 = .ok (.if_icmp .ne 16, 3) := by decide +kernel
theorem dL_calls_20 : decode cL_calls 20 = .ok (.aload_n 0, 1) := by decide +kernel
theorem dL_calls_21 : decode cL_calls 21 = .ok (.iload_n 2, 1) := by decide +kernel
theorem dL_calls_22 : decode cL_calls 22 = .ok (.iload_n 3, 1) := by decide +kernel
theorem dL_calls_23 : decode cL_calls 23 = .ok (.iload 4, 2) := by decide +kernel
theorem dL_calls_25 : decode cL_calls 25 = .ok (.iload 5, 2) := by decide +kernel
theorem dL_calls_27 : decode cL_calls 27 = .ok (.invokevirtual 16, 3) := by decide +kernel
theorem dL_calls_30 : decode cL_calls 30 = .ok (.goto 53, 3) := by decide +kernel
theorem dL_calls_33 : decode cL_calls 33 = .ok (.iload_n 1, 1) := by decide +kernel
theorem dL_calls_34 : decode cL_calls 34 = .ok (.iconst 2, 1) := by decide +kernel
theorem dL_calls_35 : decode cL_calls 35 = .ok (.if_icmp .ne 14, 3) := by decide +kernel
theorem dL_calls_38 : decode cL_calls 38 = .ok (.aload_n 0, 1) := by decide +kernel
theorem dL_calls_39 : decode cL_calls 39 = .ok (.iload_n 2, 1) := by decide +kernel
theorem dL_calls_40 : decode cL_calls 40 = .ok (.iload_n 3, 1) := by decide +kernel
theorem dL_calls_41 : decode cL_calls 41 = .ok (.iload 4, 2) := by decide +kernel
theorem dL_calls_43 : decode cL_calls 43 = .ok (.invokevirtual 20, 3) := by decide +kernel
theorem dL_calls_46 : decode cL_calls 46 = .ok (.goto 37, 3) := by decide +kernel
theorem dL_calls_49 : decode cL_calls 49 = .ok (.iload_n 1, 1) := by decide +kernel
theorem dL_calls_50 : decode cL_calls 50 = .ok (.iconst 3, 1) := by decide +kernel
theorem dL_calls_51 : decode cL_calls 51 = .ok (.if_icmp .ne 14, 3) := by decide +kernel
theorem dL_calls_54 : decode cL_calls 54 = .ok (.aload_n 0, 1) := by decide +kernel
theorem dL_calls_55 : decode cL_calls 55 = .ok (.iload_n 2, 1) := by decide +kernel
theorem dL_calls_56 : decode cL_calls 56 = .ok (.iload_n 3, 1) := by decide +kernel
theorem dL_calls_57 : decode cL_calls 57 = .ok (.iload 4, 2) := by decide +kernel
theorem dL_calls_59 : decode cL_calls 59 = .ok (.invokevirtual 23, 3) := by decide +kernel
theorem dL_calls_62 : decode cL_calls 62 = .ok (.goto 21, 3) := by decide +kernel
theorem dL_calls_65 : decode cL_calls 65 = .ok (.iload_n 1, 1) := by decide +kernel
theorem dL_calls_66 : decode cL_calls 66 = .ok (.iconst 4, 1) := by decide +kernel
theorem dL_calls_67 : decode cL_calls 67 = .ok (.if_icmp .ne 10, 3) := by decide +kernel
theorem dL_calls_70 : decode cL_calls 70 = .ok (.aload_n 0, 1) := by decide +kernel
theorem dL_calls_71 : decode cL_calls 71 = .ok (.invokevirtual 26, 3) := by decide +kernel
theorem dL_calls_74 : decode cL_calls 74 = .ok (.goto 9, 3) := by decide +kernel
theorem dL_calls_77 : decode cL_calls 77 = .ok (.aload_n 0, 1) := by decide +kernel
theorem dL_calls_78 : decode cL_calls 78 = .ok (.iload_n 2, 1) := by decide +kernel
theorem dL_calls_79 : decode cL_calls 79 = .ok (.iload_n 3, 1) := by decide +kernel
theorem dL_calls_80 : decode cL_calls 80 = .ok (.invokevirtual 30, 3) := by decide +kernel
theorem dL_calls_83 : decode cL_calls 83 = .ok (.ireturn, 1) := by decide +kernel
theorem dL_calls_84 : decode cL_calls 84 = .ok (.astore 6, 2) := by decide +kernel
theorem dL_calls_86 : decode cL_calls 86 = .ok (.ldc 36, 2) := by decide +kernel
theorem dL_calls_88 : decode cL_calls 88 = .ok (.ireturn, 1) := by decide +kernel
theorem dL_calls_89 : decode cL_calls 89 = .ok (.astore 6, 2) := by decide +kernel
theorem dL_calls_91 : decode cL_calls 91 = .ok (.ldc 39, 2) := by decide +kernel
theorem dL_calls_93 : decode cL_calls 93 = .ok (.ireturn, 1) := by decide +kernel
theorem dL_floor_0 : decode cL_floor 0 = .ok (.lload_n 0, 1) := by decide +kernel
theorem dL_floor_1 : decode cL_floor 1 = .ok (.lconst 0, 1) := by decide +kernel
theorem dL_floor_2 : decode cL_floor 2 = .ok (.lcmp, 1) := by decide +kernel
theorem dL_floor_3 : decode cL_floor 3 = .ok (.ifCond .lt 9, 3) := by decide +kernel
theorem dL_floor_6 : decode cL_floor 6 = .ok (.lload_n 0, 1) := by decide +kernel
theorem dL_floor_7 : decode cL_floor 7 = .ok (.lload_n 2, 1) := by decide +kernel
theorem dL_floor_8 : decode cL_floor 8 = .ok (.ldiv, 1) := by decide +kernel
theorem dL_floor_9 : decode cL_floor 9 = .ok (.goto 11, 3) := by decide +kernel
theorem dL_floor_12 : decode cL_floor 12 = .ok (.lload_n 2, 1) := by decide +kernel
theorem dL_floor_13 : decode cL_floor 13 = .ok (.lconst 1, 1) := by decide +kernel
theorem dL_floor_14 : decode cL_floor 14 = .ok (.lsub, 1) := by decide +kernel
theorem dL_floor_15 : decode cL_floor 15 = .ok (.lload_n 0, 1) := by decide +kernel
theorem dL_floor_16 : decode cL_floor 16 = .ok (.lsub, 1) := by decide +kernel
theorem dL_floor_17 : decode cL_floor 17 = .ok (.lload_n 2, 1) := by decide +kernel
theorem dL_floor_18 : decode cL_floor 18 = .ok (.ldiv, 1) := by decide +kernel
theorem dL_floor_19 : decode cL_floor 19 = .ok (.lneg, 1) := by decide +kernel
theorem dL_floor_20 : decode cL_floor 20 = .ok (.lreturn, 1) := by decide +kernel
set_option maxRecDepth 20000 in
theorem ggL_at_L_floor : GoodIn wsL_at wsL_floor := goodIn_r _ [5] (by decide +kernel) (by decide +kernel)
set_option maxRecDepth 20000 in
theorem gL_at_L_floor : GoodIn wsL_at (va_wsS RL 46 yL_floor wsL_floor) := goodIn_app (goodIn_of _ (by decide +kernel)) ggL_at_L_floor
theorem dL_at_0 : decode cL_at 0 = .ok (.iload_n 0, 1) := by decide +kernel
theorem dL_at_1 : decode cL_at 1 = .ok (.i2l, 1) := by decide +kernel
theorem dL_at_2 : decode cL_at 2 = .ok (.iload_n 1, 1) := by decide +kernel
theorem dL_at_3 : decode cL_at 3 = .ok (.i2l, 1) := by decide +kernel
theorem dL_at_4 : decode cL_at 4 = .ok (.lmul, 1) := by decide +kernel
theorem dL_at_5 : decode cL_at 5 = .ok (.ldc2_w 44, 3) := by decide +kernel
theorem dL_at_8 : decode cL_at 8 = .ok (.invokestatic 46, 3) := by decide +kernel
theorem dL_at_11 : decode cL_at 11 = .ok (.l2i, 1) := by decide +kernel
theorem dL_at_12 : decode cL_at 12 = .ok (.ireturn, 1) := by decide +kernel
set_option maxRecDepth 20000 in
theorem ggL_net_L_at : GoodIn wsL_net wsL_at := goodIn_r _ [4, 5, 6, 7, 3, 8] (by decide +kernel) (by decide +kernel)
set_option maxRecDepth 20000 in
theorem gL_net_L_at : GoodIn wsL_net (va_wsS RL 52 yL_at wsL_at) := goodIn_app (goodIn_of _ (by decide +kernel)) ggL_net_L_at
theorem dL_net_0 : decode cL_net 0 = .ok (.aload_n 1, 1) := by decide +kernel
theorem dL_net_1 : decode cL_net 1 = .ok (.bipush 7, 2) := by decide +kernel
theorem dL_net_3 : decode cL_net 3 = .ok (.iload_n 0, 1) := by decide +kernel
theorem dL_net_4 : decode cL_net 4 = .ok (.imul, 1) := by decide +kernel
theorem dL_net_5 : decode cL_net 5 = .ok (.iaload, 1) := by decide +kernel
theorem dL_net_6 : decode cL_net 6 = .ok (.aload_n 1, 1) := by decide +kernel
theorem dL_net_7 : decode cL_net 7 = .ok (.bipush 7, 2) := by decide +kernel
theorem dL_net_9 : decode cL_net 9 = .ok (.iload_n 0, 1) := by decide +kernel
theorem dL_net_10 : decode cL_net 10 = .ok (.imul, 1) := by decide +kernel
theorem dL_net_11 : decode cL_net 11 = .ok (.iconst 4, 1) := by decide +kernel
theorem dL_net_12 : decode cL_net 12 = .ok (.iadd, 1) := by decide +kernel
theorem dL_net_13 : decode cL_net 13 = .ok (.iaload, 1) := by decide +kernel
theorem dL_net_14 : decode cL_net 14 = .ok (.invokestatic 52, 3) := by decide +kernel
theorem dL_net_17 : decode cL_net 17 = .ok (.aload_n 1, 1) := by decide +kernel
theorem dL_net_18 : decode cL_net 18 = .ok (.bipush 7, 2) := by decide +kernel
theorem dL_net_20 : decode cL_net 20 = .ok (.iload_n 0, 1) := by decide +kernel
theorem dL_net_21 : decode cL_net 21 = .ok (.imul, 1) := by decide +kernel
theorem dL_net_22 : decode cL_net 22 = .ok (.iconst 1, 1) := by decide +kernel
theorem dL_net_23 : decode cL_net 23 = .ok (.iadd, 1) := by decide +kernel
theorem dL_net_24 : decode cL_net 24 = .ok (.iaload, 1) := by decide +kernel
theorem dL_net_25 : decode cL_net 25 = .ok (.aload_n 1, 1) := by decide +kernel
theorem dL_net_26 : decode cL_net 26 = .ok (.bipush 7, 2) := by decide +kernel
theorem dL_net_28 : decode cL_net 28 = .ok (.iload_n 0, 1) := by decide +kernel
theorem dL_net_29 : decode cL_net 29 = .ok (.imul, 1) := by decide +kernel
theorem dL_net_30 : decode cL_net 30 = .ok (.iconst 4, 1) := by decide +kernel
theorem dL_net_31 : decode cL_net 31 = .ok (.iadd, 1) := by decide +kernel
theorem dL_net_32 : decode cL_net 32 = .ok (.iaload, 1) := by decide +kernel
theorem dL_net_33 : decode cL_net 33 = .ok (.invokestatic 52, 3) := by decide +kernel
theorem dL_net_36 : decode cL_net 36 = .ok (.isub, 1) := by decide +kernel
theorem dL_net_37 : decode cL_net 37 = .ok (.ireturn, 1) := by decide +kernel
theorem dL_group_0 : decode cL_group 0 = .ok (.iconst 1, 1) := by decide +kernel
theorem dL_group_1 : decode cL_group 1 = .ok (.istore_n 1, 1) := by decide +kernel
theorem dL_group_2 : decode cL_group 2 = .ok (.iconst 0, 1) := by decide +kernel
theorem dL_group_3 : decode cL_group 3 = .ok (.istore_n 2, 1) := by decide +kernel
theorem dL_group_4 : decode cL_group 4 = .ok (.iload_n 2, 1) := by decide +kernel
theorem dL_group_5 : decode cL_group 5 = .ok (.bipush 6, 2) := by decide +kernel
theorem dL_group_7 : decode cL_group 7 = .ok (.if_icmp .ge 88, 3) := by decide +kernel
theorem dL_group_10 : decode cL_group 10 = .ok (.iload_n 1, 1) := by decide +kernel
theorem dL_group_11 : decode cL_group 11 = .ok (.istore_n 3, 1) := by decide +kernel
theorem dL_group_12 : decode cL_group 12 = .ok (.iconst 1, 1) := by decide +kernel
theorem dL_group_13 : decode cL_group 13 = .ok (.istore 4, 2) := by decide +kernel
theorem dL_group_15 : decode cL_group 15 = .ok (.iload 4, 2) := by decide +kernel
theorem dL_group_17 : decode cL_group 17 = .ok (.bipush 6, 2) := by decide +kernel
theorem dL_group_19 : decode cL_group 19 = .ok (.if_icmp .ge 68, 3) := by decide +kernel
theorem dL_group_22 : decode cL_group 22 = .ok (.iconst 0, 1) := by decide +kernel
theorem dL_group_23 : decode cL_group 23 = .ok (.istore 5, 2) := by decide +kernel
theorem dL_group_25 : decode cL_group 25 = .ok (.iconst 0, 1) := by decide +kernel
theorem dL_group_26 : decode cL_group 26 = .ok (.istore 6, 2) := by decide +kernel
theorem dL_group_28 : decode cL_group 28 = .ok (.iload 6, 2) := by decide +kernel
theorem dL_group_30 : decode cL_group 30 = .ok (.bipush 6, 2) := by decide +kernel
theorem dL_group_32 : decode cL_group 32 = .ok (.if_icmp .ge 31, 3) := by decide +kernel
theorem dL_group_35 : decode cL_group 35 = .ok (.iload 5, 2) := by decide +kernel
theorem dL_group_37 : decode cL_group 37 = .ok (.iload_n 1, 1) := by decide +kernel
theorem dL_group_38 : decode cL_group 38 = .ok (.iload 6, 2) := by decide +kernel
theorem dL_group_40 : decode cL_group 40 = .ok (.ishr, 1) := by decide +kernel
theorem dL_group_41 : decode cL_group 41 = .ok (.iconst 1, 1) := by decide +kernel
theorem dL_group_42 : decode cL_group 42 = .ok (.iand, 1) := by decide +kernel
theorem dL_group_43 : decode cL_group 43 = .ok (.aload_n 0, 1) := by decide +kernel
theorem dL_group_44 : decode cL_group 44 = .ok (.bipush 6, 2) := by decide +kernel
theorem dL_group_46 : decode cL_group 46 = .ok (.iload 6, 2) := by decide +kernel
theorem dL_group_48 : decode cL_group 48 = .ok (.imul, 1) := by decide +kernel
theorem dL_group_49 : decode cL_group 49 = .ok (.iload 4, 2) := by decide +kernel
theorem dL_group_51 : decode cL_group 51 = .ok (.iadd, 1) := by decide +kernel
theorem dL_group_52 : decode cL_group 52 = .ok (.iaload, 1) := by decide +kernel
theorem dL_group_53 : decode cL_group 53 = .ok (.imul, 1) := by decide +kernel
theorem dL_group_54 : decode cL_group 54 = .ok (.iadd, 1) := by decide +kernel
theorem dL_group_55 : decode cL_group 55 = .ok (.istore 5, 2) := by decide +kernel
theorem dL_group_57 : decode cL_group 57 = .ok (.iinc 6 1, 3) := by decide +kernel
theorem dL_group_60 : decode cL_group 60 = .ok (.goto (-32), 3) := by decide +kernel
theorem dL_group_63 : decode cL_group 63 = .ok (.iload_n 3, 1) := by decide +kernel
theorem dL_group_64 : decode cL_group 64 = .ok (.iload 5, 2) := by decide +kernel
theorem dL_group_66 : decode cL_group 66 = .ok (.bipush 50, 2) := by decide +kernel
theorem dL_group_68 : decode cL_group 68 = .ok (.if_icmp .le 10, 3) := by decide +kernel
theorem dL_group_71 : decode cL_group 71 = .ok (.iconst 1, 1) := by decide +kernel
theorem dL_group_72 : decode cL_group 72 = .ok (.iload 4, 2) := by decide +kernel
theorem dL_group_74 : decode cL_group 74 = .ok (.ishl, 1) := by decide +kernel
theorem dL_group_75 : decode cL_group 75 = .ok (.goto 4, 3) := by decide +kernel
theorem dL_group_78 : decode cL_group 78 = .ok (.iconst 0, 1) := by decide +kernel
theorem dL_group_79 : decode cL_group 79 = .ok (.ior, 1) := by decide +kernel
theorem dL_group_80 : decode cL_group 80 = .ok (.istore_n 3, 1) := by decide +kernel
theorem dL_group_81 : decode cL_group 81 = .ok (.iinc 4 1, 3) := by decide +kernel
theorem dL_group_84 : decode cL_group 84 = .ok (.goto (-69), 3) := by decide +kernel
theorem dL_group_87 : decode cL_group 87 = .ok (.iload_n 3, 1) := by decide +kernel
theorem dL_group_88 : decode cL_group 88 = .ok (.istore_n 1, 1) := by decide +kernel
theorem dL_group_89 : decode cL_group 89 = .ok (.iinc 2 1, 3) := by decide +kernel
theorem dL_group_92 : decode cL_group 92 = .ok (.goto (-88), 3) := by decide +kernel
theorem dL_group_95 : decode cL_group 95 = .ok (.iload_n 1, 1) := by decide +kernel
theorem dL_group_96 : decode cL_group 96 = .ok (.ireturn, 1) := by decide +kernel
theorem dL_inverse_0 : decode cL_inverse 0 = .ok (.lconst 1, 1) := by decide +kernel
theorem dL_inverse_1 : decode cL_inverse 1 = .ok (.lstore 4, 2) := by decide +kernel
theorem dL_inverse_3 : decode cL_inverse 3 = .ok (.lload_n 0, 1) := by decide +kernel
theorem dL_inverse_4 : decode cL_inverse 4 = .ok (.lload_n 2, 1) := by decide +kernel
theorem dL_inverse_5 : decode cL_inverse 5 = .ok (.lrem, 1) := by decide +kernel
theorem dL_inverse_6 : decode cL_inverse 6 = .ok (.lstore 6, 2) := by decide +kernel
theorem dL_inverse_8 : decode cL_inverse 8 = .ok (.lload_n 2, 1) := by decide +kernel
theorem dL_inverse_9 : decode cL_inverse 9 = .ok (.ldc2_w 55, 3) := by decide +kernel
theorem dL_inverse_12 : decode cL_inverse 12 = .ok (.lsub, 1) := by decide +kernel
theorem dL_inverse_13 : decode cL_inverse 13 = .ok (.lstore 8, 2) := by decide +kernel
theorem dL_inverse_15 : decode cL_inverse 15 = .ok (.lload 8, 2) := by decide +kernel
theorem dL_inverse_17 : decode cL_inverse 17 = .ok (.lconst 0, 1) := by decide +kernel
theorem dL_inverse_18 : decode cL_inverse 18 = .ok (.lcmp, 1) := by decide +kernel
theorem dL_inverse_19 : decode cL_inverse 19 = .ok (.ifCond .le 48, 3) := by decide +kernel
theorem dL_inverse_22 : decode cL_inverse 22 = .ok (.lload 8, 2) := by decide +kernel
theorem dL_inverse_24 : decode cL_inverse 24 = .ok (.ldc2_w 55, 3) := by decide +kernel
theorem dL_inverse_27 : decode cL_inverse 27 = .ok (.lrem, 1) := by decide +kernel
theorem dL_inverse_28 : decode cL_inverse 28 = .ok (.lconst 1, 1) := by decide +kernel
theorem dL_inverse_29 : decode cL_inverse 29 = .ok (.lcmp, 1) := by decide +kernel
theorem dL_inverse_30 : decode cL_inverse 30 = .ok (.ifCond .ne 13, 3) := by decide +kernel
theorem dL_inverse_33 : decode cL_inverse 33 = .ok (.lload 4, 2) := by decide +kernel
theorem dL_inverse_35 : decode cL_inverse 35 = .ok (.lload 6, 2) := by decide +kernel
theorem dL_inverse_37 : decode cL_inverse 37 = .ok (.lmul, 1) := by decide +kernel
theorem dL_inverse_38 : decode cL_inverse 38 = .ok (.lload_n 2, 1) := by decide +kernel
theorem dL_inverse_39 : decode cL_inverse 39 = .ok (.lrem, 1) := by decide +kernel
theorem dL_inverse_40 : decode cL_inverse 40 = .ok (.goto 5, 3) := by decide +kernel
theorem dL_inverse_43 : decode cL_inverse 43 = .ok (.lload 4, 2) := by decide +kernel
theorem dL_inverse_45 : decode cL_inverse 45 = .ok (.lstore 4, 2) := by decide +kernel
theorem dL_inverse_47 : decode cL_inverse 47 = .ok (.lload 6, 2) := by decide +kernel
theorem dL_inverse_49 : decode cL_inverse 49 = .ok (.lload 6, 2) := by decide +kernel
theorem dL_inverse_51 : decode cL_inverse 51 = .ok (.lmul, 1) := by decide +kernel
theorem dL_inverse_52 : decode cL_inverse 52 = .ok (.lload_n 2, 1) := by decide +kernel
theorem dL_inverse_53 : decode cL_inverse 53 = .ok (.lrem, 1) := by decide +kernel
theorem dL_inverse_54 : decode cL_inverse 54 = .ok (.lstore 6, 2) := by decide +kernel
theorem dL_inverse_56 : decode cL_inverse 56 = .ok (.lload 8, 2) := by decide +kernel
theorem dL_inverse_58 : decode cL_inverse 58 = .ok (.ldc2_w 55, 3) := by decide +kernel
theorem dL_inverse_61 : decode cL_inverse 61 = .ok (.ldiv, 1) := by decide +kernel
theorem dL_inverse_62 : decode cL_inverse 62 = .ok (.lstore 8, 2) := by decide +kernel
theorem dL_inverse_64 : decode cL_inverse 64 = .ok (.goto (-49), 3) := by decide +kernel
theorem dL_inverse_67 : decode cL_inverse 67 = .ok (.lload 4, 2) := by decide +kernel
theorem dL_inverse_69 : decode cL_inverse 69 = .ok (.lreturn, 1) := by decide +kernel
theorem dL_common_0 : decode cL_common 0 = .ok (.lload_n 0, 1) := by decide +kernel
theorem dL_common_1 : decode cL_common 1 = .ok (.lstore 4, 2) := by decide +kernel
theorem dL_common_3 : decode cL_common 3 = .ok (.lload_n 2, 1) := by decide +kernel
theorem dL_common_4 : decode cL_common 4 = .ok (.lstore 6, 2) := by decide +kernel
theorem dL_common_6 : decode cL_common 6 = .ok (.lload 6, 2) := by decide +kernel
theorem dL_common_8 : decode cL_common 8 = .ok (.lconst 0, 1) := by decide +kernel
theorem dL_common_9 : decode cL_common 9 = .ok (.lcmp, 1) := by decide +kernel
theorem dL_common_10 : decode cL_common 10 = .ok (.ifCond .eq 21, 3) := by decide +kernel
theorem dL_common_13 : decode cL_common 13 = .ok (.lload 4, 2) := by decide +kernel
theorem dL_common_15 : decode cL_common 15 = .ok (.lload 6, 2) := by decide +kernel
theorem dL_common_17 : decode cL_common 17 = .ok (.lrem, 1) := by decide +kernel
theorem dL_common_18 : decode cL_common 18 = .ok (.lstore 8, 2) := by decide +kernel
theorem dL_common_20 : decode cL_common 20 = .ok (.lload 6, 2) := by decide +kernel
theorem dL_common_22 : decode cL_common 22 = .ok (.lstore 4, 2) := by decide +kernel
theorem dL_common_24 : decode cL_common 24 = .ok (.lload 8, 2) := by decide +kernel
theorem dL_common_26 : decode cL_common 26 = .ok (.lstore 6, 2) := by decide +kernel
theorem dL_common_28 : decode cL_common 28 = .ok (.goto (-22), 3) := by decide +kernel
theorem dL_common_31 : decode cL_common 31 = .ok (.lload 4, 2) := by decide +kernel
theorem dL_common_33 : decode cL_common 33 = .ok (.lreturn, 1) := by decide +kernel
set_option maxRecDepth 20000 in
theorem ggL_shares_X3_shareNumerator : GoodIn wsL_shares wsX3_shareNumerator := goodIn_ca (goodIn_r _ [6, 7, 8, 9, 5, 10, 11, 12, 13, 14, 15, 16, 17, 18, 19, 20, 37, 38, 39, 40, 41, 42, 43, 44, 45, 46, 47, 48] (by decide +kernel) (by decide +kernel)) (goodIn_sub (fun _ h => List.mem_cons_of_mem _ (List.mem_append_right _ h)) (by decide +kernel))
set_option maxRecDepth 20000 in
theorem gL_shares_X3_shareNumerator : GoodIn wsL_shares (wsV RL 57 RX3 yX3_shareNumerator wsX3_shareNumerator) := goodIn_app (goodIn_of _ (by decide +kernel)) ggL_shares_X3_shareNumerator
set_option maxRecDepth 20000 in
theorem ggL_shares_X3_shareDenominator : GoodIn wsL_shares wsX3_shareDenominator := goodIn_ca (goodIn_r _ [24, 7, 8, 9, 5, 10, 11, 12, 13, 14, 15, 25, 17, 26, 27, 28, 37, 38, 39, 40, 41, 42, 43, 44, 45, 46, 47, 48] (by decide +kernel) (by decide +kernel)) (goodIn_sub (fun _ h => List.mem_cons_of_mem _ (List.mem_append_right _ h)) (by decide +kernel))
set_option maxRecDepth 20000 in
theorem gL_shares_X3_shareDenominator : GoodIn wsL_shares (wsV RL 61 RX3 yX3_shareDenominator wsX3_shareDenominator) := goodIn_app (goodIn_of _ (by decide +kernel)) ggL_shares_X3_shareDenominator
set_option maxRecDepth 20000 in
theorem ggL_shares_L_common : GoodIn wsL_shares wsL_common := goodIn_r _ [32] (by decide +kernel) (by decide +kernel)
set_option maxRecDepth 20000 in
theorem gL_shares_L_common : GoodIn wsL_shares (va_wsS RL 64 yL_common wsL_common) := goodIn_app (goodIn_of _ (by decide +kernel)) ggL_shares_L_common
set_option maxRecDepth 20000 in
theorem ggL_shares_L_inverse : GoodIn wsL_shares wsL_inverse := goodIn_r _ [35, 36] (by decide +kernel) (by decide +kernel)
set_option maxRecDepth 20000 in
theorem gL_shares_L_inverse : GoodIn wsL_shares (va_wsS RL 67 yL_inverse wsL_inverse) := goodIn_app (goodIn_of _ (by decide +kernel)) ggL_shares_L_inverse
theorem dL_shares_0 : decode cL_shares 0 = .ok (.aload_n 0, 1) := by decide +kernel
theorem dL_shares_1 : decode cL_shares 1 = .ok (.iconst 0, 1) := by decide +kernel
theorem dL_shares_2 : decode cL_shares 2 = .ok (.invokevirtual 57, 3) := by decide +kernel
theorem dL_shares_5 : decode cL_shares 5 = .ok (.lconst 1, 1) := by decide +kernel
theorem dL_shares_6 : decode cL_shares 6 = .ok (.lcmp, 1) := by decide +kernel
theorem dL_shares_7 : decode cL_shares 7 = .ok (.ifCond .ne 17, 3) := by decide +kernel
theorem dL_shares_10 : decode cL_shares 10 = .ok (.aload_n 0, 1) := by decide +kernel
theorem dL_shares_11 : decode cL_shares 11 = .ok (.iconst 0, 1) := by decide +kernel
theorem dL_shares_12 : decode cL_shares 12 = .ok (.invokevirtual 61, 3) := by decide +kernel
theorem dL_shares_15 : decode cL_shares 15 = .ok (.lconst 1, 1) := by decide +kernel
theorem dL_shares_16 : decode cL_shares 16 = .ok (.lcmp, 1) := by decide +kernel
theorem dL_shares_17 : decode cL_shares 17 = .ok (.ifCond .ne 7, 3) := by decide +kernel
theorem dL_shares_20 : decode cL_shares 20 = .ok (.iconst 1, 1) := by decide +kernel
theorem dL_shares_21 : decode cL_shares 21 = .ok (.goto 4, 3) := by decide +kernel
theorem dL_shares_24 : decode cL_shares 24 = .ok (.iconst 0, 1) := by decide +kernel
theorem dL_shares_25 : decode cL_shares 25 = .ok (.istore 4, 2) := by decide +kernel
theorem dL_shares_27 : decode cL_shares 27 = .ok (.iconst 1, 1) := by decide +kernel
theorem dL_shares_28 : decode cL_shares 28 = .ok (.istore 5, 2) := by decide +kernel
theorem dL_shares_30 : decode cL_shares 30 = .ok (.iconst 1, 1) := by decide +kernel
theorem dL_shares_31 : decode cL_shares 31 = .ok (.istore 6, 2) := by decide +kernel
theorem dL_shares_33 : decode cL_shares 33 = .ok (.iload 6, 2) := by decide +kernel
theorem dL_shares_35 : decode cL_shares 35 = .ok (.bipush 6, 2) := by decide +kernel
theorem dL_shares_37 : decode cL_shares 37 = .ok (.if_icmp .ge 92, 3) := by decide +kernel
theorem dL_shares_40 : decode cL_shares 40 = .ok (.iload 4, 2) := by decide +kernel
theorem dL_shares_42 : decode cL_shares 42 = .ok (.ifCond .eq 87, 3) := by decide +kernel
theorem dL_shares_45 : decode cL_shares 45 = .ok (.aload_n 0, 1) := by decide +kernel
theorem dL_shares_46 : decode cL_shares 46 = .ok (.iload 6, 2) := by decide +kernel
theorem dL_shares_48 : decode cL_shares 48 = .ok (.invokevirtual 57, 3) := by decide +kernel
theorem dL_shares_51 : decode cL_shares 51 = .ok (.lstore 7, 2) := by decide +kernel
theorem dL_shares_53 : decode cL_shares 53 = .ok (.aload_n 0, 1) := by decide +kernel
theorem dL_shares_54 : decode cL_shares 54 = .ok (.iload 6, 2) := by decide +kernel
theorem dL_shares_56 : decode cL_shares 56 = .ok (.invokevirtual 61, 3) := by decide +kernel
theorem dL_shares_59 : decode cL_shares 59 = .ok (.lstore 9, 2) := by decide +kernel
theorem dL_shares_61 : decode cL_shares 61 = .ok (.lload 9, 2) := by decide +kernel
theorem dL_shares_63 : decode cL_shares 63 = .ok (.lconst 0, 1) := by decide +kernel
theorem dL_shares_64 : decode cL_shares 64 = .ok (.lcmp, 1) := by decide +kernel
theorem dL_shares_65 : decode cL_shares 65 = .ok (.ifCond .le 34, 3) := by decide +kernel
theorem dL_shares_68 : decode cL_shares 68 = .ok (.lload 7, 2) := by decide +kernel
theorem dL_shares_70 : decode cL_shares 70 = .ok (.lconst 0, 1) := by decide +kernel
theorem dL_shares_71 : decode cL_shares 71 = .ok (.lcmp, 1) := by decide +kernel
theorem dL_shares_72 : decode cL_shares 72 = .ok (.ifCond .lt 27, 3) := by decide +kernel
theorem dL_shares_75 : decode cL_shares 75 = .ok (.lload 7, 2) := by decide +kernel
theorem dL_shares_77 : decode cL_shares 77 = .ok (.lload 9, 2) := by decide +kernel
theorem dL_shares_79 : decode cL_shares 79 = .ok (.lcmp, 1) := by decide +kernel
theorem dL_shares_80 : decode cL_shares 80 = .ok (.ifCond .gt 19, 3) := by decide +kernel
theorem dL_shares_83 : decode cL_shares 83 = .ok (.lload 9, 2) := by decide +kernel
theorem dL_shares_85 : decode cL_shares 85 = .ok (.lload 7, 2) := by decide +kernel
theorem dL_shares_87 : decode cL_shares 87 = .ok (.invokestatic 64, 3) := by decide +kernel
theorem dL_shares_90 : decode cL_shares 90 = .ok (.lconst 1, 1) := by decide +kernel
theorem dL_shares_91 : decode cL_shares 91 = .ok (.lcmp, 1) := by decide +kernel
theorem dL_shares_92 : decode cL_shares 92 = .ok (.ifCond .ne 7, 3) := by decide +kernel
theorem dL_shares_95 : decode cL_shares 95 = .ok (.iconst 1, 1) := by decide +kernel
theorem dL_shares_96 : decode cL_shares 96 = .ok (.goto 4, 3) := by decide +kernel
theorem dL_shares_99 : decode cL_shares 99 = .ok (.iconst 0, 1) := by decide +kernel
theorem dL_shares_100 : decode cL_shares 100 = .ok (.istore 4, 2) := by decide +kernel
theorem dL_shares_102 : decode cL_shares 102 = .ok (.iload 5, 2) := by decide +kernel
theorem dL_shares_104 : decode cL_shares 104 = .ok (.ifCond .eq 16, 3) := by decide +kernel
theorem dL_shares_107 : decode cL_shares 107 = .ok (.lload 9, 2) := by decide +kernel
theorem dL_shares_109 : decode cL_shares 109 = .ok (.lload_n 2, 1) := by decide +kernel
theorem dL_shares_110 : decode cL_shares 110 = .ok (.lrem, 1) := by decide +kernel
theorem dL_shares_111 : decode cL_shares 111 = .ok (.lconst 0, 1) := by decide +kernel
theorem dL_shares_112 : decode cL_shares 112 = .ok (.lcmp, 1) := by decide +kernel
theorem dL_shares_113 : decode cL_shares 113 = .ok (.ifCond .eq 7, 3) := by decide +kernel
theorem dL_shares_116 : decode cL_shares 116 = .ok (.iconst 1, 1) := by decide +kernel
theorem dL_shares_117 : decode cL_shares 117 = .ok (.goto 4, 3) := by decide +kernel
theorem dL_shares_120 : decode cL_shares 120 = .ok (.iconst 0, 1) := by decide +kernel
theorem dL_shares_121 : decode cL_shares 121 = .ok (.istore 5, 2) := by decide +kernel
theorem dL_shares_123 : decode cL_shares 123 = .ok (.iinc 6 1, 3) := by decide +kernel
theorem dL_shares_126 : decode cL_shares 126 = .ok (.goto (-93), 3) := by decide +kernel
theorem dL_shares_129 : decode cL_shares 129 = .ok (.iconst 1, 1) := by decide +kernel
theorem dL_shares_130 : decode cL_shares 130 = .ok (.istore 6, 2) := by decide +kernel
theorem dL_shares_132 : decode cL_shares 132 = .ok (.iload 6, 2) := by decide +kernel
theorem dL_shares_134 : decode cL_shares 134 = .ok (.bipush 6, 2) := by decide +kernel
theorem dL_shares_136 : decode cL_shares 136 = .ok (.if_icmp .ge 122, 3) := by decide +kernel
theorem dL_shares_139 : decode cL_shares 139 = .ok (.iload 4, 2) := by decide +kernel
theorem dL_shares_141 : decode cL_shares 141 = .ok (.ifCond .eq 117, 3) := by decide +kernel
theorem dL_shares_144 : decode cL_shares 144 = .ok (.iload 5, 2) := by decide +kernel
theorem dL_shares_146 : decode cL_shares 146 = .ok (.ifCond .eq 112, 3) := by decide +kernel
theorem dL_shares_149 : decode cL_shares 149 = .ok (.lconst 0, 1) := by decide +kernel
theorem dL_shares_150 : decode cL_shares 150 = .ok (.lstore 7, 2) := by decide +kernel
theorem dL_shares_152 : decode cL_shares 152 = .ok (.iconst 0, 1) := by decide +kernel
theorem dL_shares_153 : decode cL_shares 153 = .ok (.istore 9, 2) := by decide +kernel
theorem dL_shares_155 : decode cL_shares 155 = .ok (.iload 9, 2) := by decide +kernel
theorem dL_shares_157 : decode cL_shares 157 = .ok (.bipush 6, 2) := by decide +kernel
theorem dL_shares_159 : decode cL_shares 159 = .ok (.if_icmp .ge 53, 3) := by decide +kernel
theorem dL_shares_162 : decode cL_shares 162 = .ok (.aload_n 0, 1) := by decide +kernel
theorem dL_shares_163 : decode cL_shares 163 = .ok (.iload 9, 2) := by decide +kernel
theorem dL_shares_165 : decode cL_shares 165 = .ok (.invokevirtual 57, 3) := by decide +kernel
theorem dL_shares_168 : decode cL_shares 168 = .ok (.lload_n 2, 1) := by decide +kernel
theorem dL_shares_169 : decode cL_shares 169 = .ok (.lrem, 1) := by decide +kernel
theorem dL_shares_170 : decode cL_shares 170 = .ok (.aload_n 0, 1) := by decide +kernel
theorem dL_shares_171 : decode cL_shares 171 = .ok (.iload 9, 2) := by decide +kernel
theorem dL_shares_173 : decode cL_shares 173 = .ok (.invokevirtual 61, 3) := by decide +kernel
theorem dL_shares_176 : decode cL_shares 176 = .ok (.lload_n 2, 1) := by decide +kernel
theorem dL_shares_177 : decode cL_shares 177 = .ok (.invokestatic 67, 3) := by decide +kernel
theorem dL_shares_180 : decode cL_shares 180 = .ok (.lmul, 1) := by decide +kernel
theorem dL_shares_181 : decode cL_shares 181 = .ok (.lload_n 2, 1) := by decide +kernel
theorem dL_shares_182 : decode cL_shares 182 = .ok (.lrem, 1) := by decide +kernel
theorem dL_shares_183 : decode cL_shares 183 = .ok (.lstore 10, 2) := by decide +kernel
theorem dL_shares_185 : decode cL_shares 185 = .ok (.lload 7, 2) := by decide +kernel
theorem dL_shares_187 : decode cL_shares 187 = .ok (.aload_n 1, 1) := by decide +kernel
theorem dL_shares_188 : decode cL_shares 188 = .ok (.bipush 6, 2) := by decide +kernel
theorem dL_shares_190 : decode cL_shares 190 = .ok (.iload 9, 2) := by decide +kernel
theorem dL_shares_192 : decode cL_shares 192 = .ok (.imul, 1) := by decide +kernel
theorem dL_shares_193 : decode cL_shares 193 = .ok (.iload 6, 2) := by decide +kernel
theorem dL_shares_195 : decode cL_shares 195 = .ok (.iadd, 1) := by decide +kernel
theorem dL_shares_196 : decode cL_shares 196 = .ok (.iaload, 1) := by decide +kernel
theorem dL_shares_197 : decode cL_shares 197 = .ok (.i2l, 1) := by decide +kernel
theorem dL_shares_198 : decode cL_shares 198 = .ok (.lload 10, 2) := by decide +kernel
theorem dL_shares_200 : decode cL_shares 200 = .ok (.lmul, 1) := by decide +kernel
theorem dL_shares_201 : decode cL_shares 201 = .ok (.ladd, 1) := by decide +kernel
theorem dL_shares_202 : decode cL_shares 202 = .ok (.lload_n 2, 1) := by decide +kernel
theorem dL_shares_203 : decode cL_shares 203 = .ok (.lrem, 1) := by decide +kernel
theorem dL_shares_204 : decode cL_shares 204 = .ok (.lstore 7, 2) := by decide +kernel
theorem dL_shares_206 : decode cL_shares 206 = .ok (.iinc 9 1, 3) := by decide +kernel
theorem dL_shares_209 : decode cL_shares 209 = .ok (.goto (-54), 3) := by decide +kernel
theorem dL_shares_212 : decode cL_shares 212 = .ok (.lload 7, 2) := by decide +kernel
theorem dL_shares_214 : decode cL_shares 214 = .ok (.ldc2_w 44, 3) := by decide +kernel
theorem dL_shares_217 : decode cL_shares 217 = .ok (.aload_n 0, 1) := by decide +kernel
theorem dL_shares_218 : decode cL_shares 218 = .ok (.iload 6, 2) := by decide +kernel
theorem dL_shares_220 : decode cL_shares 220 = .ok (.invokevirtual 57, 3) := by decide +kernel
theorem dL_shares_223 : decode cL_shares 223 = .ok (.lload_n 2, 1) := by decide +kernel
theorem dL_shares_224 : decode cL_shares 224 = .ok (.lrem, 1) := by decide +kernel
theorem dL_shares_225 : decode cL_shares 225 = .ok (.aload_n 0, 1) := by decide +kernel
theorem dL_shares_226 : decode cL_shares 226 = .ok (.iload 6, 2) := by decide +kernel
theorem dL_shares_228 : decode cL_shares 228 = .ok (.invokevirtual 61, 3) := by decide +kernel
theorem dL_shares_231 : decode cL_shares 231 = .ok (.lload_n 2, 1) := by decide +kernel
theorem dL_shares_232 : decode cL_shares 232 = .ok (.invokestatic 67, 3) := by decide +kernel
theorem dL_shares_235 : decode cL_shares 235 = .ok (.lmul, 1) := by decide +kernel
theorem dL_shares_236 : decode cL_shares 236 = .ok (.lload_n 2, 1) := by decide +kernel
theorem dL_shares_237 : decode cL_shares 237 = .ok (.lrem, 1) := by decide +kernel
theorem dL_shares_238 : decode cL_shares 238 = .ok (.lmul, 1) := by decide +kernel
theorem dL_shares_239 : decode cL_shares 239 = .ok (.lload_n 2, 1) := by decide +kernel
theorem dL_shares_240 : decode cL_shares 240 = .ok (.lrem, 1) := by decide +kernel
theorem dL_shares_241 : decode cL_shares 241 = .ok (.lcmp, 1) := by decide +kernel
theorem dL_shares_242 : decode cL_shares 242 = .ok (.ifCond .ne 7, 3) := by decide +kernel
theorem dL_shares_245 : decode cL_shares 245 = .ok (.iconst 1, 1) := by decide +kernel
theorem dL_shares_246 : decode cL_shares 246 = .ok (.goto 4, 3) := by decide +kernel
theorem dL_shares_249 : decode cL_shares 249 = .ok (.iconst 0, 1) := by decide +kernel
theorem dL_shares_250 : decode cL_shares 250 = .ok (.istore 4, 2) := by decide +kernel
theorem dL_shares_252 : decode cL_shares 252 = .ok (.iinc 6 1, 3) := by decide +kernel
theorem dL_shares_255 : decode cL_shares 255 = .ok (.goto (-123), 3) := by decide +kernel
theorem dL_shares_258 : decode cL_shares 258 = .ok (.iload 4, 2) := by decide +kernel
theorem dL_shares_260 : decode cL_shares 260 = .ok (.ireturn, 1) := by decide +kernel
theorem dL_rounds_0 : decode cL_rounds 0 = .ok (.iconst 0, 1) := by decide +kernel
theorem dL_rounds_1 : decode cL_rounds 1 = .ok (.istore 5, 2) := by decide +kernel
theorem dL_rounds_3 : decode cL_rounds 3 = .ok (.iload 5, 2) := by decide +kernel
theorem dL_rounds_5 : decode cL_rounds 5 = .ok (.bipush 6, 2) := by decide +kernel
theorem dL_rounds_7 : decode cL_rounds 7 = .ok (.if_icmp .ge 24, 3) := by decide +kernel
theorem dL_rounds_10 : decode cL_rounds 10 = .ok (.aload_n 3, 1) := by decide +kernel
theorem dL_rounds_11 : decode cL_rounds 11 = .ok (.iload 5, 2) := by decide +kernel
theorem dL_rounds_13 : decode cL_rounds 13 = .ok (.iload 5, 2) := by decide +kernel
theorem dL_rounds_15 : decode cL_rounds 15 = .ok (.ifCond .ne 8, 3) := by decide +kernel
theorem dL_rounds_18 : decode cL_rounds 18 = .ok (.ldc 70, 2) := by decide +kernel
theorem dL_rounds_20 : decode cL_rounds 20 = .ok (.goto 4, 3) := by decide +kernel
theorem dL_rounds_23 : decode cL_rounds 23 = .ok (.iconst 0, 1) := by decide +kernel
theorem dL_rounds_24 : decode cL_rounds 24 = .ok (.iastore, 1) := by decide +kernel
theorem dL_rounds_25 : decode cL_rounds 25 = .ok (.iinc 5 1, 3) := by decide +kernel
theorem dL_rounds_28 : decode cL_rounds 28 = .ok (.goto (-25), 3) := by decide +kernel
theorem dL_rounds_31 : decode cL_rounds 31 = .ok (.iconst 0, 1) := by decide +kernel
theorem dL_rounds_32 : decode cL_rounds 32 = .ok (.istore 5, 2) := by decide +kernel
theorem dL_rounds_34 : decode cL_rounds 34 = .ok (.iload 5, 2) := by decide +kernel
theorem dL_rounds_36 : decode cL_rounds 36 = .ok (.iload_n 1, 1) := by decide +kernel
theorem dL_rounds_37 : decode cL_rounds 37 = .ok (.if_icmp .ge 98, 3) := by decide +kernel
theorem dL_rounds_40 : decode cL_rounds 40 = .ok (.iconst 0, 1) := by decide +kernel
theorem dL_rounds_41 : decode cL_rounds 41 = .ok (.istore 6, 2) := by decide +kernel
theorem dL_rounds_43 : decode cL_rounds 43 = .ok (.iload 6, 2) := by decide +kernel
theorem dL_rounds_45 : decode cL_rounds 45 = .ok (.bipush 6, 2) := by decide +kernel
theorem dL_rounds_47 : decode cL_rounds 47 = .ok (.if_icmp .ge 54, 3) := by decide +kernel
theorem dL_rounds_50 : decode cL_rounds 50 = .ok (.aload 4, 2) := by decide +kernel
theorem dL_rounds_52 : decode cL_rounds 52 = .ok (.iload 6, 2) := by decide +kernel
theorem dL_rounds_54 : decode cL_rounds 54 = .ok (.iconst 0, 1) := by decide +kernel
theorem dL_rounds_55 : decode cL_rounds 55 = .ok (.iastore, 1) := by decide +kernel
theorem dL_rounds_56 : decode cL_rounds 56 = .ok (.iconst 0, 1) := by decide +kernel
theorem dL_rounds_57 : decode cL_rounds 57 = .ok (.istore 7, 2) := by decide +kernel
theorem dL_rounds_59 : decode cL_rounds 59 = .ok (.iload 7, 2) := by decide +kernel
theorem dL_rounds_61 : decode cL_rounds 61 = .ok (.bipush 6, 2) := by decide +kernel
theorem dL_rounds_63 : decode cL_rounds 63 = .ok (.if_icmp .ge 32, 3) := by decide +kernel
theorem dL_rounds_66 : decode cL_rounds 66 = .ok (.aload 4, 2) := by decide +kernel
theorem dL_rounds_68 : decode cL_rounds 68 = .ok (.iload 6, 2) := by decide +kernel
theorem dL_rounds_70 : decode cL_rounds 70 = .ok (.dup2, 1) := by decide +kernel
theorem dL_rounds_71 : decode cL_rounds 71 = .ok (.iaload, 1) := by decide +kernel
theorem dL_rounds_72 : decode cL_rounds 72 = .ok (.aload_n 2, 1) := by decide +kernel
theorem dL_rounds_73 : decode cL_rounds 73 = .ok (.bipush 6, 2) := by decide +kernel
theorem dL_rounds_75 : decode cL_rounds 75 = .ok (.iload 7, 2) := by decide +kernel
theorem dL_rounds_77 : decode cL_rounds 77 = .ok (.imul, 1) := by decide +kernel
theorem dL_rounds_78 : decode cL_rounds 78 = .ok (.iload 6, 2) := by decide +kernel
theorem dL_rounds_80 : decode cL_rounds 80 = .ok (.iadd, 1) := by decide +kernel
theorem dL_rounds_81 : decode cL_rounds 81 = .ok (.iaload, 1) := by decide +kernel
theorem dL_rounds_82 : decode cL_rounds 82 = .ok (.aload_n 3, 1) := by decide +kernel
theorem dL_rounds_83 : decode cL_rounds 83 = .ok (.iload 7, 2) := by decide +kernel
theorem dL_rounds_85 : decode cL_rounds 85 = .ok (.iaload, 1) := by decide +kernel
theorem dL_rounds_86 : decode cL_rounds 86 = .ok (.imul, 1) := by decide +kernel
theorem dL_rounds_87 : decode cL_rounds 87 = .ok (.iadd, 1) := by decide +kernel
theorem dL_rounds_88 : decode cL_rounds 88 = .ok (.iastore, 1) := by decide +kernel
theorem dL_rounds_89 : decode cL_rounds 89 = .ok (.iinc 7 1, 3) := by decide +kernel
theorem dL_rounds_92 : decode cL_rounds 92 = .ok (.goto (-33), 3) := by decide +kernel
theorem dL_rounds_95 : decode cL_rounds 95 = .ok (.iinc 6 1, 3) := by decide +kernel
theorem dL_rounds_98 : decode cL_rounds 98 = .ok (.goto (-55), 3) := by decide +kernel
theorem dL_rounds_101 : decode cL_rounds 101 = .ok (.iconst 1, 1) := by decide +kernel
theorem dL_rounds_102 : decode cL_rounds 102 = .ok (.istore 6, 2) := by decide +kernel
theorem dL_rounds_104 : decode cL_rounds 104 = .ok (.iload 6, 2) := by decide +kernel
theorem dL_rounds_106 : decode cL_rounds 106 = .ok (.bipush 6, 2) := by decide +kernel
theorem dL_rounds_108 : decode cL_rounds 108 = .ok (.if_icmp .ge 21, 3) := by decide +kernel
theorem dL_rounds_111 : decode cL_rounds 111 = .ok (.aload_n 3, 1) := by decide +kernel
theorem dL_rounds_112 : decode cL_rounds 112 = .ok (.iload 6, 2) := by decide +kernel
theorem dL_rounds_114 : decode cL_rounds 114 = .ok (.aload 4, 2) := by decide +kernel
theorem dL_rounds_116 : decode cL_rounds 116 = .ok (.iload 6, 2) := by decide +kernel
theorem dL_rounds_118 : decode cL_rounds 118 = .ok (.iaload, 1) := by decide +kernel
theorem dL_rounds_119 : decode cL_rounds 119 = .ok (.bipush 100, 2) := by decide +kernel
theorem dL_rounds_121 : decode cL_rounds 121 = .ok (.idiv, 1) := by decide +kernel
theorem dL_rounds_122 : decode cL_rounds 122 = .ok (.iastore, 1) := by decide +kernel
theorem dL_rounds_123 : decode cL_rounds 123 = .ok (.iinc 6 1, 3) := by decide +kernel
theorem dL_rounds_126 : decode cL_rounds 126 = .ok (.goto (-22), 3) := by decide +kernel
theorem dL_rounds_129 : decode cL_rounds 129 = .ok (.iinc 5 1, 3) := by decide +kernel
theorem dL_rounds_132 : decode cL_rounds 132 = .ok (.goto (-98), 3) := by decide +kernel
theorem dL_rounds_135 : decode cL_rounds 135 = .ok (.aload_n 3, 1) := by decide +kernel
theorem dL_rounds_136 : decode cL_rounds 136 = .ok (.iload_n 0, 1) := by decide +kernel
theorem dL_rounds_137 : decode cL_rounds 137 = .ok (.iaload, 1) := by decide +kernel
theorem dL_rounds_138 : decode cL_rounds 138 = .ok (.ireturn, 1) := by decide +kernel
set_option maxRecDepth 20000 in
theorem ggL_result_L_at : GoodIn wsL_result wsL_at := goodIn_r _ [4, 5, 6, 7, 3, 8] (by decide +kernel) (by decide +kernel)
set_option maxRecDepth 20000 in
theorem gL_result_L_at : GoodIn wsL_result (va_wsS RL 52 yL_at wsL_at) := goodIn_app (goodIn_of _ (by decide +kernel)) ggL_result_L_at
set_option maxRecDepth 20000 in
theorem ggL_result_X3_shareNumerator : GoodIn wsL_result wsX3_shareNumerator := goodIn_ca (goodIn_r _ [13, 14, 15, 16, 12, 17, 18, 19, 20, 21, 22, 23, 24, 25, 26, 27, 36, 37, 38, 39, 40, 41, 42, 43, 44, 45, 46, 47] (by decide +kernel) (by decide +kernel)) (goodIn_sub (fun _ h => List.mem_cons_of_mem _ (List.mem_append_right _ h)) (by decide +kernel))
set_option maxRecDepth 20000 in
theorem gL_result_X3_shareNumerator : GoodIn wsL_result (wsV RL 57 RX3 yX3_shareNumerator wsX3_shareNumerator) := goodIn_app (goodIn_of _ (by decide +kernel)) ggL_result_X3_shareNumerator
set_option maxRecDepth 20000 in
theorem ggL_result_X3_shareDenominator : GoodIn wsL_result wsX3_shareDenominator := goodIn_ca (goodIn_r _ [31, 14, 15, 16, 12, 17, 18, 19, 20, 21, 22, 32, 24, 33, 34, 35, 36, 37, 38, 39, 40, 41, 42, 43, 44, 45, 46, 47] (by decide +kernel) (by decide +kernel)) (goodIn_sub (fun _ h => List.mem_cons_of_mem _ (List.mem_append_right _ h)) (by decide +kernel))
set_option maxRecDepth 20000 in
theorem gL_result_X3_shareDenominator : GoodIn wsL_result (wsV RL 61 RX3 yX3_shareDenominator wsX3_shareDenominator) := goodIn_app (goodIn_of _ (by decide +kernel)) ggL_result_X3_shareDenominator
set_option maxRecDepth 20000 in
theorem ggL_result_L_floor : GoodIn wsL_result wsL_floor := goodIn_r _ [8] (by decide +kernel) (by decide +kernel)
set_option maxRecDepth 20000 in
theorem gL_result_L_floor : GoodIn wsL_result (va_wsS RL 46 yL_floor wsL_floor) := goodIn_app (goodIn_of _ (by decide +kernel)) ggL_result_L_floor
theorem dL_result_0 : decode cL_result 0 = .ok (.iconst 0, 1) := by decide +kernel
theorem dL_result_1 : decode cL_result 1 = .ok (.istore_n 3, 1) := by decide +kernel
theorem dL_result_2 : decode cL_result 2 = .ok (.iconst 0, 1) := by decide +kernel
theorem dL_result_3 : decode cL_result 3 = .ok (.istore 4, 2) := by decide +kernel
theorem dL_result_5 : decode cL_result 5 = .ok (.iload 4, 2) := by decide +kernel
theorem dL_result_7 : decode cL_result 7 = .ok (.bipush 6, 2) := by decide +kernel
theorem dL_result_9 : decode cL_result 9 = .ok (.if_icmp .ge 64, 3) := by decide +kernel
theorem dL_result_12 : decode cL_result 12 = .ok (.iload_n 3, 1) := by decide +kernel
theorem dL_result_13 : decode cL_result 13 = .ok (.iload_n 1, 1) := by decide +kernel
theorem dL_result_14 : decode cL_result 14 = .ok (.iload 4, 2) := by decide +kernel
theorem dL_result_16 : decode cL_result 16 = .ok (.ishr, 1) := by decide +kernel
theorem dL_result_17 : decode cL_result 17 = .ok (.iconst 1, 1) := by decide +kernel
theorem dL_result_18 : decode cL_result 18 = .ok (.iand, 1) := by decide +kernel
theorem dL_result_19 : decode cL_result 19 = .ok (.ifCond .ne 7, 3) := by decide +kernel
theorem dL_result_22 : decode cL_result 22 = .ok (.iconst 0, 1) := by decide +kernel
theorem dL_result_23 : decode cL_result 23 = .ok (.goto 42, 3) := by decide +kernel
theorem dL_result_26 : decode cL_result 26 = .ok (.aload_n 2, 1) := by decide +kernel
theorem dL_result_27 : decode cL_result 27 = .ok (.bipush 7, 2) := by decide +kernel
theorem dL_result_29 : decode cL_result 29 = .ok (.iload 4, 2) := by decide +kernel
theorem dL_result_31 : decode cL_result 31 = .ok (.imul, 1) := by decide +kernel
theorem dL_result_32 : decode cL_result 32 = .ok (.iconst 3, 1) := by decide +kernel
theorem dL_result_33 : decode cL_result 33 = .ok (.iadd, 1) := by decide +kernel
theorem dL_result_34 : decode cL_result 34 = .ok (.iaload, 1) := by decide +kernel
theorem dL_result_35 : decode cL_result 35 = .ok (.aload_n 2, 1) := by decide +kernel
theorem dL_result_36 : decode cL_result 36 = .ok (.bipush 7, 2) := by decide +kernel
theorem dL_result_38 : decode cL_result 38 = .ok (.iload 4, 2) := by decide +kernel
theorem dL_result_40 : decode cL_result 40 = .ok (.imul, 1) := by decide +kernel
theorem dL_result_41 : decode cL_result 41 = .ok (.iconst 5, 1) := by decide +kernel
theorem dL_result_42 : decode cL_result 42 = .ok (.iadd, 1) := by decide +kernel
theorem dL_result_43 : decode cL_result 43 = .ok (.iaload, 1) := by decide +kernel
theorem dL_result_44 : decode cL_result 44 = .ok (.invokestatic 52, 3) := by decide +kernel
theorem dL_result_47 : decode cL_result 47 = .ok (.i2l, 1) := by decide +kernel
theorem dL_result_48 : decode cL_result 48 = .ok (.aload_n 0, 1) := by decide +kernel
theorem dL_result_49 : decode cL_result 49 = .ok (.iload 4, 2) := by decide +kernel
theorem dL_result_51 : decode cL_result 51 = .ok (.invokevirtual 57, 3) := by decide +kernel
theorem dL_result_54 : decode cL_result 54 = .ok (.lmul, 1) := by decide +kernel
theorem dL_result_55 : decode cL_result 55 = .ok (.aload_n 0, 1) := by decide +kernel
theorem dL_result_56 : decode cL_result 56 = .ok (.iload 4, 2) := by decide +kernel
theorem dL_result_58 : decode cL_result 58 = .ok (.invokevirtual 61, 3) := by decide +kernel
theorem dL_result_61 : decode cL_result 61 = .ok (.invokestatic 46, 3) := by decide +kernel
theorem dL_result_64 : decode cL_result 64 = .ok (.l2i, 1) := by decide +kernel
theorem dL_result_65 : decode cL_result 65 = .ok (.iadd, 1) := by decide +kernel
theorem dL_result_66 : decode cL_result 66 = .ok (.istore_n 3, 1) := by decide +kernel
theorem dL_result_67 : decode cL_result 67 = .ok (.iinc 4 1, 3) := by decide +kernel
theorem dL_result_70 : decode cL_result 70 = .ok (.goto (-65), 3) := by decide +kernel
theorem dL_result_73 : decode cL_result 73 = .ok (.iload_n 3, 1) := by decide +kernel
theorem dL_result_74 : decode cL_result 74 = .ok (.ireturn, 1) := by decide +kernel
set_option maxRecDepth 20000 in
theorem ggL_isSo_L_group : GoodIn wsL_isSo wsL_group := goodIn_r _ [5] (by decide +kernel) (by decide +kernel)
set_option maxRecDepth 20000 in
theorem gL_isSo_L_group : GoodIn wsL_isSo (va_wsS RL 71 yL_group wsL_group) := goodIn_app (goodIn_of _ (by decide +kernel)) ggL_isSo_L_group
set_option maxRecDepth 20000 in
theorem ggL_isSo_X3_group : GoodIn wsL_isSo wsX3_group := goodIn_r _ [10, 11, 12, 13, 14, 15, 16, 17, 18, 19, 20, 21, 22, 23, 24, 25, 9, 26, 27, 28, 272, 273, 274, 275, 276, 277, 278, 279, 280, 281, 282, 283] (by decide +kernel) (by decide +kernel)
set_option maxRecDepth 20000 in
theorem gL_isSo_X3_group : GoodIn wsL_isSo (wsV RL 75 RX3 yX3_group wsX3_group) := goodIn_app (goodIn_of _ (by decide +kernel)) ggL_isSo_X3_group
set_option maxRecDepth 20000 in
theorem ggL_isSo_L_at : GoodIn wsL_isSo wsL_at := goodIn_r _ [31, 32, 33, 34, 4, 35] (by decide +kernel) (by decide +kernel)
set_option maxRecDepth 20000 in
theorem gL_isSo_L_at : GoodIn wsL_isSo (va_wsS RL 52 yL_at wsL_at) := goodIn_app (goodIn_of _ (by decide +kernel)) ggL_isSo_L_at
set_option maxRecDepth 20000 in
theorem ggL_isSo_L_net : GoodIn wsL_isSo wsL_net := goodIn_r _ [38, 29, 30, 4, 31, 32, 33, 34, 35] (by decide +kernel) (by decide +kernel)
set_option maxRecDepth 20000 in
theorem gL_isSo_L_net : GoodIn wsL_isSo (va_wsS RL 77 yL_net wsL_net) := goodIn_app (goodIn_of _ (by decide +kernel)) ggL_isSo_L_net
set_option maxRecDepth 20000 in
theorem ggL_isSo_X3_shareDenominator : GoodIn wsL_isSo wsX3_shareDenominator := goodIn_ca (goodIn_r _ [42, 11, 43, 44, 9, 45, 46, 47, 48, 49, 50, 51, 13, 52, 53, 54, 272, 273, 274, 275, 276, 277, 278, 279, 280, 281, 282, 283] (by decide +kernel) (by decide +kernel)) (goodIn_sub (fun _ h => List.mem_cons_of_mem _ (List.mem_append_left _ (List.mem_append_right _ h))) (by decide +kernel))
set_option maxRecDepth 20000 in
theorem gL_isSo_X3_shareDenominator : GoodIn wsL_isSo (wsV RL 61 RX3 yX3_shareDenominator wsX3_shareDenominator) := goodIn_app (goodIn_of _ (by decide +kernel)) ggL_isSo_X3_shareDenominator
set_option maxRecDepth 20000 in
theorem ggL_isSo_X3_shareNumerator : GoodIn wsL_isSo wsX3_shareNumerator := goodIn_ca (goodIn_r _ [58, 11, 43, 44, 9, 45, 46, 47, 48, 49, 50, 59, 13, 60, 61, 62, 272, 273, 274, 275, 276, 277, 278, 279, 280, 281, 282, 283] (by decide +kernel) (by decide +kernel)) (goodIn_sub (fun _ h => List.mem_cons_of_mem _ (List.mem_append_left _ (List.mem_append_right _ h))) (by decide +kernel))
set_option maxRecDepth 20000 in
theorem gL_isSo_X3_shareNumerator : GoodIn wsL_isSo (wsV RL 57 RX3 yX3_shareNumerator wsX3_shareNumerator) := goodIn_app (goodIn_of _ (by decide +kernel)) ggL_isSo_X3_shareNumerator
set_option maxRecDepth 20000 in
theorem ggL_isSo_L_floor : GoodIn wsL_isSo wsL_floor := goodIn_r _ [35] (by decide +kernel) (by decide +kernel)
set_option maxRecDepth 20000 in
theorem gL_isSo_L_floor : GoodIn wsL_isSo (va_wsS RL 46 yL_floor wsL_floor) := goodIn_app (goodIn_of _ (by decide +kernel)) ggL_isSo_L_floor
set_option maxRecDepth 20000 in
theorem ggL_isSo_X3_netValue : GoodIn wsL_isSo wsX3_netValue := goodIn_ca (goodIn_r _ [66, 67, 43, 44, 9, 45, 46, 47, 48, 49, 50, 68, 69, 70, 71, 72, 73, 74, 75, 76, 77, 78, 79, 80, 81, 82, 83, 84, 85, 86, 87, 88, 89, 272, 273, 274, 275, 276, 277, 284, 285, 286, 287, 288, 289, 290] (by decide +kernel) (by decide +kernel)) (goodIn_sub (fun _ h => List.mem_cons_of_mem _ (List.mem_append_left _ (List.mem_append_right _ h))) (by decide +kernel))
set_option maxRecDepth 20000 in
theorem gL_isSo_X3_netValue : GoodIn wsL_isSo (wsV RL 81 RX3 yX3_netValue wsX3_netValue) := goodIn_app (goodIn_of _ (by decide +kernel)) ggL_isSo_X3_netValue
set_option maxRecDepth 20000 in
theorem ggL_isSo_X3_translatedEquity : GoodIn wsL_isSo wsX3_translatedEquity := goodIn_ca (goodIn_r _ [93, 67, 43, 44, 9, 45, 46, 47, 48, 49, 50, 94, 69, 95, 96, 97, 98, 78, 79, 80, 81, 82, 83, 84, 272, 273, 274, 275, 276, 277, 284, 285, 286, 287, 288, 289, 290] (by decide +kernel) (by decide +kernel)) (goodIn_sub (fun _ h => List.mem_cons_of_mem _ (List.mem_append_left _ (List.mem_append_right _ h))) (by decide +kernel))
set_option maxRecDepth 20000 in
theorem gL_isSo_X3_translatedEquity : GoodIn wsL_isSo (wsV RL 85 RX3 yX3_translatedEquity wsX3_translatedEquity) := goodIn_app (goodIn_of _ (by decide +kernel)) ggL_isSo_X3_translatedEquity
set_option maxRecDepth 20000 in
theorem ggL_isSo_X3_translatedResult : GoodIn wsL_isSo wsX3_translatedResult := goodIn_ca (goodIn_r _ [102, 67, 43, 44, 9, 45, 46, 47, 48, 49, 50, 103, 69, 104, 105, 106, 107, 78, 79, 80, 81, 82, 83, 84, 272, 273, 274, 275, 276, 277, 284, 285, 286, 287, 288, 289, 290] (by decide +kernel) (by decide +kernel)) (goodIn_sub (fun _ h => List.mem_cons_of_mem _ (List.mem_append_left _ (List.mem_append_right _ h))) (by decide +kernel))
set_option maxRecDepth 20000 in
theorem gL_isSo_X3_translatedResult : GoodIn wsL_isSo (wsV RL 88 RX3 yX3_translatedResult wsX3_translatedResult) := goodIn_app (goodIn_of _ (by decide +kernel)) ggL_isSo_X3_translatedResult
set_option maxRecDepth 20000 in
theorem ggL_isSo_X3_reserve : GoodIn wsL_isSo wsX3_reserve := goodIn_ca (goodIn_r _ [111, 67, 43, 44, 9, 45, 46, 47, 48, 49, 50, 68, 69, 70, 71, 72, 73, 74, 75, 76, 77, 78, 79, 80, 81, 82, 83, 84, 85, 86, 87, 88, 89, 94, 95, 96, 97, 98, 103, 104, 105, 106, 107, 272, 273, 274, 275, 276, 277, 284, 285, 286, 287, 288, 289, 290] (by decide +kernel) (by decide +kernel)) (goodIn_sub (fun _ h => List.mem_cons_of_mem _ (List.mem_append_left _ (List.mem_append_right _ h))) (by decide +kernel))
set_option maxRecDepth 20000 in
theorem gL_isSo_X3_reserve : GoodIn wsL_isSo (wsV RL 91 RX3 yX3_reserve wsX3_reserve) := goodIn_app (goodIn_of _ (by decide +kernel)) ggL_isSo_X3_reserve
set_option maxRecDepth 20000 in
theorem ggL_isSo_X3_minority : GoodIn wsL_isSo wsX3_minority := goodIn_ca (goodIn_r _ [115, 11, 43, 44, 9, 45, 46, 47, 48, 49, 50, 12, 13, 14, 15, 16, 17, 18, 19, 20, 21, 22, 23, 24, 25, 26, 27, 28, 116, 117, 118, 119, 67, 120, 68, 69, 70, 71, 72, 73, 74, 75, 76, 77, 78, 79, 80, 81, 82, 83, 84, 85, 86, 87, 88, 89, 121, 122, 123, 54, 62, 124, 125, 126, 127, 128, 129, 272, 273, 274, 275, 276, 277, 278, 279, 280, 281, 282, 283, 284, 285, 286, 287, 288, 289, 290] (by decide +kernel) (by decide +kernel)) (goodIn_sub (fun _ h => List.mem_cons_of_mem _ (List.mem_append_left _ (List.mem_append_right _ h))) (by decide +kernel))
set_option maxRecDepth 20000 in
theorem gL_isSo_X3_minority : GoodIn wsL_isSo (wsV RL 94 RX3 yX3_minority wsX3_minority) := goodIn_app (goodIn_of _ (by decide +kernel)) ggL_isSo_X3_minority
set_option maxRecDepth 20000 in
theorem ggL_isSo_X3_goodwill : GoodIn wsL_isSo wsX3_goodwill := goodIn_ca (goodIn_r _ [133, 134, 43, 44, 9, 45, 46, 47, 48, 49, 50, 272, 273, 274, 275, 276, 277] (by decide +kernel) (by decide +kernel)) (goodIn_sub (fun _ h => List.mem_cons_of_mem _ (List.mem_append_left _ (List.mem_append_right _ h))) (by decide +kernel))
set_option maxRecDepth 20000 in
theorem gL_isSo_X3_goodwill : GoodIn wsL_isSo (wsV RL 97 RX3 yX3_goodwill wsX3_goodwill) := goodIn_app (goodIn_of _ (by decide +kernel)) ggL_isSo_X3_goodwill
set_option maxRecDepth 20000 in
theorem ggL_isSo_X3_held : GoodIn wsL_isSo wsX3_held := goodIn_ca (goodIn_r _ [138, 11, 43, 44, 9, 45, 46, 47, 48, 49, 50, 139, 13, 140, 141, 24, 27, 28, 272, 273, 274, 275, 276, 277, 278, 279, 280, 281, 282, 283] (by decide +kernel) (by decide +kernel)) (goodIn_sub (fun _ h => List.mem_cons_of_mem _ (List.mem_append_left _ (List.mem_append_right _ h))) (by decide +kernel))
set_option maxRecDepth 20000 in
theorem gL_isSo_X3_held : GoodIn wsL_isSo (wsV RL 100 RX3 yX3_held wsX3_held) := goodIn_app (goodIn_of _ (by decide +kernel)) ggL_isSo_X3_held
set_option maxRecDepth 20000 in
theorem ggL_isSo_L_calls : GoodIn wsL_isSo wsL_calls := goodIn_ca (goodIn_ca (goodIn_r _ [144, 145, 146, 1, 147, 148, 149, 150, 9, 151, 11, 152, 153, 154, 49, 50, 43, 44, 45, 46, 47, 48, 139, 13, 140, 141, 24, 27, 28, 155, 156, 157, 158, 159, 160, 161, 162, 163, 164, 165, 166, 167, 168, 169, 170, 171, 172, 173, 174, 175, 176, 177, 178, 179, 180, 181, 182, 183, 62, 54, 184, 185, 186, 187, 188, 189, 190, 191, 192, 193, 194, 195, 196, 134, 67, 68, 69, 70, 71, 72, 73, 74, 75, 76, 77, 78, 79, 80, 81, 82, 83, 84, 85, 86, 87, 88, 89, 197, 198, 199, 200, 201, 202, 203, 204, 205, 206, 207, 208, 209, 210, 211, 212, 213, 214, 215, 216, 217, 218, 219, 220, 221, 222, 223, 224, 225, 12, 14, 15, 16, 17, 18, 19, 20, 21, 22, 23, 25, 26, 120, 103, 104, 105, 106, 107, 226, 227, 228, 124, 125, 126, 127, 128, 129, 229, 230, 231, 97, 232, 233, 234, 235, 236, 237, 238, 272, 273, 274, 275, 276, 277, 278, 279, 280, 281, 282, 283, 284, 285, 286, 287, 288, 289, 290, 291, 292] (by decide +kernel) (by decide +kernel)) (goodIn_sub (fun _ h => List.mem_cons_of_mem _ (List.mem_append_left _ (List.mem_append_right _ h))) (by decide +kernel))) (goodIn_sub (fun _ h => List.mem_cons_of_mem _ (List.mem_append_right _ h)) (by decide +kernel))
set_option maxRecDepth 20000 in
theorem gL_isSo_L_calls : GoodIn wsL_isSo (va_wsS RL 103 yL_calls wsL_calls) := goodIn_app (goodIn_of _ (by decide +kernel)) ggL_isSo_L_calls
set_option maxRecDepth 20000 in
theorem ggL_isSo_X3_resultOf : GoodIn wsL_isSo wsX3_resultOf := goodIn_ca (goodIn_r _ [242, 49, 50, 220, 221, 46, 47, 9, 48, 272, 273, 274, 275, 276, 277] (by decide +kernel) (by decide +kernel)) (goodIn_sub (fun _ h => List.mem_cons_of_mem _ (List.mem_append_left _ (List.mem_append_right _ h))) (by decide +kernel))
set_option maxRecDepth 20000 in
theorem gL_isSo_X3_resultOf : GoodIn wsL_isSo (wsV RL 107 RX3 yX3_resultOf wsX3_resultOf) := goodIn_app (goodIn_of _ (by decide +kernel)) ggL_isSo_X3_resultOf
set_option maxRecDepth 20000 in
theorem ggL_isSo_X3_eliminated : GoodIn wsL_isSo wsX3_eliminated := goodIn_r _ [246, 202, 11, 12, 13, 14, 15, 16, 17, 18, 19, 20, 21, 22, 23, 24, 25, 9, 26, 27, 28, 247, 204, 248, 249, 207, 215, 250, 251, 252, 253, 272, 273, 274, 275, 276, 277, 278, 279, 280, 281, 282, 283, 291, 292] (by decide +kernel) (by decide +kernel)
set_option maxRecDepth 20000 in
theorem gL_isSo_X3_eliminated : GoodIn wsL_isSo (wsV RL 110 RX3 yX3_eliminated wsX3_eliminated) := goodIn_app (goodIn_of _ (by decide +kernel)) ggL_isSo_X3_eliminated
set_option maxRecDepth 20000 in
theorem ggL_isSo_X3_assets : GoodIn wsL_isSo wsX3_assets := goodIn_r _ [257, 11, 67, 202, 12, 13, 14, 15, 16, 17, 18, 19, 20, 21, 22, 23, 24, 25, 9, 26, 27, 28, 120, 73, 69, 74, 75, 76, 77, 78, 79, 80, 81, 82, 83, 84, 247, 204, 248, 249, 207, 215, 250, 251, 252, 253, 272, 273, 274, 275, 276, 277, 278, 279, 280, 281, 282, 283, 284, 285, 286, 287, 288, 289, 290, 291, 292] (by decide +kernel) (by decide +kernel)
set_option maxRecDepth 20000 in
theorem gL_isSo_X3_assets : GoodIn wsL_isSo (wsV RL 113 RX3 yX3_assets wsX3_assets) := goodIn_app (goodIn_of _ (by decide +kernel)) ggL_isSo_X3_assets
set_option maxRecDepth 20000 in
theorem ggL_isSo_X3_debts : GoodIn wsL_isSo wsX3_debts := goodIn_r _ [261, 11, 67, 202, 12, 13, 14, 15, 16, 17, 18, 19, 20, 21, 22, 23, 24, 25, 9, 26, 27, 28, 120, 86, 69, 87, 88, 89, 77, 78, 79, 80, 81, 82, 83, 84, 247, 204, 248, 249, 207, 215, 250, 251, 252, 253, 272, 273, 274, 275, 276, 277, 278, 279, 280, 281, 282, 283, 284, 285, 286, 287, 288, 289, 290, 291, 292] (by decide +kernel) (by decide +kernel)
set_option maxRecDepth 20000 in
theorem gL_isSo_X3_debts : GoodIn wsL_isSo (wsV RL 116 RX3 yX3_debts wsX3_debts) := goodIn_app (goodIn_of _ (by decide +kernel)) ggL_isSo_X3_debts
set_option maxRecDepth 20000 in
theorem ggL_isSo_X3_equity : GoodIn wsL_isSo wsX3_equity := goodIn_r _ [265, 11, 12, 13, 14, 15, 16, 17, 18, 19, 20, 21, 22, 23, 24, 25, 9, 26, 27, 28, 116, 117, 118, 119, 67, 120, 68, 69, 70, 71, 72, 73, 74, 75, 76, 77, 78, 79, 80, 81, 82, 83, 84, 85, 86, 87, 88, 89, 121, 122, 123, 54, 62, 124, 125, 126, 127, 128, 129, 266, 255, 256, 257, 202, 247, 204, 248, 249, 207, 215, 250, 251, 252, 253, 267, 259, 260, 261, 272, 273, 274, 275, 276, 277, 278, 279, 280, 281, 282, 283, 284, 285, 286, 287, 288, 289, 290, 291, 292] (by decide +kernel) (by decide +kernel)
set_option maxRecDepth 20000 in
theorem gL_isSo_X3_equity : GoodIn wsL_isSo (wsV RL 119 RX3 yX3_equity wsX3_equity) := goodIn_app (goodIn_of _ (by decide +kernel)) ggL_isSo_X3_equity
set_option maxRecDepth 20000 in
theorem ggL_isSo_X3_result : GoodIn wsL_isSo wsX3_result := goodIn_r _ [225, 11, 67, 12, 13, 14, 15, 16, 17, 18, 19, 20, 21, 22, 23, 24, 25, 9, 26, 27, 28, 120, 103, 69, 104, 105, 106, 107, 78, 79, 80, 81, 82, 83, 84, 226, 227, 228, 62, 54, 124, 125, 126, 127, 128, 129, 272, 273, 274, 275, 276, 277, 278, 279, 280, 281, 282, 283, 284, 285, 286, 287, 288, 289, 290] (by decide +kernel) (by decide +kernel)
set_option maxRecDepth 20000 in
theorem gL_isSo_X3_result : GoodIn wsL_isSo (wsV RL 122 RX3 yX3_result wsX3_result) := goodIn_app (goodIn_of _ (by decide +kernel)) ggL_isSo_X3_result
set_option maxRecDepth 20000 in
theorem ggL_isSo_L_result : GoodIn wsL_isSo wsL_result := goodIn_ca (goodIn_r _ [271, 29, 30, 4, 31, 32, 33, 34, 35, 55, 56, 57, 9, 58, 11, 43, 44, 45, 46, 47, 48, 49, 50, 59, 13, 60, 61, 62, 39, 40, 41, 42, 51, 52, 53, 54, 272, 273, 274, 275, 276, 277, 278, 279, 280, 281, 282, 283] (by decide +kernel) (by decide +kernel)) (goodIn_sub (fun _ h => List.mem_cons_of_mem _ (List.mem_append_left _ (List.mem_append_right _ h))) (by decide +kernel))
set_option maxRecDepth 20000 in
theorem gL_isSo_L_result : GoodIn wsL_isSo (va_wsS RL 125 yL_result wsL_result) := goodIn_app (goodIn_of _ (by decide +kernel)) ggL_isSo_L_result
theorem dL_isSo_0 : decode cL_isSo 0 = .ok (.aload_n 1, 1) := by decide +kernel
theorem dL_isSo_1 : decode cL_isSo 1 = .ok (.invokestatic 71, 3) := by decide +kernel
theorem dL_isSo_4 : decode cL_isSo 4 = .ok (.istore 7, 2) := by decide +kernel
theorem dL_isSo_6 : decode cL_isSo 6 = .ok (.iconst 0, 1) := by decide +kernel
theorem dL_isSo_7 : decode cL_isSo 7 = .ok (.istore 8, 2) := by decide +kernel
theorem dL_isSo_9 : decode cL_isSo 9 = .ok (.iconst 0, 1) := by decide +kernel
theorem dL_isSo_10 : decode cL_isSo 10 = .ok (.istore 9, 2) := by decide +kernel
theorem dL_isSo_12 : decode cL_isSo 12 = .ok (.iconst 0, 1) := by decide +kernel
theorem dL_isSo_13 : decode cL_isSo 13 = .ok (.istore 10, 2) := by decide +kernel
theorem dL_isSo_15 : decode cL_isSo 15 = .ok (.iconst 0, 1) := by decide +kernel
theorem dL_isSo_16 : decode cL_isSo 16 = .ok (.istore 11, 2) := by decide +kernel
theorem dL_isSo_18 : decode cL_isSo 18 = .ok (.aload_n 0, 1) := by decide +kernel
theorem dL_isSo_19 : decode cL_isSo 19 = .ok (.invokevirtual 75, 3) := by decide +kernel
theorem dL_isSo_22 : decode cL_isSo 22 = .ok (.iload 7, 2) := by decide +kernel
theorem dL_isSo_24 : decode cL_isSo 24 = .ok (.if_icmp .ne 7, 3) := by decide +kernel
theorem dL_isSo_27 : decode cL_isSo 27 = .ok (.iconst 1, 1) := by decide +kernel
theorem dL_isSo_28 : decode cL_isSo 28 = .ok (.goto 4, 3) := by decide +kernel
theorem dL_isSo_31 : decode cL_isSo 31 = .ok (.iconst 0, 1) := by decide +kernel
theorem dL_isSo_32 : decode cL_isSo 32 = .ok (.istore 12, 2) := by decide +kernel
theorem dL_isSo_34 : decode cL_isSo 34 = .ok (.iconst 0, 1) := by decide +kernel
theorem dL_isSo_35 : decode cL_isSo 35 = .ok (.istore 13, 2) := by decide +kernel
theorem dL_isSo_37 : decode cL_isSo 37 = .ok (.iload 13, 2) := by decide +kernel
theorem dL_isSo_39 : decode cL_isSo 39 = .ok (.bipush 6, 2) := by decide +kernel
theorem dL_isSo_41 : decode cL_isSo 41 = .ok (.if_icmp .ge 468, 3) := by decide +kernel
theorem dL_isSo_44 : decode cL_isSo 44 = .ok (.iload 12, 2) := by decide +kernel
theorem dL_isSo_46 : decode cL_isSo 46 = .ok (.ifCond .eq 463, 3) := by decide +kernel
theorem dL_isSo_49 : decode cL_isSo 49 = .ok (.iload 7, 2) := by decide +kernel
theorem dL_isSo_51 : decode cL_isSo 51 = .ok (.iload 13, 2) := by decide +kernel
theorem dL_isSo_53 : decode cL_isSo 53 = .ok (.ishr, 1) := by decide +kernel
theorem dL_isSo_54 : decode cL_isSo 54 = .ok (.iconst 1, 1) := by decide +kernel
theorem dL_isSo_55 : decode cL_isSo 55 = .ok (.iand, 1) := by decide +kernel
theorem dL_isSo_56 : decode cL_isSo 56 = .ok (.iconst 1, 1) := by decide +kernel
theorem dL_isSo_57 : decode cL_isSo 57 = .ok (.if_icmp .ne 7, 3) := by decide +kernel
theorem dL_isSo_60 : decode cL_isSo 60 = .ok (.iconst 1, 1) := by decide +kernel
theorem dL_isSo_61 : decode cL_isSo 61 = .ok (.goto 4, 3) := by decide +kernel
theorem dL_isSo_64 : decode cL_isSo 64 = .ok (.iconst 0, 1) := by decide +kernel
theorem dL_isSo_65 : decode cL_isSo 65 = .ok (.istore 14, 2) := by decide +kernel
theorem dL_isSo_67 : decode cL_isSo 67 = .ok (.aload 4, 2) := by decide +kernel
theorem dL_isSo_69 : decode cL_isSo 69 = .ok (.bipush 7, 2) := by decide +kernel
theorem dL_isSo_71 : decode cL_isSo 71 = .ok (.iload 13, 2) := by decide +kernel
theorem dL_isSo_73 : decode cL_isSo 73 = .ok (.imul, 1) := by decide +kernel
theorem dL_isSo_74 : decode cL_isSo 74 = .ok (.iconst 2, 1) := by decide +kernel
theorem dL_isSo_75 : decode cL_isSo 75 = .ok (.iadd, 1) := by decide +kernel
theorem dL_isSo_76 : decode cL_isSo 76 = .ok (.iaload, 1) := by decide +kernel
theorem dL_isSo_77 : decode cL_isSo 77 = .ok (.aload 4, 2) := by decide +kernel
theorem dL_isSo_79 : decode cL_isSo 79 = .ok (.bipush 7, 2) := by decide +kernel
theorem dL_isSo_81 : decode cL_isSo 81 = .ok (.iload 13, 2) := by decide +kernel
theorem dL_isSo_83 : decode cL_isSo 83 = .ok (.imul, 1) := by decide +kernel
theorem dL_isSo_84 : decode cL_isSo 84 = .ok (.bipush 6, 2) := by decide +kernel
theorem dL_isSo_86 : decode cL_isSo 86 = .ok (.iadd, 1) := by decide +kernel
theorem dL_isSo_87 : decode cL_isSo 87 = .ok (.iaload, 1) := by decide +kernel
theorem dL_isSo_88 : decode cL_isSo 88 = .ok (.invokestatic 52, 3) := by decide +kernel
theorem dL_isSo_91 : decode cL_isSo 91 = .ok (.istore 15, 2) := by decide +kernel
theorem dL_isSo_93 : decode cL_isSo 93 = .ok (.aload 4, 2) := by decide +kernel
theorem dL_isSo_95 : decode cL_isSo 95 = .ok (.bipush 7, 2) := by decide +kernel
theorem dL_isSo_97 : decode cL_isSo 97 = .ok (.iload 13, 2) := by decide +kernel
theorem dL_isSo_99 : decode cL_isSo 99 = .ok (.imul, 1) := by decide +kernel
theorem dL_isSo_100 : decode cL_isSo 100 = .ok (.iconst 3, 1) := by decide +kernel
theorem dL_isSo_101 : decode cL_isSo 101 = .ok (.iadd, 1) := by decide +kernel
theorem dL_isSo_102 : decode cL_isSo 102 = .ok (.iaload, 1) := by decide +kernel
theorem dL_isSo_103 : decode cL_isSo 103 = .ok (.aload 4, 2) := by decide +kernel
theorem dL_isSo_105 : decode cL_isSo 105 = .ok (.bipush 7, 2) := by decide +kernel
theorem dL_isSo_107 : decode cL_isSo 107 = .ok (.iload 13, 2) := by decide +kernel
theorem dL_isSo_109 : decode cL_isSo 109 = .ok (.imul, 1) := by decide +kernel
theorem dL_isSo_110 : decode cL_isSo 110 = .ok (.iconst 5, 1) := by decide +kernel
theorem dL_isSo_111 : decode cL_isSo 111 = .ok (.iadd, 1) := by decide +kernel
theorem dL_isSo_112 : decode cL_isSo 112 = .ok (.iaload, 1) := by decide +kernel
theorem dL_isSo_113 : decode cL_isSo 113 = .ok (.invokestatic 52, 3) := by decide +kernel
theorem dL_isSo_116 : decode cL_isSo 116 = .ok (.istore 16, 2) := by decide +kernel
theorem dL_isSo_118 : decode cL_isSo 118 = .ok (.iload 14, 2) := by decide +kernel
theorem dL_isSo_120 : decode cL_isSo 120 = .ok (.ifCond .eq 38, 3) := by decide +kernel
theorem dL_isSo_123 : decode cL_isSo 123 = .ok (.iload 13, 2) := by decide +kernel
theorem dL_isSo_125 : decode cL_isSo 125 = .ok (.aload 4, 2) := by decide +kernel
theorem dL_isSo_127 : decode cL_isSo 127 = .ok (.invokestatic 77, 3) := by decide +kernel
theorem dL_isSo_130 : decode cL_isSo 130 = .ok (.i2l, 1) := by decide +kernel
theorem dL_isSo_131 : decode cL_isSo 131 = .ok (.aload_n 0, 1) := by decide +kernel
theorem dL_isSo_132 : decode cL_isSo 132 = .ok (.iload 13, 2) := by decide +kernel
theorem dL_isSo_134 : decode cL_isSo 134 = .ok (.invokevirtual 61, 3) := by decide +kernel
theorem dL_isSo_137 : decode cL_isSo 137 = .ok (.aload_n 0, 1) := by decide +kernel
theorem dL_isSo_138 : decode cL_isSo 138 = .ok (.iload 13, 2) := by decide +kernel
theorem dL_isSo_140 : decode cL_isSo 140 = .ok (.invokevirtual 57, 3) := by decide +kernel
theorem dL_isSo_143 : decode cL_isSo 143 = .ok (.lsub, 1) := by decide +kernel
theorem dL_isSo_144 : decode cL_isSo 144 = .ok (.lmul, 1) := by decide +kernel
theorem dL_isSo_145 : decode cL_isSo 145 = .ok (.aload_n 0, 1) := by decide +kernel
theorem dL_isSo_146 : decode cL_isSo 146 = .ok (.iload 13, 2) := by decide +kernel
theorem dL_isSo_148 : decode cL_isSo 148 = .ok (.invokevirtual 61, 3) := by decide +kernel
theorem dL_isSo_151 : decode cL_isSo 151 = .ok (.invokestatic 46, 3) := by decide +kernel
theorem dL_isSo_154 : decode cL_isSo 154 = .ok (.l2i, 1) := by decide +kernel
theorem dL_isSo_155 : decode cL_isSo 155 = .ok (.goto 4, 3) := by decide +kernel
theorem dL_isSo_158 : decode cL_isSo 158 = .ok (.iconst 0, 1) := by decide +kernel
theorem dL_isSo_159 : decode cL_isSo 159 = .ok (.istore 17, 2) := by decide +kernel
theorem dL_isSo_161 : decode cL_isSo 161 = .ok (.iload 8, 2) := by decide +kernel
theorem dL_isSo_163 : decode cL_isSo 163 = .ok (.iload 14, 2) := by decide +kernel
theorem dL_isSo_165 : decode cL_isSo 165 = .ok (.ifCond .eq 27, 3) := by decide +kernel
theorem dL_isSo_168 : decode cL_isSo 168 = .ok (.aload 4, 2) := by decide +kernel
theorem dL_isSo_170 : decode cL_isSo 170 = .ok (.bipush 7, 2) := by decide +kernel
theorem dL_isSo_172 : decode cL_isSo 172 = .ok (.iload 13, 2) := by decide +kernel
theorem dL_isSo_174 : decode cL_isSo 174 = .ok (.imul, 1) := by decide +kernel
theorem dL_isSo_175 : decode cL_isSo 175 = .ok (.iaload, 1) := by decide +kernel
theorem dL_isSo_176 : decode cL_isSo 176 = .ok (.aload 4, 2) := by decide +kernel
theorem dL_isSo_178 : decode cL_isSo 178 = .ok (.bipush 7, 2) := by decide +kernel
theorem dL_isSo_180 : decode cL_isSo 180 = .ok (.iload 13, 2) := by decide +kernel
theorem dL_isSo_182 : decode cL_isSo 182 = .ok (.imul, 1) := by decide +kernel
theorem dL_isSo_183 : decode cL_isSo 183 = .ok (.iconst 4, 1) := by decide +kernel
theorem dL_isSo_184 : decode cL_isSo 184 = .ok (.iadd, 1) := by decide +kernel
theorem dL_isSo_185 : decode cL_isSo 185 = .ok (.iaload, 1) := by decide +kernel
theorem dL_isSo_186 : decode cL_isSo 186 = .ok (.invokestatic 52, 3) := by decide +kernel
theorem dL_isSo_189 : decode cL_isSo 189 = .ok (.goto 4, 3) := by decide +kernel
theorem dL_isSo_192 : decode cL_isSo 192 = .ok (.iconst 0, 1) := by decide +kernel
theorem dL_isSo_193 : decode cL_isSo 193 = .ok (.iadd, 1) := by decide +kernel
theorem dL_isSo_194 : decode cL_isSo 194 = .ok (.istore 8, 2) := by decide +kernel
theorem dL_isSo_196 : decode cL_isSo 196 = .ok (.iload 9, 2) := by decide +kernel
theorem dL_isSo_198 : decode cL_isSo 198 = .ok (.iload 14, 2) := by decide +kernel
theorem dL_isSo_200 : decode cL_isSo 200 = .ok (.ifCond .eq 29, 3) := by decide +kernel
theorem dL_isSo_203 : decode cL_isSo 203 = .ok (.aload 4, 2) := by decide +kernel
theorem dL_isSo_205 : decode cL_isSo 205 = .ok (.bipush 7, 2) := by decide +kernel
theorem dL_isSo_207 : decode cL_isSo 207 = .ok (.iload 13, 2) := by decide +kernel
theorem dL_isSo_209 : decode cL_isSo 209 = .ok (.imul, 1) := by decide +kernel
theorem dL_isSo_210 : decode cL_isSo 210 = .ok (.iconst 1, 1) := by decide +kernel
theorem dL_isSo_211 : decode cL_isSo 211 = .ok (.iadd, 1) := by decide +kernel
theorem dL_isSo_212 : decode cL_isSo 212 = .ok (.iaload, 1) := by decide +kernel
theorem dL_isSo_213 : decode cL_isSo 213 = .ok (.aload 4, 2) := by decide +kernel
theorem dL_isSo_215 : decode cL_isSo 215 = .ok (.bipush 7, 2) := by decide +kernel
theorem dL_isSo_217 : decode cL_isSo 217 = .ok (.iload 13, 2) := by decide +kernel
theorem dL_isSo_219 : decode cL_isSo 219 = .ok (.imul, 1) := by decide +kernel
theorem dL_isSo_220 : decode cL_isSo 220 = .ok (.iconst 4, 1) := by decide +kernel
theorem dL_isSo_221 : decode cL_isSo 221 = .ok (.iadd, 1) := by decide +kernel
theorem dL_isSo_222 : decode cL_isSo 222 = .ok (.iaload, 1) := by decide +kernel
theorem dL_isSo_223 : decode cL_isSo 223 = .ok (.invokestatic 52, 3) := by decide +kernel
theorem dL_isSo_226 : decode cL_isSo 226 = .ok (.goto 4, 3) := by decide +kernel
theorem dL_isSo_229 : decode cL_isSo 229 = .ok (.iconst 0, 1) := by decide +kernel
theorem dL_isSo_230 : decode cL_isSo 230 = .ok (.iadd, 1) := by decide +kernel
theorem dL_isSo_231 : decode cL_isSo 231 = .ok (.istore 9, 2) := by decide +kernel
theorem dL_isSo_233 : decode cL_isSo 233 = .ok (.iload 11, 2) := by decide +kernel
theorem dL_isSo_235 : decode cL_isSo 235 = .ok (.iload 17, 2) := by decide +kernel
theorem dL_isSo_237 : decode cL_isSo 237 = .ok (.iadd, 1) := by decide +kernel
theorem dL_isSo_238 : decode cL_isSo 238 = .ok (.istore 11, 2) := by decide +kernel
theorem dL_isSo_240 : decode cL_isSo 240 = .ok (.aload_n 0, 1) := by decide +kernel
theorem dL_isSo_241 : decode cL_isSo 241 = .ok (.iload 13, 2) := by decide +kernel
theorem dL_isSo_243 : decode cL_isSo 243 = .ok (.invokevirtual 81, 3) := by decide +kernel
theorem dL_isSo_246 : decode cL_isSo 246 = .ok (.iload 13, 2) := by decide +kernel
theorem dL_isSo_248 : decode cL_isSo 248 = .ok (.aload 4, 2) := by decide +kernel
theorem dL_isSo_250 : decode cL_isSo 250 = .ok (.invokestatic 77, 3) := by decide +kernel
theorem dL_isSo_253 : decode cL_isSo 253 = .ok (.if_icmp .ne 76, 3) := by decide +kernel
theorem dL_isSo_256 : decode cL_isSo 256 = .ok (.aload_n 0, 1) := by decide +kernel
theorem dL_isSo_257 : decode cL_isSo 257 = .ok (.iload 13, 2) := by decide +kernel
theorem dL_isSo_259 : decode cL_isSo 259 = .ok (.invokevirtual 85, 3) := by decide +kernel
theorem dL_isSo_262 : decode cL_isSo 262 = .ok (.iload 15, 2) := by decide +kernel
theorem dL_isSo_264 : decode cL_isSo 264 = .ok (.if_icmp .ne 65, 3) := by decide +kernel
theorem dL_isSo_267 : decode cL_isSo 267 = .ok (.aload_n 0, 1) := by decide +kernel
theorem dL_isSo_268 : decode cL_isSo 268 = .ok (.iload 13, 2) := by decide +kernel
theorem dL_isSo_270 : decode cL_isSo 270 = .ok (.invokevirtual 88, 3) := by decide +kernel
theorem dL_isSo_273 : decode cL_isSo 273 = .ok (.iload 16, 2) := by decide +kernel
theorem dL_isSo_275 : decode cL_isSo 275 = .ok (.if_icmp .ne 54, 3) := by decide +kernel
theorem dL_isSo_278 : decode cL_isSo 278 = .ok (.aload_n 0, 1) := by decide +kernel
theorem dL_isSo_279 : decode cL_isSo 279 = .ok (.iload 13, 2) := by decide +kernel
theorem dL_isSo_281 : decode cL_isSo 281 = .ok (.invokevirtual 91, 3) := by decide +kernel
theorem dL_isSo_284 : decode cL_isSo 284 = .ok (.iload 13, 2) := by decide +kernel
theorem dL_isSo_286 : decode cL_isSo 286 = .ok (.aload 4, 2) := by decide +kernel
theorem dL_isSo_288 : decode cL_isSo 288 = .ok (.invokestatic 77, 3) := by decide +kernel
theorem dL_isSo_291 : decode cL_isSo 291 = .ok (.iload 15, 2) := by decide +kernel
theorem dL_isSo_293 : decode cL_isSo 293 = .ok (.isub, 1) := by decide +kernel
theorem dL_isSo_294 : decode cL_isSo 294 = .ok (.iload 16, 2) := by decide +kernel
theorem dL_isSo_296 : decode cL_isSo 296 = .ok (.isub, 1) := by decide +kernel
theorem dL_isSo_297 : decode cL_isSo 297 = .ok (.if_icmp .ne 32, 3) := by decide +kernel
theorem dL_isSo_300 : decode cL_isSo 300 = .ok (.aload_n 0, 1) := by decide +kernel
theorem dL_isSo_301 : decode cL_isSo 301 = .ok (.iload 13, 2) := by decide +kernel
theorem dL_isSo_303 : decode cL_isSo 303 = .ok (.invokevirtual 94, 3) := by decide +kernel
theorem dL_isSo_306 : decode cL_isSo 306 = .ok (.iload 17, 2) := by decide +kernel
theorem dL_isSo_308 : decode cL_isSo 308 = .ok (.if_icmp .ne 21, 3) := by decide +kernel
theorem dL_isSo_311 : decode cL_isSo 311 = .ok (.aload_n 0, 1) := by decide +kernel
theorem dL_isSo_312 : decode cL_isSo 312 = .ok (.iload 13, 2) := by decide +kernel
theorem dL_isSo_314 : decode cL_isSo 314 = .ok (.invokevirtual 97, 3) := by decide +kernel
theorem dL_isSo_317 : decode cL_isSo 317 = .ok (.aload 5, 2) := by decide +kernel
theorem dL_isSo_319 : decode cL_isSo 319 = .ok (.iload 13, 2) := by decide +kernel
theorem dL_isSo_321 : decode cL_isSo 321 = .ok (.iaload, 1) := by decide +kernel
theorem dL_isSo_322 : decode cL_isSo 322 = .ok (.if_icmp .ne 7, 3) := by decide +kernel
theorem dL_isSo_325 : decode cL_isSo 325 = .ok (.iconst 1, 1) := by decide +kernel
theorem dL_isSo_326 : decode cL_isSo 326 = .ok (.goto 4, 3) := by decide +kernel
theorem dL_isSo_329 : decode cL_isSo 329 = .ok (.iconst 0, 1) := by decide +kernel
theorem dL_isSo_330 : decode cL_isSo 330 = .ok (.istore 12, 2) := by decide +kernel
theorem dL_isSo_332 : decode cL_isSo 332 = .ok (.iconst 0, 1) := by decide +kernel
theorem dL_isSo_333 : decode cL_isSo 333 = .ok (.istore 18, 2) := by decide +kernel
theorem dL_isSo_335 : decode cL_isSo 335 = .ok (.iload 18, 2) := by decide +kernel
theorem dL_isSo_337 : decode cL_isSo 337 = .ok (.bipush 6, 2) := by decide +kernel
theorem dL_isSo_339 : decode cL_isSo 339 = .ok (.if_icmp .ge 164, 3) := by decide +kernel
theorem dL_isSo_342 : decode cL_isSo 342 = .ok (.iload 12, 2) := by decide +kernel
theorem dL_isSo_344 : decode cL_isSo 344 = .ok (.ifCond .eq 159, 3) := by decide +kernel
theorem dL_isSo_347 : decode cL_isSo 347 = .ok (.aload_n 2, 1) := by decide +kernel
theorem dL_isSo_348 : decode cL_isSo 348 = .ok (.bipush 6, 2) := by decide +kernel
theorem dL_isSo_350 : decode cL_isSo 350 = .ok (.iload 13, 2) := by decide +kernel
theorem dL_isSo_352 : decode cL_isSo 352 = .ok (.imul, 1) := by decide +kernel
theorem dL_isSo_353 : decode cL_isSo 353 = .ok (.iload 18, 2) := by decide +kernel
theorem dL_isSo_355 : decode cL_isSo 355 = .ok (.iadd, 1) := by decide +kernel
theorem dL_isSo_356 : decode cL_isSo 356 = .ok (.iaload, 1) := by decide +kernel
theorem dL_isSo_357 : decode cL_isSo 357 = .ok (.aload_n 3, 1) := by decide +kernel
theorem dL_isSo_358 : decode cL_isSo 358 = .ok (.bipush 6, 2) := by decide +kernel
theorem dL_isSo_360 : decode cL_isSo 360 = .ok (.iload 13, 2) := by decide +kernel
theorem dL_isSo_362 : decode cL_isSo 362 = .ok (.imul, 1) := by decide +kernel
theorem dL_isSo_363 : decode cL_isSo 363 = .ok (.iload 18, 2) := by decide +kernel
theorem dL_isSo_365 : decode cL_isSo 365 = .ok (.iadd, 1) := by decide +kernel
theorem dL_isSo_366 : decode cL_isSo 366 = .ok (.iaload, 1) := by decide +kernel
theorem dL_isSo_367 : decode cL_isSo 367 = .ok (.if_icmp .ge 16, 3) := by decide +kernel
theorem dL_isSo_370 : decode cL_isSo 370 = .ok (.aload_n 2, 1) := by decide +kernel
theorem dL_isSo_371 : decode cL_isSo 371 = .ok (.bipush 6, 2) := by decide +kernel
theorem dL_isSo_373 : decode cL_isSo 373 = .ok (.iload 13, 2) := by decide +kernel
theorem dL_isSo_375 : decode cL_isSo 375 = .ok (.imul, 1) := by decide +kernel
theorem dL_isSo_376 : decode cL_isSo 376 = .ok (.iload 18, 2) := by decide +kernel
theorem dL_isSo_378 : decode cL_isSo 378 = .ok (.iadd, 1) := by decide +kernel
theorem dL_isSo_379 : decode cL_isSo 379 = .ok (.iaload, 1) := by decide +kernel
theorem dL_isSo_380 : decode cL_isSo 380 = .ok (.goto 13, 3) := by decide +kernel
theorem dL_isSo_383 : decode cL_isSo 383 = .ok (.aload_n 3, 1) := by decide +kernel
theorem dL_isSo_384 : decode cL_isSo 384 = .ok (.bipush 6, 2) := by decide +kernel
theorem dL_isSo_386 : decode cL_isSo 386 = .ok (.iload 13, 2) := by decide +kernel
theorem dL_isSo_388 : decode cL_isSo 388 = .ok (.imul, 1) := by decide +kernel
theorem dL_isSo_389 : decode cL_isSo 389 = .ok (.iload 18, 2) := by decide +kernel
theorem dL_isSo_391 : decode cL_isSo 391 = .ok (.iadd, 1) := by decide +kernel
theorem dL_isSo_392 : decode cL_isSo 392 = .ok (.iaload, 1) := by decide +kernel
theorem dL_isSo_393 : decode cL_isSo 393 = .ok (.istore 19, 2) := by decide +kernel
theorem dL_isSo_395 : decode cL_isSo 395 = .ok (.iload 10, 2) := by decide +kernel
theorem dL_isSo_397 : decode cL_isSo 397 = .ok (.iload 14, 2) := by decide +kernel
theorem dL_isSo_399 : decode cL_isSo 399 = .ok (.ifCond .eq 19, 3) := by decide +kernel
theorem dL_isSo_402 : decode cL_isSo 402 = .ok (.iload 7, 2) := by decide +kernel
theorem dL_isSo_404 : decode cL_isSo 404 = .ok (.iload 18, 2) := by decide +kernel
theorem dL_isSo_406 : decode cL_isSo 406 = .ok (.ishr, 1) := by decide +kernel
theorem dL_isSo_407 : decode cL_isSo 407 = .ok (.iconst 1, 1) := by decide +kernel
theorem dL_isSo_408 : decode cL_isSo 408 = .ok (.iand, 1) := by decide +kernel
theorem dL_isSo_409 : decode cL_isSo 409 = .ok (.iconst 1, 1) := by decide +kernel
theorem dL_isSo_410 : decode cL_isSo 410 = .ok (.if_icmp .ne 8, 3) := by decide +kernel
theorem dL_isSo_413 : decode cL_isSo 413 = .ok (.iload 19, 2) := by decide +kernel
theorem dL_isSo_415 : decode cL_isSo 415 = .ok (.goto 4, 3) := by decide +kernel
theorem dL_isSo_418 : decode cL_isSo 418 = .ok (.iconst 0, 1) := by decide +kernel
theorem dL_isSo_419 : decode cL_isSo 419 = .ok (.iadd, 1) := by decide +kernel
theorem dL_isSo_420 : decode cL_isSo 420 = .ok (.istore 10, 2) := by decide +kernel
theorem dL_isSo_422 : decode cL_isSo 422 = .ok (.aload_n 0, 1) := by decide +kernel
theorem dL_isSo_423 : decode cL_isSo 423 = .ok (.iload 13, 2) := by decide +kernel
theorem dL_isSo_425 : decode cL_isSo 425 = .ok (.iload 18, 2) := by decide +kernel
theorem dL_isSo_427 : decode cL_isSo 427 = .ok (.invokevirtual 100, 3) := by decide +kernel
theorem dL_isSo_430 : decode cL_isSo 430 = .ok (.aload_n 1, 1) := by decide +kernel
theorem dL_isSo_431 : decode cL_isSo 431 = .ok (.bipush 6, 2) := by decide +kernel
theorem dL_isSo_433 : decode cL_isSo 433 = .ok (.iload 13, 2) := by decide +kernel
theorem dL_isSo_435 : decode cL_isSo 435 = .ok (.imul, 1) := by decide +kernel
theorem dL_isSo_436 : decode cL_isSo 436 = .ok (.iload 18, 2) := by decide +kernel
theorem dL_isSo_438 : decode cL_isSo 438 = .ok (.iadd, 1) := by decide +kernel
theorem dL_isSo_439 : decode cL_isSo 439 = .ok (.iaload, 1) := by decide +kernel
theorem dL_isSo_440 : decode cL_isSo 440 = .ok (.if_icmp .ne 54, 3) := by decide +kernel
theorem dL_isSo_443 : decode cL_isSo 443 = .ok (.aload_n 0, 1) := by decide +kernel
theorem dL_isSo_444 : decode cL_isSo 444 = .ok (.iconst 5, 1) := by decide +kernel
theorem dL_isSo_445 : decode cL_isSo 445 = .ok (.iload 13, 2) := by decide +kernel
theorem dL_isSo_447 : decode cL_isSo 447 = .ok (.iload 18, 2) := by decide +kernel
theorem dL_isSo_449 : decode cL_isSo 449 = .ok (.iconst 0, 1) := by decide +kernel
theorem dL_isSo_450 : decode cL_isSo 450 = .ok (.iconst 0, 1) := by decide +kernel
theorem dL_isSo_451 : decode cL_isSo 451 = .ok (.invokestatic 103, 3) := by decide +kernel
theorem dL_isSo_454 : decode cL_isSo 454 = .ok (.iload 13, 2) := by decide +kernel
theorem dL_isSo_456 : decode cL_isSo 456 = .ok (.iload 18, 2) := by decide +kernel
theorem dL_isSo_458 : decode cL_isSo 458 = .ok (.if_icmp .ne 8, 3) := by decide +kernel
theorem dL_isSo_461 : decode cL_isSo 461 = .ok (.ldc 36, 2) := by decide +kernel
theorem dL_isSo_463 : decode cL_isSo 463 = .ok (.goto 24, 3) := by decide +kernel
theorem dL_isSo_466 : decode cL_isSo 466 = .ok (.aload_n 2, 1) := by decide +kernel
theorem dL_isSo_467 : decode cL_isSo 467 = .ok (.bipush 6, 2) := by decide +kernel
theorem dL_isSo_469 : decode cL_isSo 469 = .ok (.iload 13, 2) := by decide +kernel
theorem dL_isSo_471 : decode cL_isSo 471 = .ok (.imul, 1) := by decide +kernel
theorem dL_isSo_472 : decode cL_isSo 472 = .ok (.iload 18, 2) := by decide +kernel
theorem dL_isSo_474 : decode cL_isSo 474 = .ok (.iadd, 1) := by decide +kernel
theorem dL_isSo_475 : decode cL_isSo 475 = .ok (.iaload, 1) := by decide +kernel
theorem dL_isSo_476 : decode cL_isSo 476 = .ok (.aload_n 3, 1) := by decide +kernel
theorem dL_isSo_477 : decode cL_isSo 477 = .ok (.bipush 6, 2) := by decide +kernel
theorem dL_isSo_479 : decode cL_isSo 479 = .ok (.iload 13, 2) := by decide +kernel
theorem dL_isSo_481 : decode cL_isSo 481 = .ok (.imul, 1) := by decide +kernel
theorem dL_isSo_482 : decode cL_isSo 482 = .ok (.iload 18, 2) := by decide +kernel
theorem dL_isSo_484 : decode cL_isSo 484 = .ok (.iadd, 1) := by decide +kernel
theorem dL_isSo_485 : decode cL_isSo 485 = .ok (.iaload, 1) := by decide +kernel
theorem dL_isSo_486 : decode cL_isSo 486 = .ok (.isub, 1) := by decide +kernel
theorem dL_isSo_487 : decode cL_isSo 487 = .ok (.if_icmp .ne 7, 3) := by decide +kernel
theorem dL_isSo_490 : decode cL_isSo 490 = .ok (.iconst 1, 1) := by decide +kernel
theorem dL_isSo_491 : decode cL_isSo 491 = .ok (.goto 4, 3) := by decide +kernel
theorem dL_isSo_494 : decode cL_isSo 494 = .ok (.iconst 0, 1) := by decide +kernel
theorem dL_isSo_495 : decode cL_isSo 495 = .ok (.istore 12, 2) := by decide +kernel
theorem dL_isSo_497 : decode cL_isSo 497 = .ok (.iinc 18 1, 3) := by decide +kernel
theorem dL_isSo_500 : decode cL_isSo 500 = .ok (.goto (-165), 3) := by decide +kernel
theorem dL_isSo_503 : decode cL_isSo 503 = .ok (.iinc 13 1, 3) := by decide +kernel
theorem dL_isSo_506 : decode cL_isSo 506 = .ok (.goto (-469), 3) := by decide +kernel
theorem dL_isSo_509 : decode cL_isSo 509 = .ok (.iconst 0, 1) := by decide +kernel
theorem dL_isSo_510 : decode cL_isSo 510 = .ok (.istore 13, 2) := by decide +kernel
theorem dL_isSo_512 : decode cL_isSo 512 = .ok (.iload 13, 2) := by decide +kernel
theorem dL_isSo_514 : decode cL_isSo 514 = .ok (.aload 6, 2) := by decide +kernel
theorem dL_isSo_516 : decode cL_isSo 516 = .ok (.iconst 0, 1) := by decide +kernel
theorem dL_isSo_517 : decode cL_isSo 517 = .ok (.iaload, 1) := by decide +kernel
theorem dL_isSo_518 : decode cL_isSo 518 = .ok (.if_icmp .ge 38, 3) := by decide +kernel
theorem dL_isSo_521 : decode cL_isSo 521 = .ok (.iload 12, 2) := by decide +kernel
theorem dL_isSo_523 : decode cL_isSo 523 = .ok (.ifCond .eq 33, 3) := by decide +kernel
theorem dL_isSo_526 : decode cL_isSo 526 = .ok (.aload_n 0, 1) := by decide +kernel
theorem dL_isSo_527 : decode cL_isSo 527 = .ok (.iload 13, 2) := by decide +kernel
theorem dL_isSo_529 : decode cL_isSo 529 = .ok (.invokevirtual 107, 3) := by decide +kernel
theorem dL_isSo_532 : decode cL_isSo 532 = .ok (.aload 5, 2) := by decide +kernel
theorem dL_isSo_534 : decode cL_isSo 534 = .ok (.bipush 6, 2) := by decide +kernel
theorem dL_isSo_536 : decode cL_isSo 536 = .ok (.iload 13, 2) := by decide +kernel
theorem dL_isSo_538 : decode cL_isSo 538 = .ok (.iadd, 1) := by decide +kernel
theorem dL_isSo_539 : decode cL_isSo 539 = .ok (.iaload, 1) := by decide +kernel
theorem dL_isSo_540 : decode cL_isSo 540 = .ok (.if_icmp .ne 7, 3) := by decide +kernel
theorem dL_isSo_543 : decode cL_isSo 543 = .ok (.iconst 1, 1) := by decide +kernel
theorem dL_isSo_544 : decode cL_isSo 544 = .ok (.goto 4, 3) := by decide +kernel
theorem dL_isSo_547 : decode cL_isSo 547 = .ok (.iconst 0, 1) := by decide +kernel
theorem dL_isSo_548 : decode cL_isSo 548 = .ok (.istore 12, 2) := by decide +kernel
theorem dL_isSo_550 : decode cL_isSo 550 = .ok (.iinc 13 1, 3) := by decide +kernel
theorem dL_isSo_553 : decode cL_isSo 553 = .ok (.goto (-41), 3) := by decide +kernel
theorem dL_isSo_556 : decode cL_isSo 556 = .ok (.iload 12, 2) := by decide +kernel
theorem dL_isSo_558 : decode cL_isSo 558 = .ok (.ifCond .eq 70, 3) := by decide +kernel
theorem dL_isSo_561 : decode cL_isSo 561 = .ok (.aload_n 0, 1) := by decide +kernel
theorem dL_isSo_562 : decode cL_isSo 562 = .ok (.invokevirtual 110, 3) := by decide +kernel
theorem dL_isSo_565 : decode cL_isSo 565 = .ok (.iload 10, 2) := by decide +kernel
theorem dL_isSo_567 : decode cL_isSo 567 = .ok (.if_icmp .ne 61, 3) := by decide +kernel
theorem dL_isSo_570 : decode cL_isSo 570 = .ok (.aload_n 0, 1) := by decide +kernel
theorem dL_isSo_571 : decode cL_isSo 571 = .ok (.invokevirtual 113, 3) := by decide +kernel
theorem dL_isSo_574 : decode cL_isSo 574 = .ok (.iload 8, 2) := by decide +kernel
theorem dL_isSo_576 : decode cL_isSo 576 = .ok (.iload 10, 2) := by decide +kernel
theorem dL_isSo_578 : decode cL_isSo 578 = .ok (.isub, 1) := by decide +kernel
theorem dL_isSo_579 : decode cL_isSo 579 = .ok (.if_icmp .ne 49, 3) := by decide +kernel
theorem dL_isSo_582 : decode cL_isSo 582 = .ok (.aload_n 0, 1) := by decide +kernel
theorem dL_isSo_583 : decode cL_isSo 583 = .ok (.invokevirtual 116, 3) := by decide +kernel
theorem dL_isSo_586 : decode cL_isSo 586 = .ok (.iload 9, 2) := by decide +kernel
theorem dL_isSo_588 : decode cL_isSo 588 = .ok (.iload 10, 2) := by decide +kernel
theorem dL_isSo_590 : decode cL_isSo 590 = .ok (.isub, 1) := by decide +kernel
theorem dL_isSo_591 : decode cL_isSo 591 = .ok (.if_icmp .ne 37, 3) := by decide +kernel
theorem dL_isSo_594 : decode cL_isSo 594 = .ok (.aload_n 0, 1) := by decide +kernel
theorem dL_isSo_595 : decode cL_isSo 595 = .ok (.invokevirtual 119, 3) := by decide +kernel
theorem dL_isSo_598 : decode cL_isSo 598 = .ok (.iload 8, 2) := by decide +kernel
theorem dL_isSo_600 : decode cL_isSo 600 = .ok (.iload 9, 2) := by decide +kernel
theorem dL_isSo_602 : decode cL_isSo 602 = .ok (.isub, 1) := by decide +kernel
theorem dL_isSo_603 : decode cL_isSo 603 = .ok (.iload 11, 2) := by decide +kernel
theorem dL_isSo_605 : decode cL_isSo 605 = .ok (.isub, 1) := by decide +kernel
theorem dL_isSo_606 : decode cL_isSo 606 = .ok (.if_icmp .ne 22, 3) := by decide +kernel
theorem dL_isSo_609 : decode cL_isSo 609 = .ok (.aload_n 0, 1) := by decide +kernel
theorem dL_isSo_610 : decode cL_isSo 610 = .ok (.invokevirtual 122, 3) := by decide +kernel
theorem dL_isSo_613 : decode cL_isSo 613 = .ok (.aload_n 0, 1) := by decide +kernel
theorem dL_isSo_614 : decode cL_isSo 614 = .ok (.iload 7, 2) := by decide +kernel
theorem dL_isSo_616 : decode cL_isSo 616 = .ok (.aload 4, 2) := by decide +kernel
theorem dL_isSo_618 : decode cL_isSo 618 = .ok (.invokestatic 125, 3) := by decide +kernel
theorem dL_isSo_621 : decode cL_isSo 621 = .ok (.if_icmp .ne 7, 3) := by decide +kernel
theorem dL_isSo_624 : decode cL_isSo 624 = .ok (.iconst 1, 1) := by decide +kernel
theorem dL_isSo_625 : decode cL_isSo 625 = .ok (.goto 4, 3) := by decide +kernel
theorem dL_isSo_628 : decode cL_isSo 628 = .ok (.iconst 0, 1) := by decide +kernel
theorem dL_isSo_629 : decode cL_isSo 629 = .ok (.ireturn, 1) := by decide +kernel
set_option maxRecDepth 20000 in
theorem ggL_due_L_total : GoodIn wsL_due wsL_total := goodIn_r _ [7] (by decide +kernel) (by decide +kernel)
set_option maxRecDepth 20000 in
theorem gL_due_L_total : GoodIn wsL_due (va_wsS RL 128 yL_total wsL_total) := goodIn_app (goodIn_of _ (by decide +kernel)) ggL_due_L_total
set_option maxRecDepth 20000 in
theorem ggL_due_L_closedRing : GoodIn wsL_due wsL_closedRing := goodIn_r _ [10] (by decide +kernel) (by decide +kernel)
set_option maxRecDepth 20000 in
theorem gL_due_L_closedRing : GoodIn wsL_due (va_wsS RL 131 yL_closedRing wsL_closedRing) := goodIn_app (goodIn_of _ (by decide +kernel)) ggL_due_L_closedRing
set_option maxRecDepth 20000 in
theorem ggL_due_L_net : GoodIn wsL_due wsL_net := goodIn_r _ [13, 14, 15, 6, 16, 3, 17, 18, 19] (by decide +kernel) (by decide +kernel)
set_option maxRecDepth 20000 in
theorem gL_due_L_net : GoodIn wsL_due (va_wsS RL 77 yL_net wsL_net) := goodIn_app (goodIn_of _ (by decide +kernel)) ggL_due_L_net
set_option maxRecDepth 20000 in
theorem ggL_due_L_floor : GoodIn wsL_due wsL_floor := goodIn_r _ [19] (by decide +kernel) (by decide +kernel)
set_option maxRecDepth 20000 in
theorem gL_due_L_floor : GoodIn wsL_due (va_wsS RL 46 yL_floor wsL_floor) := goodIn_app (goodIn_of _ (by decide +kernel)) ggL_due_L_floor
theorem dL_due_0 : decode cL_due 0 = .ok (.bipush 6, 2) := by decide +kernel
theorem dL_due_2 : decode cL_due 2 = .ok (.iload_n 1, 1) := by decide +kernel
theorem dL_due_3 : decode cL_due 3 = .ok (.imul, 1) := by decide +kernel
theorem dL_due_4 : decode cL_due 4 = .ok (.iload_n 2, 1) := by decide +kernel
theorem dL_due_5 : decode cL_due 5 = .ok (.iadd, 1) := by decide +kernel
theorem dL_due_6 : decode cL_due 6 = .ok (.istore 8, 2) := by decide +kernel
theorem dL_due_8 : decode cL_due 8 = .ok (.aload 5, 2) := by decide +kernel
theorem dL_due_10 : decode cL_due 10 = .ok (.iload 8, 2) := by decide +kernel
theorem dL_due_12 : decode cL_due 12 = .ok (.iaload, 1) := by decide +kernel
theorem dL_due_13 : decode cL_due 13 = .ok (.istore 9, 2) := by decide +kernel
theorem dL_due_15 : decode cL_due 15 = .ok (.iload_n 1, 1) := by decide +kernel
theorem dL_due_16 : decode cL_due 16 = .ok (.iload_n 2, 1) := by decide +kernel
theorem dL_due_17 : decode cL_due 17 = .ok (.if_icmp .eq 12, 3) := by decide +kernel
theorem dL_due_20 : decode cL_due 20 = .ok (.iload_n 0, 1) := by decide +kernel
theorem dL_due_21 : decode cL_due 21 = .ok (.iconst 1, 1) := by decide +kernel
theorem dL_due_22 : decode cL_due 22 = .ok (.if_icmp .ne 10, 3) := by decide +kernel
theorem dL_due_25 : decode cL_due 25 = .ok (.iload_n 3, 1) := by decide +kernel
theorem dL_due_26 : decode cL_due 26 = .ok (.ifCond .ne 6, 3) := by decide +kernel
theorem dL_due_29 : decode cL_due 29 = .ok (.ldc 36, 2) := by decide +kernel
theorem dL_due_31 : decode cL_due 31 = .ok (.ireturn, 1) := by decide +kernel
theorem dL_due_32 : decode cL_due 32 = .ok (.aload 5, 2) := by decide +kernel
theorem dL_due_34 : decode cL_due 34 = .ok (.iload 8, 2) := by decide +kernel
theorem dL_due_36 : decode cL_due 36 = .ok (.iload_n 0, 1) := by decide +kernel
theorem dL_due_37 : decode cL_due 37 = .ok (.ifCond .ne 7, 3) := by decide +kernel
theorem dL_due_40 : decode cL_due 40 = .ok (.iload_n 3, 1) := by decide +kernel
theorem dL_due_41 : decode cL_due 41 = .ok (.goto 7, 3) := by decide +kernel
theorem dL_due_44 : decode cL_due 44 = .ok (.iload 9, 2) := by decide +kernel
theorem dL_due_46 : decode cL_due 46 = .ok (.iload_n 3, 1) := by decide +kernel
theorem dL_due_47 : decode cL_due 47 = .ok (.iadd, 1) := by decide +kernel
theorem dL_due_48 : decode cL_due 48 = .ok (.iastore, 1) := by decide +kernel
theorem dL_due_49 : decode cL_due 49 = .ok (.iload_n 2, 1) := by decide +kernel
theorem dL_due_50 : decode cL_due 50 = .ok (.aload 5, 2) := by decide +kernel
theorem dL_due_52 : decode cL_due 52 = .ok (.invokestatic 128, 3) := by decide +kernel
theorem dL_due_55 : decode cL_due 55 = .ok (.bipush 100, 2) := by decide +kernel
theorem dL_due_57 : decode cL_due 57 = .ok (.if_icmp .gt 11, 3) := by decide +kernel
theorem dL_due_60 : decode cL_due 60 = .ok (.aload 5, 2) := by decide +kernel
theorem dL_due_62 : decode cL_due 62 = .ok (.invokestatic 131, 3) := by decide +kernel
theorem dL_due_65 : decode cL_due 65 = .ok (.ifCond .eq 13, 3) := by decide +kernel
theorem dL_due_68 : decode cL_due 68 = .ok (.aload 5, 2) := by decide +kernel
theorem dL_due_70 : decode cL_due 70 = .ok (.iload 8, 2) := by decide +kernel
theorem dL_due_72 : decode cL_due 72 = .ok (.iload 9, 2) := by decide +kernel
theorem dL_due_74 : decode cL_due 74 = .ok (.iastore, 1) := by decide +kernel
theorem dL_due_75 : decode cL_due 75 = .ok (.ldc 39, 2) := by decide +kernel
theorem dL_due_77 : decode cL_due 77 = .ok (.ireturn, 1) := by decide +kernel
theorem dL_due_78 : decode cL_due 78 = .ok (.aload 7, 2) := by decide +kernel
theorem dL_due_80 : decode cL_due 80 = .ok (.iload_n 2, 1) := by decide +kernel
theorem dL_due_81 : decode cL_due 81 = .ok (.dup2, 1) := by decide +kernel
theorem dL_due_82 : decode cL_due 82 = .ok (.iaload, 1) := by decide +kernel
theorem dL_due_83 : decode cL_due 83 = .ok (.iload_n 0, 1) := by decide +kernel
theorem dL_due_84 : decode cL_due 84 = .ok (.iconst 1, 1) := by decide +kernel
theorem dL_due_85 : decode cL_due 85 = .ok (.if_icmp .ne 26, 3) := by decide +kernel
theorem dL_due_88 : decode cL_due 88 = .ok (.iload 4, 2) := by decide +kernel
theorem dL_due_90 : decode cL_due 90 = .ok (.iload_n 3, 1) := by decide +kernel
theorem dL_due_91 : decode cL_due 91 = .ok (.i2l, 1) := by decide +kernel
theorem dL_due_92 : decode cL_due 92 = .ok (.iload_n 2, 1) := by decide +kernel
theorem dL_due_93 : decode cL_due 93 = .ok (.aload 6, 2) := by decide +kernel
theorem dL_due_95 : decode cL_due 95 = .ok (.invokestatic 77, 3) := by decide +kernel
theorem dL_due_98 : decode cL_due 98 = .ok (.i2l, 1) := by decide +kernel
theorem dL_due_99 : decode cL_due 99 = .ok (.lmul, 1) := by decide +kernel
theorem dL_due_100 : decode cL_due 100 = .ok (.ldc2_w 44, 3) := by decide +kernel
theorem dL_due_103 : decode cL_due 103 = .ok (.invokestatic 46, 3) := by decide +kernel
theorem dL_due_106 : decode cL_due 106 = .ok (.l2i, 1) := by decide +kernel
theorem dL_due_107 : decode cL_due 107 = .ok (.isub, 1) := by decide +kernel
theorem dL_due_108 : decode cL_due 108 = .ok (.goto 4, 3) := by decide +kernel
theorem dL_due_111 : decode cL_due 111 = .ok (.iconst 0, 1) := by decide +kernel
theorem dL_due_112 : decode cL_due 112 = .ok (.iadd, 1) := by decide +kernel
theorem dL_due_113 : decode cL_due 113 = .ok (.iastore, 1) := by decide +kernel
theorem dL_due_114 : decode cL_due 114 = .ok (.iload_n 0, 1) := by decide +kernel
theorem dL_due_115 : decode cL_due 115 = .ok (.ifCond .ne 8, 3) := by decide +kernel
theorem dL_due_118 : decode cL_due 118 = .ok (.iload 9, 2) := by decide +kernel
theorem dL_due_120 : decode cL_due 120 = .ok (.goto 8, 3) := by decide +kernel
theorem dL_due_123 : decode cL_due 123 = .ok (.aload 5, 2) := by decide +kernel
theorem dL_due_125 : decode cL_due 125 = .ok (.iload 8, 2) := by decide +kernel
theorem dL_due_127 : decode cL_due 127 = .ok (.iaload, 1) := by decide +kernel
theorem dL_due_128 : decode cL_due 128 = .ok (.ireturn, 1) := by decide +kernel
end
section
set_option maxRecDepth 20000 in
theorem ggL_law_X3_init : GoodIn wsL_law wsX3_init := goodIn_r _ [12, 13, 14, 15, 16, 17, 18, 19, 20, 21, 22, 23, 24, 25, 26, 27, 3, 28, 29, 30, 31, 32, 33, 34, 35, 36, 37, 38, 39, 40, 41, 42, 43, 44, 45, 46, 47, 48, 49, 50, 51, 52, 53, 54, 55, 379, 380, 381, 382, 383, 384, 373, 374, 375, 376, 377, 378, 385, 386, 387, 388, 389, 390, 391, 392, 393] (by decide +kernel) (by decide +kernel)
set_option maxRecDepth 20000 in
theorem gL_law_X3_init : GoodIn wsL_law (wsX3_init) := ggL_law_X3_init
set_option maxRecDepth 20000 in
theorem ggL_law_L_cell : GoodIn wsL_law wsL_cell := goodIn_r _ [59, 60, 61] (by decide +kernel) (by decide +kernel)
set_option maxRecDepth 20000 in
theorem gL_law_L_cell : GoodIn wsL_law (va_wsS RL 137 yL_cell wsL_cell) := goodIn_app (goodIn_of _ (by decide +kernel)) ggL_law_L_cell
set_option maxRecDepth 20000 in
theorem ggL_law_L_low : GoodIn wsL_law wsL_low := goodIn_r _ [64, 65] (by decide +kernel) (by decide +kernel)
set_option maxRecDepth 20000 in
theorem gL_law_L_low : GoodIn wsL_law (va_wsS RL 141 yL_low wsL_low) := goodIn_app (goodIn_of _ (by decide +kernel)) ggL_law_L_low
set_option maxRecDepth 20000 in
theorem ggL_law_L_due : GoodIn wsL_law wsL_due := goodIn_r _ [68, 7, 69, 70, 71, 72, 58, 73, 74, 75, 76, 77, 78, 79, 80, 81, 82, 83, 84, 85] (by decide +kernel) (by decide +kernel)
set_option maxRecDepth 20000 in
theorem gL_law_L_due : GoodIn wsL_law (va_wsS RL 144 yL_due wsL_due) := goodIn_app (goodIn_of _ (by decide +kernel)) ggL_law_L_due
set_option maxRecDepth 20000 in
theorem ggL_law_L_calls : GoodIn wsL_law wsL_calls := goodIn_ca (goodIn_ca (goodIn_r _ [88, 89, 90, 7, 69, 91, 92, 93, 2, 94, 19, 95, 96, 97, 98, 99, 100, 101, 102, 103, 104, 105, 106, 18, 107, 108, 34, 109, 110, 111, 112, 113, 114, 115, 116, 117, 118, 119, 120, 121, 38, 122, 123, 124, 125, 126, 127, 128, 129, 130, 131, 132, 133, 134, 135, 136, 137, 138, 36, 37, 139, 140, 141, 142, 143, 144, 145, 146, 147, 148, 149, 150, 151, 28, 23, 152, 22, 153, 154, 155, 156, 157, 158, 44, 48, 159, 160, 161, 162, 163, 164, 165, 166, 167, 168, 169, 45, 170, 171, 172, 173, 174, 27, 175, 26, 176, 177, 54, 178, 179, 180, 181, 182, 183, 184, 55, 185, 186, 187, 188, 30, 29, 189, 190, 191, 192, 193, 194, 195, 196, 197, 198, 199, 200, 201, 202, 203, 204, 205, 206, 207, 208, 209, 47, 49, 210, 211, 212, 213, 214, 215, 216, 217, 218, 219, 220, 221, 46, 222, 223, 224, 225, 226, 227, 228, 373, 374, 375, 376, 377, 378, 379, 380, 381, 382, 383, 384, 385, 386, 387, 388, 389, 390, 391, 392, 393] (by decide +kernel) (by decide +kernel)) (goodIn_sub (fun _ h => List.mem_append_left _ (List.mem_append_right _ h)) (by decide +kernel))) (goodIn_sub (fun _ h => List.mem_append_right _ h) (by decide +kernel))
set_option maxRecDepth 20000 in
theorem gL_law_L_calls : GoodIn wsL_law (va_wsS RL 103 yL_calls wsL_calls) := goodIn_app (goodIn_of _ (by decide +kernel)) ggL_law_L_calls
set_option maxRecDepth 20000 in
theorem ggL_law_X3_shareByRounds : GoodIn wsL_law wsX3_shareByRounds := goodIn_ca (goodIn_r _ [351, 19, 100, 101, 2, 102, 103, 104, 105, 98, 99, 352, 18, 353, 354, 39, 355, 356, 357, 358, 359, 34, 40, 109, 110, 373, 374, 375, 376, 377, 378, 379, 380, 381, 382, 383, 384] (by decide +kernel) (by decide +kernel)) (goodIn_sub (fun _ h => List.mem_append_left _ (List.mem_append_right _ h)) (by decide +kernel))
set_option maxRecDepth 20000 in
theorem gL_law_X3_shareByRounds : GoodIn wsL_law (wsV RL 164 RX3 yX3_shareByRounds wsX3_shareByRounds) := goodIn_app (goodIn_of _ (by decide +kernel)) ggL_law_X3_shareByRounds
set_option maxRecDepth 20000 in
theorem ggL_law_L_rounds : GoodIn wsL_law wsL_rounds := goodIn_r _ [362, 4] (by decide +kernel) (by decide +kernel)
set_option maxRecDepth 20000 in
theorem gL_law_L_rounds : GoodIn wsL_law (va_wsS RL 167 yL_rounds wsL_rounds) := goodIn_app (goodIn_of _ (by decide +kernel)) ggL_law_L_rounds
set_option maxRecDepth 20000 in
theorem ggL_law_L_shares : GoodIn wsL_law wsL_shares := goodIn_ca (goodIn_r _ [365, 70, 259, 260, 261, 2, 262, 19, 100, 101, 102, 103, 104, 105, 98, 99, 263, 18, 264, 265, 36, 266, 267, 268, 269, 270, 271, 272, 37, 366, 367, 58, 368, 369, 370, 371, 372, 373, 374, 375, 376, 377, 378, 379, 380, 381, 382, 383, 384] (by decide +kernel) (by decide +kernel)) (goodIn_sub (fun _ h => List.mem_append_left _ (List.mem_append_right _ h)) (by decide +kernel))
set_option maxRecDepth 20000 in
theorem gL_law_L_shares : GoodIn wsL_law (va_wsS RL 173 yL_shares wsL_shares) := goodIn_app (goodIn_of _ (by decide +kernel)) ggL_law_L_shares
theorem dL_law_0 : decode cL_law 0 = .ok (.new 11, 3) := by decide +kernel
theorem dL_law_3 : decode cL_law 3 = .ok (.dup, 1) := by decide +kernel
theorem dL_law_4 : decode cL_law 4 = .ok (.invokespecial 136, 3) := by decide +kernel
theorem dL_law_7 : decode cL_law 7 = .ok (.astore_n 1, 1) := by decide +kernel
theorem dL_law_8 : decode cL_law 8 = .ok (.bipush 36, 2) := by decide +kernel
theorem dL_law_10 : decode cL_law 10 = .ok (.newarray .int, 2) := by decide +kernel
theorem dL_law_12 : decode cL_law 12 = .ok (.astore_n 2, 1) := by decide +kernel
theorem dL_law_13 : decode cL_law 13 = .ok (.bipush 36, 2) := by decide +kernel
theorem dL_law_15 : decode cL_law 15 = .ok (.newarray .int, 2) := by decide +kernel
theorem dL_law_17 : decode cL_law 17 = .ok (.astore_n 3, 1) := by decide +kernel
theorem dL_law_18 : decode cL_law 18 = .ok (.bipush 36, 2) := by decide +kernel
theorem dL_law_20 : decode cL_law 20 = .ok (.newarray .int, 2) := by decide +kernel
theorem dL_law_22 : decode cL_law 22 = .ok (.astore 4, 2) := by decide +kernel
theorem dL_law_24 : decode cL_law 24 = .ok (.bipush 42, 2) := by decide +kernel
theorem dL_law_26 : decode cL_law 26 = .ok (.newarray .int, 2) := by decide +kernel
theorem dL_law_28 : decode cL_law 28 = .ok (.astore 5, 2) := by decide +kernel
theorem dL_law_30 : decode cL_law 30 = .ok (.bipush 18, 2) := by decide +kernel
theorem dL_law_32 : decode cL_law 32 = .ok (.newarray .int, 2) := by decide +kernel
theorem dL_law_34 : decode cL_law 34 = .ok (.astore 6, 2) := by decide +kernel
theorem dL_law_36 : decode cL_law 36 = .ok (.iconst 1, 1) := by decide +kernel
theorem dL_law_37 : decode cL_law 37 = .ok (.newarray .int, 2) := by decide +kernel
theorem dL_law_39 : decode cL_law 39 = .ok (.astore 7, 2) := by decide +kernel
theorem dL_law_41 : decode cL_law 41 = .ok (.bipush 6, 2) := by decide +kernel
theorem dL_law_43 : decode cL_law 43 = .ok (.newarray .int, 2) := by decide +kernel
theorem dL_law_45 : decode cL_law 45 = .ok (.astore 8, 2) := by decide +kernel
theorem dL_law_47 : decode cL_law 47 = .ok (.bipush 6, 2) := by decide +kernel
theorem dL_law_49 : decode cL_law 49 = .ok (.newarray .int, 2) := by decide +kernel
theorem dL_law_51 : decode cL_law 51 = .ok (.astore 9, 2) := by decide +kernel
theorem dL_law_53 : decode cL_law 53 = .ok (.iconst 0, 1) := by decide +kernel
theorem dL_law_54 : decode cL_law 54 = .ok (.istore 10, 2) := by decide +kernel
theorem dL_law_56 : decode cL_law 56 = .ok (.iload 10, 2) := by decide +kernel
theorem dL_law_58 : decode cL_law 58 = .ok (.bipush 6, 2) := by decide +kernel
theorem dL_law_60 : decode cL_law 60 = .ok (.if_icmp .ge 46, 3) := by decide +kernel
theorem dL_law_63 : decode cL_law 63 = .ok (.aload 5, 2) := by decide +kernel
theorem dL_law_65 : decode cL_law 65 = .ok (.bipush 7, 2) := by decide +kernel
theorem dL_law_67 : decode cL_law 67 = .ok (.iload 10, 2) := by decide +kernel
theorem dL_law_69 : decode cL_law 69 = .ok (.imul, 1) := by decide +kernel
theorem dL_law_70 : decode cL_law 70 = .ok (.iconst 4, 1) := by decide +kernel
theorem dL_law_71 : decode cL_law 71 = .ok (.iadd, 1) := by decide +kernel
theorem dL_law_72 : decode cL_law 72 = .ok (.bipush 100, 2) := by decide +kernel
theorem dL_law_74 : decode cL_law 74 = .ok (.iastore, 1) := by decide +kernel
theorem dL_law_75 : decode cL_law 75 = .ok (.aload 5, 2) := by decide +kernel
theorem dL_law_77 : decode cL_law 77 = .ok (.bipush 7, 2) := by decide +kernel
theorem dL_law_79 : decode cL_law 79 = .ok (.iload 10, 2) := by decide +kernel
theorem dL_law_81 : decode cL_law 81 = .ok (.imul, 1) := by decide +kernel
theorem dL_law_82 : decode cL_law 82 = .ok (.iconst 5, 1) := by decide +kernel
theorem dL_law_83 : decode cL_law 83 = .ok (.iadd, 1) := by decide +kernel
theorem dL_law_84 : decode cL_law 84 = .ok (.bipush 100, 2) := by decide +kernel
theorem dL_law_86 : decode cL_law 86 = .ok (.iastore, 1) := by decide +kernel
theorem dL_law_87 : decode cL_law 87 = .ok (.aload 5, 2) := by decide +kernel
theorem dL_law_89 : decode cL_law 89 = .ok (.bipush 7, 2) := by decide +kernel
theorem dL_law_91 : decode cL_law 91 = .ok (.iload 10, 2) := by decide +kernel
theorem dL_law_93 : decode cL_law 93 = .ok (.imul, 1) := by decide +kernel
theorem dL_law_94 : decode cL_law 94 = .ok (.bipush 6, 2) := by decide +kernel
theorem dL_law_96 : decode cL_law 96 = .ok (.iadd, 1) := by decide +kernel
theorem dL_law_97 : decode cL_law 97 = .ok (.bipush 100, 2) := by decide +kernel
theorem dL_law_99 : decode cL_law 99 = .ok (.iastore, 1) := by decide +kernel
theorem dL_law_100 : decode cL_law 100 = .ok (.iinc 10 1, 3) := by decide +kernel
theorem dL_law_103 : decode cL_law 103 = .ok (.goto (-47), 3) := by decide +kernel
theorem dL_law_106 : decode cL_law 106 = .ok (.iconst 0, 1) := by decide +kernel
theorem dL_law_107 : decode cL_law 107 = .ok (.istore 10, 2) := by decide +kernel
theorem dL_law_109 : decode cL_law 109 = .ok (.iload 10, 2) := by decide +kernel
theorem dL_law_111 : decode cL_law 111 = .ok (.bipush 90, 2) := by decide +kernel
theorem dL_law_113 : decode cL_law 113 = .ok (.if_icmp .ge 898, 3) := by decide +kernel
theorem dL_law_116 : decode cL_law 116 = .ok (.aload_n 0, 1) := by decide +kernel
theorem dL_law_117 : decode cL_law 117 = .ok (.iload 10, 2) := by decide +kernel
theorem dL_law_119 : decode cL_law 119 = .ok (.invokestatic 137, 3) := by decide +kernel
theorem dL_law_122 : decode cL_law 122 = .ok (.istore 11, 2) := by decide +kernel
theorem dL_law_124 : decode cL_law 124 = .ok (.iload 11, 2) := by decide +kernel
theorem dL_law_126 : decode cL_law 126 = .ok (.bipush 20, 2) := by decide +kernel
theorem dL_law_128 : decode cL_law 128 = .ok (.invokestatic 141, 3) := by decide +kernel
theorem dL_law_131 : decode cL_law 131 = .ok (.istore 12, 2) := by decide +kernel
theorem dL_law_133 : decode cL_law 133 = .ok (.iload 11, 2) := by decide +kernel
theorem dL_law_135 : decode cL_law 135 = .ok (.iconst 4, 1) := by decide +kernel
theorem dL_law_136 : decode cL_law 136 = .ok (.ishr, 1) := by decide +kernel
theorem dL_law_137 : decode cL_law 137 = .ok (.bipush 6, 2) := by decide +kernel
theorem dL_law_139 : decode cL_law 139 = .ok (.invokestatic 141, 3) := by decide +kernel
theorem dL_law_142 : decode cL_law 142 = .ok (.istore 13, 2) := by decide +kernel
theorem dL_law_144 : decode cL_law 144 = .ok (.iload 11, 2) := by decide +kernel
theorem dL_law_146 : decode cL_law 146 = .ok (.bipush 7, 2) := by decide +kernel
theorem dL_law_148 : decode cL_law 148 = .ok (.ishr, 1) := by decide +kernel
theorem dL_law_149 : decode cL_law 149 = .ok (.bipush 6, 2) := by decide +kernel
theorem dL_law_151 : decode cL_law 151 = .ok (.invokestatic 141, 3) := by decide +kernel
theorem dL_law_154 : decode cL_law 154 = .ok (.istore 14, 2) := by decide +kernel
theorem dL_law_156 : decode cL_law 156 = .ok (.iconst 0, 1) := by decide +kernel
theorem dL_law_157 : decode cL_law 157 = .ok (.istore 15, 2) := by decide +kernel
theorem dL_law_159 : decode cL_law 159 = .ok (.iconst 0, 1) := by decide +kernel
theorem dL_law_160 : decode cL_law 160 = .ok (.istore 16, 2) := by decide +kernel
theorem dL_law_162 : decode cL_law 162 = .ok (.iload 12, 2) := by decide +kernel
theorem dL_law_164 : decode cL_law 164 = .ok (.bipush 9, 2) := by decide +kernel
theorem dL_law_166 : decode cL_law 166 = .ok (.if_icmp .ge 114, 3) := by decide +kernel
theorem dL_law_169 : decode cL_law 169 = .ok (.iload 12, 2) := by decide +kernel
theorem dL_law_171 : decode cL_law 171 = .ok (.bipush 6, 2) := by decide +kernel
theorem dL_law_173 : decode cL_law 173 = .ok (.if_icmp .ge 7, 3) := by decide +kernel
theorem dL_law_176 : decode cL_law 176 = .ok (.iconst 0, 1) := by decide +kernel
theorem dL_law_177 : decode cL_law 177 = .ok (.goto 4, 3) := by decide +kernel
theorem dL_law_180 : decode cL_law 180 = .ok (.iconst 1, 1) := by decide +kernel
theorem dL_law_181 : decode cL_law 181 = .ok (.istore 17, 2) := by decide +kernel
theorem dL_law_183 : decode cL_law 183 = .ok (.iload 11, 2) := by decide +kernel
theorem dL_law_185 : decode cL_law 185 = .ok (.bipush 12, 2) := by decide +kernel
theorem dL_law_187 : decode cL_law 187 = .ok (.ishr, 1) := by decide +kernel
theorem dL_law_188 : decode cL_law 188 = .ok (.iconst 5, 1) := by decide +kernel
theorem dL_law_189 : decode cL_law 189 = .ok (.invokestatic 141, 3) := by decide +kernel
theorem dL_law_192 : decode cL_law 192 = .ok (.ifCond .ne 8, 3) := by decide +kernel
theorem dL_law_195 : decode cL_law 195 = .ok (.bipush 100, 2) := by decide +kernel
theorem dL_law_197 : decode cL_law 197 = .ok (.goto 30, 3) := by decide +kernel
theorem dL_law_200 : decode cL_law 200 = .ok (.iload 11, 2) := by decide +kernel
theorem dL_law_202 : decode cL_law 202 = .ok (.bipush 10, 2) := by decide +kernel
theorem dL_law_204 : decode cL_law 204 = .ok (.ishr, 1) := by decide +kernel
theorem dL_law_205 : decode cL_law 205 = .ok (.iload 11, 2) := by decide +kernel
theorem dL_law_207 : decode cL_law 207 = .ok (.bipush 16, 2) := by decide +kernel
theorem dL_law_209 : decode cL_law 209 = .ok (.ishr, 1) := by decide +kernel
theorem dL_law_210 : decode cL_law 210 = .ok (.iconst 2, 1) := by decide +kernel
theorem dL_law_211 : decode cL_law 211 = .ok (.invokestatic 141, 3) := by decide +kernel
theorem dL_law_214 : decode cL_law 214 = .ok (.ifCond .ne 8, 3) := by decide +kernel
theorem dL_law_217 : decode cL_law 217 = .ok (.bipush 101, 2) := by decide +kernel
theorem dL_law_219 : decode cL_law 219 = .ok (.goto 5, 3) := by decide +kernel
theorem dL_law_222 : decode cL_law 222 = .ok (.bipush 40, 2) := by decide +kernel
theorem dL_law_224 : decode cL_law 224 = .ok (.invokestatic 141, 3) := by decide +kernel
theorem dL_law_227 : decode cL_law 227 = .ok (.istore 18, 2) := by decide +kernel
theorem dL_law_229 : decode cL_law 229 = .ok (.iload 11, 2) := by decide +kernel
theorem dL_law_231 : decode cL_law 231 = .ok (.iconst 3, 1) := by decide +kernel
theorem dL_law_232 : decode cL_law 232 = .ok (.ishr, 1) := by decide +kernel
theorem dL_law_233 : decode cL_law 233 = .ok (.sipush 2000, 3) := by decide +kernel
theorem dL_law_236 : decode cL_law 236 = .ok (.invokestatic 141, 3) := by decide +kernel
theorem dL_law_239 : decode cL_law 239 = .ok (.istore 19, 2) := by decide +kernel
theorem dL_law_241 : decode cL_law 241 = .ok (.iload 17, 2) := by decide +kernel
theorem dL_law_243 : decode cL_law 243 = .ok (.iload 13, 2) := by decide +kernel
theorem dL_law_245 : decode cL_law 245 = .ok (.iload 14, 2) := by decide +kernel
theorem dL_law_247 : decode cL_law 247 = .ok (.iload 18, 2) := by decide +kernel
theorem dL_law_249 : decode cL_law 249 = .ok (.iload 19, 2) := by decide +kernel
theorem dL_law_251 : decode cL_law 251 = .ok (.aload_n 2, 1) := by decide +kernel
theorem dL_law_252 : decode cL_law 252 = .ok (.aload 5, 2) := by decide +kernel
theorem dL_law_254 : decode cL_law 254 = .ok (.aload 6, 2) := by decide +kernel
theorem dL_law_256 : decode cL_law 256 = .ok (.invokestatic 144, 3) := by decide +kernel
theorem dL_law_259 : decode cL_law 259 = .ok (.istore 15, 2) := by decide +kernel
theorem dL_law_261 : decode cL_law 261 = .ok (.aload_n 1, 1) := by decide +kernel
theorem dL_law_262 : decode cL_law 262 = .ok (.iload 17, 2) := by decide +kernel
theorem dL_law_264 : decode cL_law 264 = .ok (.iload 13, 2) := by decide +kernel
theorem dL_law_266 : decode cL_law 266 = .ok (.iload 14, 2) := by decide +kernel
theorem dL_law_268 : decode cL_law 268 = .ok (.iload 18, 2) := by decide +kernel
theorem dL_law_270 : decode cL_law 270 = .ok (.iload 19, 2) := by decide +kernel
theorem dL_law_272 : decode cL_law 272 = .ok (.invokestatic 103, 3) := by decide +kernel
theorem dL_law_275 : decode cL_law 275 = .ok (.istore 16, 2) := by decide +kernel
theorem dL_law_277 : decode cL_law 277 = .ok (.goto 638, 3) := by decide +kernel
theorem dL_law_280 : decode cL_law 280 = .ok (.iload 12, 2) := by decide +kernel
theorem dL_law_282 : decode cL_law 282 = .ok (.bipush 13, 2) := by decide +kernel
theorem dL_law_284 : decode cL_law 284 = .ok (.if_icmp .ge 286, 3) := by decide +kernel
theorem dL_law_287 : decode cL_law 287 = .ok (.iload 11, 2) := by decide +kernel
theorem dL_law_289 : decode cL_law 289 = .ok (.bipush 15, 2) := by decide +kernel
theorem dL_law_291 : decode cL_law 291 = .ok (.ishr, 1) := by decide +kernel
theorem dL_law_292 : decode cL_law 292 = .ok (.iconst 3, 1) := by decide +kernel
theorem dL_law_293 : decode cL_law 293 = .ok (.invokestatic 141, 3) := by decide +kernel
theorem dL_law_296 : decode cL_law 296 = .ok (.ifCond .ne 8, 3) := by decide +kernel
theorem dL_law_299 : decode cL_law 299 = .ok (.ldc 70, 2) := by decide +kernel
theorem dL_law_301 : decode cL_law 301 = .ok (.goto 6, 3) := by decide +kernel
theorem dL_law_304 : decode cL_law 304 = .ok (.sipush 2000, 3) := by decide +kernel
theorem dL_law_307 : decode cL_law 307 = .ok (.istore 17, 2) := by decide +kernel
theorem dL_law_309 : decode cL_law 309 = .ok (.iload 11, 2) := by decide +kernel
theorem dL_law_311 : decode cL_law 311 = .ok (.bipush 7, 2) := by decide +kernel
theorem dL_law_313 : decode cL_law 313 = .ok (.ishr, 1) := by decide +kernel
theorem dL_law_314 : decode cL_law 314 = .ok (.iload 17, 2) := by decide +kernel
theorem dL_law_316 : decode cL_law 316 = .ok (.iconst 2, 1) := by decide +kernel
theorem dL_law_317 : decode cL_law 317 = .ok (.idiv, 1) := by decide +kernel
theorem dL_law_318 : decode cL_law 318 = .ok (.iconst 1, 1) := by decide +kernel
theorem dL_law_319 : decode cL_law 319 = .ok (.iadd, 1) := by decide +kernel
theorem dL_law_320 : decode cL_law 320 = .ok (.invokestatic 141, 3) := by decide +kernel
theorem dL_law_323 : decode cL_law 323 = .ok (.istore 18, 2) := by decide +kernel
theorem dL_law_325 : decode cL_law 325 = .ok (.iload 11, 2) := by decide +kernel
theorem dL_law_327 : decode cL_law 327 = .ok (.bipush 10, 2) := by decide +kernel
theorem dL_law_329 : decode cL_law 329 = .ok (.ishr, 1) := by decide +kernel
theorem dL_law_330 : decode cL_law 330 = .ok (.iload 17, 2) := by decide +kernel
theorem dL_law_332 : decode cL_law 332 = .ok (.invokestatic 141, 3) := by decide +kernel
theorem dL_law_335 : decode cL_law 335 = .ok (.iload 17, 2) := by decide +kernel
theorem dL_law_337 : decode cL_law 337 = .ok (.iconst 2, 1) := by decide +kernel
theorem dL_law_338 : decode cL_law 338 = .ok (.idiv, 1) := by decide +kernel
theorem dL_law_339 : decode cL_law 339 = .ok (.isub, 1) := by decide +kernel
theorem dL_law_340 : decode cL_law 340 = .ok (.istore 19, 2) := by decide +kernel
theorem dL_law_342 : decode cL_law 342 = .ok (.iload 11, 2) := by decide +kernel
theorem dL_law_344 : decode cL_law 344 = .ok (.iconst 5, 1) := by decide +kernel
theorem dL_law_345 : decode cL_law 345 = .ok (.ishr, 1) := by decide +kernel
theorem dL_law_346 : decode cL_law 346 = .ok (.iload 17, 2) := by decide +kernel
theorem dL_law_348 : decode cL_law 348 = .ok (.iconst 1, 1) := by decide +kernel
theorem dL_law_349 : decode cL_law 349 = .ok (.iadd, 1) := by decide +kernel
theorem dL_law_350 : decode cL_law 350 = .ok (.invokestatic 141, 3) := by decide +kernel
theorem dL_law_353 : decode cL_law 353 = .ok (.istore 20, 2) := by decide +kernel
theorem dL_law_355 : decode cL_law 355 = .ok (.iload 20, 2) := by decide +kernel
theorem dL_law_357 : decode cL_law 357 = .ok (.iload 18, 2) := by decide +kernel
theorem dL_law_359 : decode cL_law 359 = .ok (.isub, 1) := by decide +kernel
theorem dL_law_360 : decode cL_law 360 = .ok (.iload 19, 2) := by decide +kernel
theorem dL_law_362 : decode cL_law 362 = .ok (.isub, 1) := by decide +kernel
theorem dL_law_363 : decode cL_law 363 = .ok (.istore 21, 2) := by decide +kernel
theorem dL_law_365 : decode cL_law 365 = .ok (.iload 21, 2) := by decide +kernel
theorem dL_law_367 : decode cL_law 367 = .ok (.ldc 70, 2) := by decide +kernel
theorem dL_law_369 : decode cL_law 369 = .ok (.if_icmp .gt 27, 3) := by decide +kernel
theorem dL_law_372 : decode cL_law 372 = .ok (.iload 21, 2) := by decide +kernel
theorem dL_law_374 : decode cL_law 374 = .ok (.ldc 135, 2) := by decide +kernel
theorem dL_law_376 : decode cL_law 376 = .ok (.if_icmp .lt 20, 3) := by decide +kernel
theorem dL_law_379 : decode cL_law 379 = .ok (.iload 11, 2) := by decide +kernel
theorem dL_law_381 : decode cL_law 381 = .ok (.bipush 12, 2) := by decide +kernel
theorem dL_law_383 : decode cL_law 383 = .ok (.ishr, 1) := by decide +kernel
theorem dL_law_384 : decode cL_law 384 = .ok (.bipush 9, 2) := by decide +kernel
theorem dL_law_386 : decode cL_law 386 = .ok (.invokestatic 141, 3) := by decide +kernel
theorem dL_law_389 : decode cL_law 389 = .ok (.ifCond .le 7, 3) := by decide +kernel
theorem dL_law_392 : decode cL_law 392 = .ok (.iconst 1, 1) := by decide +kernel
theorem dL_law_393 : decode cL_law 393 = .ok (.goto 4, 3) := by decide +kernel
theorem dL_law_396 : decode cL_law 396 = .ok (.iconst 0, 1) := by decide +kernel
theorem dL_law_397 : decode cL_law 397 = .ok (.istore 22, 2) := by decide +kernel
theorem dL_law_399 : decode cL_law 399 = .ok (.iload 21, 2) := by decide +kernel
theorem dL_law_401 : decode cL_law 401 = .ok (.iload 11, 2) := by decide +kernel
theorem dL_law_403 : decode cL_law 403 = .ok (.bipush 12, 2) := by decide +kernel
theorem dL_law_405 : decode cL_law 405 = .ok (.ishr, 1) := by decide +kernel
theorem dL_law_406 : decode cL_law 406 = .ok (.bipush 9, 2) := by decide +kernel
theorem dL_law_408 : decode cL_law 408 = .ok (.invokestatic 141, 3) := by decide +kernel
theorem dL_law_411 : decode cL_law 411 = .ok (.ifCond .ne 7, 3) := by decide +kernel
theorem dL_law_414 : decode cL_law 414 = .ok (.iconst 1, 1) := by decide +kernel
theorem dL_law_415 : decode cL_law 415 = .ok (.goto 4, 3) := by decide +kernel
theorem dL_law_418 : decode cL_law 418 = .ok (.iconst 0, 1) := by decide +kernel
theorem dL_law_419 : decode cL_law 419 = .ok (.iadd, 1) := by decide +kernel
theorem dL_law_420 : decode cL_law 420 = .ok (.istore 21, 2) := by decide +kernel
theorem dL_law_422 : decode cL_law 422 = .ok (.aload 5, 2) := by decide +kernel
theorem dL_law_424 : decode cL_law 424 = .ok (.bipush 7, 2) := by decide +kernel
theorem dL_law_426 : decode cL_law 426 = .ok (.iload 13, 2) := by decide +kernel
theorem dL_law_428 : decode cL_law 428 = .ok (.imul, 1) := by decide +kernel
theorem dL_law_429 : decode cL_law 429 = .ok (.iload 22, 2) := by decide +kernel
theorem dL_law_431 : decode cL_law 431 = .ok (.ifCond .eq 8, 3) := by decide +kernel
theorem dL_law_434 : decode cL_law 434 = .ok (.iload 20, 2) := by decide +kernel
theorem dL_law_436 : decode cL_law 436 = .ok (.goto 11, 3) := by decide +kernel
theorem dL_law_439 : decode cL_law 439 = .ok (.aload 5, 2) := by decide +kernel
theorem dL_law_441 : decode cL_law 441 = .ok (.bipush 7, 2) := by decide +kernel
theorem dL_law_443 : decode cL_law 443 = .ok (.iload 13, 2) := by decide +kernel
theorem dL_law_445 : decode cL_law 445 = .ok (.imul, 1) := by decide +kernel
theorem dL_law_446 : decode cL_law 446 = .ok (.iaload, 1) := by decide +kernel
theorem dL_law_447 : decode cL_law 447 = .ok (.iastore, 1) := by decide +kernel
theorem dL_law_448 : decode cL_law 448 = .ok (.aload 5, 2) := by decide +kernel
theorem dL_law_450 : decode cL_law 450 = .ok (.bipush 7, 2) := by decide +kernel
theorem dL_law_452 : decode cL_law 452 = .ok (.iload 13, 2) := by decide +kernel
theorem dL_law_454 : decode cL_law 454 = .ok (.imul, 1) := by decide +kernel
theorem dL_law_455 : decode cL_law 455 = .ok (.iconst 1, 1) := by decide +kernel
theorem dL_law_456 : decode cL_law 456 = .ok (.iadd, 1) := by decide +kernel
theorem dL_law_457 : decode cL_law 457 = .ok (.iload 22, 2) := by decide +kernel
theorem dL_law_459 : decode cL_law 459 = .ok (.ifCond .eq 8, 3) := by decide +kernel
theorem dL_law_462 : decode cL_law 462 = .ok (.iload 18, 2) := by decide +kernel
theorem dL_law_464 : decode cL_law 464 = .ok (.goto 13, 3) := by decide +kernel
theorem dL_law_467 : decode cL_law 467 = .ok (.aload 5, 2) := by decide +kernel
theorem dL_law_469 : decode cL_law 469 = .ok (.bipush 7, 2) := by decide +kernel
theorem dL_law_471 : decode cL_law 471 = .ok (.iload 13, 2) := by decide +kernel
theorem dL_law_473 : decode cL_law 473 = .ok (.imul, 1) := by decide +kernel
theorem dL_law_474 : decode cL_law 474 = .ok (.iconst 1, 1) := by decide +kernel
theorem dL_law_475 : decode cL_law 475 = .ok (.iadd, 1) := by decide +kernel
theorem dL_law_476 : decode cL_law 476 = .ok (.iaload, 1) := by decide +kernel
theorem dL_law_477 : decode cL_law 477 = .ok (.iastore, 1) := by decide +kernel
theorem dL_law_478 : decode cL_law 478 = .ok (.aload 5, 2) := by decide +kernel
theorem dL_law_480 : decode cL_law 480 = .ok (.bipush 7, 2) := by decide +kernel
theorem dL_law_482 : decode cL_law 482 = .ok (.iload 13, 2) := by decide +kernel
theorem dL_law_484 : decode cL_law 484 = .ok (.imul, 1) := by decide +kernel
theorem dL_law_485 : decode cL_law 485 = .ok (.iconst 2, 1) := by decide +kernel
theorem dL_law_486 : decode cL_law 486 = .ok (.iadd, 1) := by decide +kernel
theorem dL_law_487 : decode cL_law 487 = .ok (.iload 22, 2) := by decide +kernel
theorem dL_law_489 : decode cL_law 489 = .ok (.ifCond .eq 8, 3) := by decide +kernel
theorem dL_law_492 : decode cL_law 492 = .ok (.iload 21, 2) := by decide +kernel
theorem dL_law_494 : decode cL_law 494 = .ok (.goto 13, 3) := by decide +kernel
theorem dL_law_497 : decode cL_law 497 = .ok (.aload 5, 2) := by decide +kernel
theorem dL_law_499 : decode cL_law 499 = .ok (.bipush 7, 2) := by decide +kernel
theorem dL_law_501 : decode cL_law 501 = .ok (.iload 13, 2) := by decide +kernel
theorem dL_law_503 : decode cL_law 503 = .ok (.imul, 1) := by decide +kernel
theorem dL_law_504 : decode cL_law 504 = .ok (.iconst 2, 1) := by decide +kernel
theorem dL_law_505 : decode cL_law 505 = .ok (.iadd, 1) := by decide +kernel
theorem dL_law_506 : decode cL_law 506 = .ok (.iaload, 1) := by decide +kernel
theorem dL_law_507 : decode cL_law 507 = .ok (.iastore, 1) := by decide +kernel
theorem dL_law_508 : decode cL_law 508 = .ok (.aload 5, 2) := by decide +kernel
theorem dL_law_510 : decode cL_law 510 = .ok (.bipush 7, 2) := by decide +kernel
theorem dL_law_512 : decode cL_law 512 = .ok (.iload 13, 2) := by decide +kernel
theorem dL_law_514 : decode cL_law 514 = .ok (.imul, 1) := by decide +kernel
theorem dL_law_515 : decode cL_law 515 = .ok (.iconst 3, 1) := by decide +kernel
theorem dL_law_516 : decode cL_law 516 = .ok (.iadd, 1) := by decide +kernel
theorem dL_law_517 : decode cL_law 517 = .ok (.iload 22, 2) := by decide +kernel
theorem dL_law_519 : decode cL_law 519 = .ok (.ifCond .eq 8, 3) := by decide +kernel
theorem dL_law_522 : decode cL_law 522 = .ok (.iload 19, 2) := by decide +kernel
theorem dL_law_524 : decode cL_law 524 = .ok (.goto 13, 3) := by decide +kernel
theorem dL_law_527 : decode cL_law 527 = .ok (.aload 5, 2) := by decide +kernel
theorem dL_law_529 : decode cL_law 529 = .ok (.bipush 7, 2) := by decide +kernel
theorem dL_law_531 : decode cL_law 531 = .ok (.iload 13, 2) := by decide +kernel
theorem dL_law_533 : decode cL_law 533 = .ok (.imul, 1) := by decide +kernel
theorem dL_law_534 : decode cL_law 534 = .ok (.iconst 3, 1) := by decide +kernel
theorem dL_law_535 : decode cL_law 535 = .ok (.iadd, 1) := by decide +kernel
theorem dL_law_536 : decode cL_law 536 = .ok (.iaload, 1) := by decide +kernel
theorem dL_law_537 : decode cL_law 537 = .ok (.iastore, 1) := by decide +kernel
theorem dL_law_538 : decode cL_law 538 = .ok (.iload 22, 2) := by decide +kernel
theorem dL_law_540 : decode cL_law 540 = .ok (.ifCond .eq 7, 3) := by decide +kernel
theorem dL_law_543 : decode cL_law 543 = .ok (.iconst 0, 1) := by decide +kernel
theorem dL_law_544 : decode cL_law 544 = .ok (.goto 5, 3) := by decide +kernel
theorem dL_law_547 : decode cL_law 547 = .ok (.bipush (-2), 2) := by decide +kernel
theorem dL_law_549 : decode cL_law 549 = .ok (.istore 15, 2) := by decide +kernel
theorem dL_law_551 : decode cL_law 551 = .ok (.aload_n 1, 1) := by decide +kernel
theorem dL_law_552 : decode cL_law 552 = .ok (.iload 13, 2) := by decide +kernel
theorem dL_law_554 : decode cL_law 554 = .ok (.iload 20, 2) := by decide +kernel
theorem dL_law_556 : decode cL_law 556 = .ok (.iload 18, 2) := by decide +kernel
theorem dL_law_558 : decode cL_law 558 = .ok (.iload 21, 2) := by decide +kernel
theorem dL_law_560 : decode cL_law 560 = .ok (.iload 19, 2) := by decide +kernel
theorem dL_law_562 : decode cL_law 562 = .ok (.invokestatic 148, 3) := by decide +kernel
theorem dL_law_565 : decode cL_law 565 = .ok (.istore 16, 2) := by decide +kernel
theorem dL_law_567 : decode cL_law 567 = .ok (.goto 348, 3) := by decide +kernel
theorem dL_law_570 : decode cL_law 570 = .ok (.iload 12, 2) := by decide +kernel
theorem dL_law_572 : decode cL_law 572 = .ok (.bipush 15, 2) := by decide +kernel
theorem dL_law_574 : decode cL_law 574 = .ok (.if_icmp .ge 113, 3) := by decide +kernel
theorem dL_law_577 : decode cL_law 577 = .ok (.aload 5, 2) := by decide +kernel
theorem dL_law_579 : decode cL_law 579 = .ok (.bipush 7, 2) := by decide +kernel
theorem dL_law_581 : decode cL_law 581 = .ok (.iload 13, 2) := by decide +kernel
theorem dL_law_583 : decode cL_law 583 = .ok (.imul, 1) := by decide +kernel
theorem dL_law_584 : decode cL_law 584 = .ok (.iconst 4, 1) := by decide +kernel
theorem dL_law_585 : decode cL_law 585 = .ok (.iadd, 1) := by decide +kernel
theorem dL_law_586 : decode cL_law 586 = .ok (.iconst 1, 1) := by decide +kernel
theorem dL_law_587 : decode cL_law 587 = .ok (.iload 11, 2) := by decide +kernel
theorem dL_law_589 : decode cL_law 589 = .ok (.bipush 7, 2) := by decide +kernel
theorem dL_law_591 : decode cL_law 591 = .ok (.ishr, 1) := by decide +kernel
theorem dL_law_592 : decode cL_law 592 = .ok (.sipush 1000, 3) := by decide +kernel
theorem dL_law_595 : decode cL_law 595 = .ok (.invokestatic 141, 3) := by decide +kernel
theorem dL_law_598 : decode cL_law 598 = .ok (.iadd, 1) := by decide +kernel
theorem dL_law_599 : decode cL_law 599 = .ok (.iastore, 1) := by decide +kernel
theorem dL_law_600 : decode cL_law 600 = .ok (.aload 5, 2) := by decide +kernel
theorem dL_law_602 : decode cL_law 602 = .ok (.bipush 7, 2) := by decide +kernel
theorem dL_law_604 : decode cL_law 604 = .ok (.iload 13, 2) := by decide +kernel
theorem dL_law_606 : decode cL_law 606 = .ok (.imul, 1) := by decide +kernel
theorem dL_law_607 : decode cL_law 607 = .ok (.iconst 5, 1) := by decide +kernel
theorem dL_law_608 : decode cL_law 608 = .ok (.iadd, 1) := by decide +kernel
theorem dL_law_609 : decode cL_law 609 = .ok (.iconst 1, 1) := by decide +kernel
theorem dL_law_610 : decode cL_law 610 = .ok (.iload 11, 2) := by decide +kernel
theorem dL_law_612 : decode cL_law 612 = .ok (.bipush 9, 2) := by decide +kernel
theorem dL_law_614 : decode cL_law 614 = .ok (.ishr, 1) := by decide +kernel
theorem dL_law_615 : decode cL_law 615 = .ok (.sipush 1000, 3) := by decide +kernel
theorem dL_law_618 : decode cL_law 618 = .ok (.invokestatic 141, 3) := by decide +kernel
theorem dL_law_621 : decode cL_law 621 = .ok (.iadd, 1) := by decide +kernel
theorem dL_law_622 : decode cL_law 622 = .ok (.iastore, 1) := by decide +kernel
theorem dL_law_623 : decode cL_law 623 = .ok (.aload 5, 2) := by decide +kernel
theorem dL_law_625 : decode cL_law 625 = .ok (.bipush 7, 2) := by decide +kernel
theorem dL_law_627 : decode cL_law 627 = .ok (.iload 13, 2) := by decide +kernel
theorem dL_law_629 : decode cL_law 629 = .ok (.imul, 1) := by decide +kernel
theorem dL_law_630 : decode cL_law 630 = .ok (.bipush 6, 2) := by decide +kernel
theorem dL_law_632 : decode cL_law 632 = .ok (.iadd, 1) := by decide +kernel
theorem dL_law_633 : decode cL_law 633 = .ok (.iconst 1, 1) := by decide +kernel
theorem dL_law_634 : decode cL_law 634 = .ok (.iload 11, 2) := by decide +kernel
theorem dL_law_636 : decode cL_law 636 = .ok (.bipush 11, 2) := by decide +kernel
theorem dL_law_638 : decode cL_law 638 = .ok (.ishr, 1) := by decide +kernel
theorem dL_law_639 : decode cL_law 639 = .ok (.sipush 1000, 3) := by decide +kernel
theorem dL_law_642 : decode cL_law 642 = .ok (.invokestatic 141, 3) := by decide +kernel
theorem dL_law_645 : decode cL_law 645 = .ok (.iadd, 1) := by decide +kernel
theorem dL_law_646 : decode cL_law 646 = .ok (.iastore, 1) := by decide +kernel
theorem dL_law_647 : decode cL_law 647 = .ok (.aload_n 1, 1) := by decide +kernel
theorem dL_law_648 : decode cL_law 648 = .ok (.iload 13, 2) := by decide +kernel
theorem dL_law_650 : decode cL_law 650 = .ok (.aload 5, 2) := by decide +kernel
theorem dL_law_652 : decode cL_law 652 = .ok (.bipush 7, 2) := by decide +kernel
theorem dL_law_654 : decode cL_law 654 = .ok (.iload 13, 2) := by decide +kernel
theorem dL_law_656 : decode cL_law 656 = .ok (.imul, 1) := by decide +kernel
theorem dL_law_657 : decode cL_law 657 = .ok (.iconst 4, 1) := by decide +kernel
theorem dL_law_658 : decode cL_law 658 = .ok (.iadd, 1) := by decide +kernel
theorem dL_law_659 : decode cL_law 659 = .ok (.iaload, 1) := by decide +kernel
theorem dL_law_660 : decode cL_law 660 = .ok (.aload 5, 2) := by decide +kernel
theorem dL_law_662 : decode cL_law 662 = .ok (.bipush 7, 2) := by decide +kernel
theorem dL_law_664 : decode cL_law 664 = .ok (.iload 13, 2) := by decide +kernel
theorem dL_law_666 : decode cL_law 666 = .ok (.imul, 1) := by decide +kernel
theorem dL_law_667 : decode cL_law 667 = .ok (.iconst 5, 1) := by decide +kernel
theorem dL_law_668 : decode cL_law 668 = .ok (.iadd, 1) := by decide +kernel
theorem dL_law_669 : decode cL_law 669 = .ok (.iaload, 1) := by decide +kernel
theorem dL_law_670 : decode cL_law 670 = .ok (.aload 5, 2) := by decide +kernel
theorem dL_law_672 : decode cL_law 672 = .ok (.bipush 7, 2) := by decide +kernel
theorem dL_law_674 : decode cL_law 674 = .ok (.iload 13, 2) := by decide +kernel
theorem dL_law_676 : decode cL_law 676 = .ok (.imul, 1) := by decide +kernel
theorem dL_law_677 : decode cL_law 677 = .ok (.bipush 6, 2) := by decide +kernel
theorem dL_law_679 : decode cL_law 679 = .ok (.iadd, 1) := by decide +kernel
theorem dL_law_680 : decode cL_law 680 = .ok (.iaload, 1) := by decide +kernel
theorem dL_law_681 : decode cL_law 681 = .ok (.invokevirtual 151, 3) := by decide +kernel
theorem dL_law_684 : decode cL_law 684 = .ok (.goto 231, 3) := by decide +kernel
theorem dL_law_687 : decode cL_law 687 = .ok (.iload 12, 2) := by decide +kernel
theorem dL_law_689 : decode cL_law 689 = .ok (.bipush 17, 2) := by decide +kernel
theorem dL_law_691 : decode cL_law 691 = .ok (.if_icmp .ge 97, 3) := by decide +kernel
theorem dL_law_694 : decode cL_law 694 = .ok (.iload 11, 2) := by decide +kernel
theorem dL_law_696 : decode cL_law 696 = .ok (.bipush 9, 2) := by decide +kernel
theorem dL_law_698 : decode cL_law 698 = .ok (.ishr, 1) := by decide +kernel
theorem dL_law_699 : decode cL_law 699 = .ok (.iload 11, 2) := by decide +kernel
theorem dL_law_701 : decode cL_law 701 = .ok (.bipush 14, 2) := by decide +kernel
theorem dL_law_703 : decode cL_law 703 = .ok (.ishr, 1) := by decide +kernel
theorem dL_law_704 : decode cL_law 704 = .ok (.iconst 2, 1) := by decide +kernel
theorem dL_law_705 : decode cL_law 705 = .ok (.invokestatic 141, 3) := by decide +kernel
theorem dL_law_708 : decode cL_law 708 = .ok (.ifCond .ne 8, 3) := by decide +kernel
theorem dL_law_711 : decode cL_law 711 = .ok (.ldc 155, 2) := by decide +kernel
theorem dL_law_713 : decode cL_law 713 = .ok (.goto 6, 3) := by decide +kernel
theorem dL_law_716 : decode cL_law 716 = .ok (.sipush 500, 3) := by decide +kernel
theorem dL_law_719 : decode cL_law 719 = .ok (.invokestatic 141, 3) := by decide +kernel
theorem dL_law_722 : decode cL_law 722 = .ok (.istore 17, 2) := by decide +kernel
theorem dL_law_724 : decode cL_law 724 = .ok (.iload 13, 2) := by decide +kernel
theorem dL_law_726 : decode cL_law 726 = .ok (.iload 14, 2) := by decide +kernel
theorem dL_law_728 : decode cL_law 728 = .ok (.if_icmp .ne 8, 3) := by decide +kernel
theorem dL_law_731 : decode cL_law 731 = .ok (.ldc 36, 2) := by decide +kernel
theorem dL_law_733 : decode cL_law 733 = .ok (.goto 13, 3) := by decide +kernel
theorem dL_law_736 : decode cL_law 736 = .ok (.aload_n 3, 1) := by decide +kernel
theorem dL_law_737 : decode cL_law 737 = .ok (.bipush 6, 2) := by decide +kernel
theorem dL_law_739 : decode cL_law 739 = .ok (.iload 13, 2) := by decide +kernel
theorem dL_law_741 : decode cL_law 741 = .ok (.imul, 1) := by decide +kernel
theorem dL_law_742 : decode cL_law 742 = .ok (.iload 14, 2) := by decide +kernel
theorem dL_law_744 : decode cL_law 744 = .ok (.iadd, 1) := by decide +kernel
theorem dL_law_745 : decode cL_law 745 = .ok (.iaload, 1) := by decide +kernel
theorem dL_law_746 : decode cL_law 746 = .ok (.istore 15, 2) := by decide +kernel
theorem dL_law_748 : decode cL_law 748 = .ok (.aload_n 3, 1) := by decide +kernel
theorem dL_law_749 : decode cL_law 749 = .ok (.bipush 6, 2) := by decide +kernel
theorem dL_law_751 : decode cL_law 751 = .ok (.iload 13, 2) := by decide +kernel
theorem dL_law_753 : decode cL_law 753 = .ok (.imul, 1) := by decide +kernel
theorem dL_law_754 : decode cL_law 754 = .ok (.iload 14, 2) := by decide +kernel
theorem dL_law_756 : decode cL_law 756 = .ok (.iadd, 1) := by decide +kernel
theorem dL_law_757 : decode cL_law 757 = .ok (.iload 13, 2) := by decide +kernel
theorem dL_law_759 : decode cL_law 759 = .ok (.iload 14, 2) := by decide +kernel
theorem dL_law_761 : decode cL_law 761 = .ok (.if_icmp .ne 7, 3) := by decide +kernel
theorem dL_law_764 : decode cL_law 764 = .ok (.iconst 0, 1) := by decide +kernel
theorem dL_law_765 : decode cL_law 765 = .ok (.goto 5, 3) := by decide +kernel
theorem dL_law_768 : decode cL_law 768 = .ok (.iload 17, 2) := by decide +kernel
theorem dL_law_770 : decode cL_law 770 = .ok (.iastore, 1) := by decide +kernel
theorem dL_law_771 : decode cL_law 771 = .ok (.aload_n 1, 1) := by decide +kernel
theorem dL_law_772 : decode cL_law 772 = .ok (.iconst 2, 1) := by decide +kernel
theorem dL_law_773 : decode cL_law 773 = .ok (.iload 13, 2) := by decide +kernel
theorem dL_law_775 : decode cL_law 775 = .ok (.iload 14, 2) := by decide +kernel
theorem dL_law_777 : decode cL_law 777 = .ok (.iload 17, 2) := by decide +kernel
theorem dL_law_779 : decode cL_law 779 = .ok (.iconst 0, 1) := by decide +kernel
theorem dL_law_780 : decode cL_law 780 = .ok (.invokestatic 103, 3) := by decide +kernel
theorem dL_law_783 : decode cL_law 783 = .ok (.istore 16, 2) := by decide +kernel
theorem dL_law_785 : decode cL_law 785 = .ok (.goto 130, 3) := by decide +kernel
theorem dL_law_788 : decode cL_law 788 = .ok (.iload 12, 2) := by decide +kernel
theorem dL_law_790 : decode cL_law 790 = .ok (.bipush 19, 2) := by decide +kernel
theorem dL_law_792 : decode cL_law 792 = .ok (.if_icmp .ge 99, 3) := by decide +kernel
theorem dL_law_795 : decode cL_law 795 = .ok (.iload 11, 2) := by decide +kernel
theorem dL_law_797 : decode cL_law 797 = .ok (.bipush 9, 2) := by decide +kernel
theorem dL_law_799 : decode cL_law 799 = .ok (.ishr, 1) := by decide +kernel
theorem dL_law_800 : decode cL_law 800 = .ok (.iload 11, 2) := by decide +kernel
theorem dL_law_802 : decode cL_law 802 = .ok (.bipush 14, 2) := by decide +kernel
theorem dL_law_804 : decode cL_law 804 = .ok (.ishr, 1) := by decide +kernel
theorem dL_law_805 : decode cL_law 805 = .ok (.iconst 2, 1) := by decide +kernel
theorem dL_law_806 : decode cL_law 806 = .ok (.invokestatic 141, 3) := by decide +kernel
theorem dL_law_809 : decode cL_law 809 = .ok (.ifCond .ne 8, 3) := by decide +kernel
theorem dL_law_812 : decode cL_law 812 = .ok (.ldc 155, 2) := by decide +kernel
theorem dL_law_814 : decode cL_law 814 = .ok (.goto 6, 3) := by decide +kernel
theorem dL_law_817 : decode cL_law 817 = .ok (.sipush 500, 3) := by decide +kernel
theorem dL_law_820 : decode cL_law 820 = .ok (.invokestatic 141, 3) := by decide +kernel
theorem dL_law_823 : decode cL_law 823 = .ok (.istore 17, 2) := by decide +kernel
theorem dL_law_825 : decode cL_law 825 = .ok (.iload 13, 2) := by decide +kernel
theorem dL_law_827 : decode cL_law 827 = .ok (.iload 14, 2) := by decide +kernel
theorem dL_law_829 : decode cL_law 829 = .ok (.if_icmp .ne 8, 3) := by decide +kernel
theorem dL_law_832 : decode cL_law 832 = .ok (.ldc 36, 2) := by decide +kernel
theorem dL_law_834 : decode cL_law 834 = .ok (.goto 14, 3) := by decide +kernel
theorem dL_law_837 : decode cL_law 837 = .ok (.aload 4, 2) := by decide +kernel
theorem dL_law_839 : decode cL_law 839 = .ok (.bipush 6, 2) := by decide +kernel
theorem dL_law_841 : decode cL_law 841 = .ok (.iload 13, 2) := by decide +kernel
theorem dL_law_843 : decode cL_law 843 = .ok (.imul, 1) := by decide +kernel
theorem dL_law_844 : decode cL_law 844 = .ok (.iload 14, 2) := by decide +kernel
theorem dL_law_846 : decode cL_law 846 = .ok (.iadd, 1) := by decide +kernel
theorem dL_law_847 : decode cL_law 847 = .ok (.iaload, 1) := by decide +kernel
theorem dL_law_848 : decode cL_law 848 = .ok (.istore 15, 2) := by decide +kernel
theorem dL_law_850 : decode cL_law 850 = .ok (.aload 4, 2) := by decide +kernel
theorem dL_law_852 : decode cL_law 852 = .ok (.bipush 6, 2) := by decide +kernel
theorem dL_law_854 : decode cL_law 854 = .ok (.iload 13, 2) := by decide +kernel
theorem dL_law_856 : decode cL_law 856 = .ok (.imul, 1) := by decide +kernel
theorem dL_law_857 : decode cL_law 857 = .ok (.iload 14, 2) := by decide +kernel
theorem dL_law_859 : decode cL_law 859 = .ok (.iadd, 1) := by decide +kernel
theorem dL_law_860 : decode cL_law 860 = .ok (.iload 13, 2) := by decide +kernel
theorem dL_law_862 : decode cL_law 862 = .ok (.iload 14, 2) := by decide +kernel
theorem dL_law_864 : decode cL_law 864 = .ok (.if_icmp .ne 7, 3) := by decide +kernel
theorem dL_law_867 : decode cL_law 867 = .ok (.iconst 0, 1) := by decide +kernel
theorem dL_law_868 : decode cL_law 868 = .ok (.goto 5, 3) := by decide +kernel
theorem dL_law_871 : decode cL_law 871 = .ok (.iload 17, 2) := by decide +kernel
theorem dL_law_873 : decode cL_law 873 = .ok (.iastore, 1) := by decide +kernel
theorem dL_law_874 : decode cL_law 874 = .ok (.aload_n 1, 1) := by decide +kernel
theorem dL_law_875 : decode cL_law 875 = .ok (.iconst 3, 1) := by decide +kernel
theorem dL_law_876 : decode cL_law 876 = .ok (.iload 14, 2) := by decide +kernel
theorem dL_law_878 : decode cL_law 878 = .ok (.iload 13, 2) := by decide +kernel
theorem dL_law_880 : decode cL_law 880 = .ok (.iload 17, 2) := by decide +kernel
theorem dL_law_882 : decode cL_law 882 = .ok (.iconst 0, 1) := by decide +kernel
theorem dL_law_883 : decode cL_law 883 = .ok (.invokestatic 103, 3) := by decide +kernel
theorem dL_law_886 : decode cL_law 886 = .ok (.istore 16, 2) := by decide +kernel
theorem dL_law_888 : decode cL_law 888 = .ok (.goto 27, 3) := by decide +kernel
theorem dL_law_891 : decode cL_law 891 = .ok (.aload_n 1, 1) := by decide +kernel
theorem dL_law_892 : decode cL_law 892 = .ok (.aload_n 2, 1) := by decide +kernel
theorem dL_law_893 : decode cL_law 893 = .ok (.aload 5, 2) := by decide +kernel
theorem dL_law_895 : decode cL_law 895 = .ok (.aload 6, 2) := by decide +kernel
theorem dL_law_897 : decode cL_law 897 = .ok (.aload 7, 2) := by decide +kernel
theorem dL_law_899 : decode cL_law 899 = .ok (.invokestatic 156, 3) := by decide +kernel
theorem dL_law_902 : decode cL_law 902 = .ok (.istore 15, 2) := by decide +kernel
theorem dL_law_904 : decode cL_law 904 = .ok (.aload_n 1, 1) := by decide +kernel
theorem dL_law_905 : decode cL_law 905 = .ok (.iconst 4, 1) := by decide +kernel
theorem dL_law_906 : decode cL_law 906 = .ok (.iconst 0, 1) := by decide +kernel
theorem dL_law_907 : decode cL_law 907 = .ok (.iconst 0, 1) := by decide +kernel
theorem dL_law_908 : decode cL_law 908 = .ok (.iconst 0, 1) := by decide +kernel
theorem dL_law_909 : decode cL_law 909 = .ok (.iconst 0, 1) := by decide +kernel
theorem dL_law_910 : decode cL_law 910 = .ok (.invokestatic 103, 3) := by decide +kernel
theorem dL_law_913 : decode cL_law 913 = .ok (.istore 16, 2) := by decide +kernel
theorem dL_law_915 : decode cL_law 915 = .ok (.iload 11, 2) := by decide +kernel
theorem dL_law_917 : decode cL_law 917 = .ok (.bipush 6, 2) := by decide +kernel
theorem dL_law_919 : decode cL_law 919 = .ok (.ishr, 1) := by decide +kernel
theorem dL_law_920 : decode cL_law 920 = .ok (.bipush 30, 2) := by decide +kernel
theorem dL_law_922 : decode cL_law 922 = .ok (.invokestatic 141, 3) := by decide +kernel
theorem dL_law_925 : decode cL_law 925 = .ok (.istore 17, 2) := by decide +kernel
theorem dL_law_927 : decode cL_law 927 = .ok (.iload 16, 2) := by decide +kernel
theorem dL_law_929 : decode cL_law 929 = .ok (.iload 15, 2) := by decide +kernel
theorem dL_law_931 : decode cL_law 931 = .ok (.if_icmp .ne 72, 3) := by decide +kernel
theorem dL_law_934 : decode cL_law 934 = .ok (.aload_n 1, 1) := by decide +kernel
theorem dL_law_935 : decode cL_law 935 = .ok (.aload_n 2, 1) := by decide +kernel
theorem dL_law_936 : decode cL_law 936 = .ok (.aload_n 3, 1) := by decide +kernel
theorem dL_law_937 : decode cL_law 937 = .ok (.aload 4, 2) := by decide +kernel
theorem dL_law_939 : decode cL_law 939 = .ok (.aload 5, 2) := by decide +kernel
theorem dL_law_941 : decode cL_law 941 = .ok (.aload 6, 2) := by decide +kernel
theorem dL_law_943 : decode cL_law 943 = .ok (.aload 7, 2) := by decide +kernel
theorem dL_law_945 : decode cL_law 945 = .ok (.invokestatic 160, 3) := by decide +kernel
theorem dL_law_948 : decode cL_law 948 = .ok (.ifCond .eq 55, 3) := by decide +kernel
theorem dL_law_951 : decode cL_law 951 = .ok (.aload_n 1, 1) := by decide +kernel
theorem dL_law_952 : decode cL_law 952 = .ok (.iload 14, 2) := by decide +kernel
theorem dL_law_954 : decode cL_law 954 = .ok (.iload 17, 2) := by decide +kernel
theorem dL_law_956 : decode cL_law 956 = .ok (.invokevirtual 164, 3) := by decide +kernel
theorem dL_law_959 : decode cL_law 959 = .ok (.iload 14, 2) := by decide +kernel
theorem dL_law_961 : decode cL_law 961 = .ok (.iload 17, 2) := by decide +kernel
theorem dL_law_963 : decode cL_law 963 = .ok (.aload_n 2, 1) := by decide +kernel
theorem dL_law_964 : decode cL_law 964 = .ok (.aload 8, 2) := by decide +kernel
theorem dL_law_966 : decode cL_law 966 = .ok (.aload 9, 2) := by decide +kernel
theorem dL_law_968 : decode cL_law 968 = .ok (.invokestatic 167, 3) := by decide +kernel
theorem dL_law_971 : decode cL_law 971 = .ok (.if_icmp .ne 32, 3) := by decide +kernel
theorem dL_law_974 : decode cL_law 974 = .ok (.iload 10, 2) := by decide +kernel
theorem dL_law_976 : decode cL_law 976 = .ok (.iconst 3, 1) := by decide +kernel
theorem dL_law_977 : decode cL_law 977 = .ok (.irem, 1) := by decide +kernel
theorem dL_law_978 : decode cL_law 978 = .ok (.ifCond .ne 27, 3) := by decide +kernel
theorem dL_law_981 : decode cL_law 981 = .ok (.aload_n 1, 1) := by decide +kernel
theorem dL_law_982 : decode cL_law 982 = .ok (.aload_n 2, 1) := by decide +kernel
theorem dL_law_983 : decode cL_law 983 = .ok (.ldc2_w 171, 3) := by decide +kernel
theorem dL_law_986 : decode cL_law 986 = .ok (.invokestatic 173, 3) := by decide +kernel
theorem dL_law_989 : decode cL_law 989 = .ok (.ifCond .eq 14, 3) := by decide +kernel
theorem dL_law_992 : decode cL_law 992 = .ok (.aload_n 1, 1) := by decide +kernel
theorem dL_law_993 : decode cL_law 993 = .ok (.aload_n 2, 1) := by decide +kernel
theorem dL_law_994 : decode cL_law 994 = .ok (.ldc2_w 177, 3) := by decide +kernel
theorem dL_law_997 : decode cL_law 997 = .ok (.invokestatic 173, 3) := by decide +kernel
theorem dL_law_1000 : decode cL_law 1000 = .ok (.ifCond .ne 5, 3) := by decide +kernel
theorem dL_law_1003 : decode cL_law 1003 = .ok (.iconst 0, 1) := by decide +kernel
theorem dL_law_1004 : decode cL_law 1004 = .ok (.ireturn, 1) := by decide +kernel
theorem dL_law_1005 : decode cL_law 1005 = .ok (.iinc 10 1, 3) := by decide +kernel
theorem dL_law_1008 : decode cL_law 1008 = .ok (.goto (-899), 3) := by decide +kernel
theorem dL_law_1011 : decode cL_law 1011 = .ok (.iconst 1, 1) := by decide +kernel
theorem dL_law_1012 : decode cL_law 1012 = .ok (.ireturn, 1) := by decide +kernel
end
section
abbrev vwCl : List vw_C := [(RX0, TX0, 2), (RX1, TX1, 7), (RX2, TX2, 6), (RX3, TX3, 6)]
abbrev tyG (cI cJ : ClassId) : List (ClassId × FieldType) := [(cI, .int), (cJ, .long)]
abbrev eI (cI : ClassId) (n : Nat) (f : Nat → Int32) : va_E := .inl (cI, n, .inl f)
abbrev eJ (cJ : ClassId) (n : Nat) (f : Nat → Int64) : va_E := .inl (cJ, n, .inr (.inl f))
abbrev GW (a : Nat → Nat) (cI cJ : ClassId) (p : Nat → Int32) (nu de eq : Nat → Int64) (am nx oA oD oE oP cR aR hR cl ad gw pr : Nat → Int32) (n : Int32) : va_W :=
  [(a 0, .inr (3, [.ref (a 1), .ref (a 2), .ref (a 3), .ref (a 4), .ref (a 5), .int n])),
   (a 1, .inr (2, [.ref (a 6), .ref (a 7), .ref (a 8), .ref (a 9), .ref (a 10), .ref (a 11)])),
   (a 2, .inr (1, [.ref (a 12), .ref (a 13), .ref (a 14), .ref (a 15), .ref (a 16), .ref (a 17), .ref (a 18)])),
   (a 3, .inr (0, [.ref (a 19), .ref (a 20)])),
   (a 4, eI cI 6 gw), (a 5, eI cI 12 pr),
   (a 6, eI cI 36 p), (a 7, eJ cJ 6 nu), (a 8, eJ cJ 6 de), (a 9, eJ cJ 36 eq), (a 10, eI cI 6 am), (a 11, eI cI 6 nx),
   (a 12, eI cI 6 oA), (a 13, eI cI 6 oD), (a 14, eI cI 6 oE), (a 15, eI cI 6 oP), (a 16, eI cI 6 cR), (a 17, eI cI 6 aR), (a 18, eI cI 6 hR),
   (a 19, eI cI 36 cl), (a 20, eI cI 36 ad)]
def nestL : List (String × Nat × MethodName) :=
  [(RX3, 9, yX2_init), (RX3, 18, yX1_init), (RX3, 25, yX0_init), (RX3, 85, yX2_members), (RX2, 83, yX3_isMember), (RX2, 31, yX3_pair), (RX3, 117, yX0_agreedAmong),
   (RX0, 22, yX3_isMember), (RX0, 18, yX3_pair), (RX3, 124, yX1_assetsOf), (RX3, 127, yX1_debtsOf), (RX3, 62, yX1_netOf), (RX3, 160, yX2_partOfOthers), (RX3, 104, yX1_profitOf),
   (RX3, 139, yX2_partOfParent), (RX3, 49, yX2_percentOf), (RX3, 53, yX2_take), (RX3, 75, yX2_numeratorOf), (RX3, 79, yX2_denominatorOf), (RX3, 82, yX2_millionthsAfter),
   (RX3, 93, yX1_enter), (RX3, 97, yX1_enterRates), (RX3, 101, yX1_equityOf), (RX3, 107, yX0_replaceClaim), (RX3, 111, yX0_replaceAdmitted), (RX3, 114, yX0_disputed), (RX3, 152, yX1_carryResults)]
abbrev RIA : String := "java/lang/IllegalArgumentException"
abbrev RIS : String := "java/lang/IllegalStateException"
def EVt (U : State) : Prop :=
  (∀ q ∈ nestL, va_Nw (.methodLinkNest q.1 q.2.1 q.2.2 RX3) U) ∧ va_Nw (.castable RIA RIA) U ∧ va_Nw (.castable RIS RIS) U ∧
  (∃ z, vk_R RX3 165 "argument out of range" z U) ∧ (∃ z, vk_R RX3 163 "a company and itself" z U) ∧ (∃ z, vk_R RX3 169 "holdings not possible" z U) ∧
  (∃ z, vk_R RX3 167 "books do not balance" z U) ∧ (∃ z, vk_R RX3 144 "all periods are closed" z U) ∧ (∃ z, vk_R RX3 157 "period not closed" z U)
theorem castable_warm {x y : String} {s U : State} (hW : s.WarmedH U.vm) (h : va_Nw (.castable x y) s) : va_Nw (.castable x y) U := by
  have hal := hW.alike
  simp only [va_Nw, Cond.before, Cond.holds, Cond.value] at h ⊢
  rw [hal.findClass x, hal.findClass y]
  cases hx : s.vm.findClass x with
  | none => simp [hx] at h
  | some i =>
    cases hy : s.vm.findClass y with
    | none => simp [hx, hy] at h
    | some j =>
      simp only [hx, hy] at h ⊢
      rw [hal.assignable]
      exact h
theorem EVt.warm {s U : State} (hW : s.WarmedH U.vm) (h : EVt s) : EVt U := by
  obtain ⟨h1, h2, h3, ⟨z4, h4⟩, ⟨z5, h5⟩, ⟨z6, h6⟩, ⟨z7, h7⟩, ⟨z8, h8⟩, ⟨z9, h9⟩⟩ := h
  exact ⟨fun q hq => va_Nw.warmM hW (h1 q hq), castable_warm hW h2, castable_warm hW h3, ⟨z4, vk_R.warm hW h4⟩, ⟨z5, vk_R.warm hW h5⟩, ⟨z6, vk_R.warm hW h6⟩, ⟨z7, vk_R.warm hW h7⟩, ⟨z8, vk_R.warm hW h8⟩, ⟨z9, vk_R.warm hW h9⟩⟩
theorem EVt.nest {U : State} (h : EVt U) (i : Nat) {q : String × Nat × MethodName} (hi : nestL[i]? = some q) : va_Nw (.methodLinkNest q.1 q.2.1 q.2.2 RX3) U := h.1 q (List.mem_of_getElem? hi)
def EVh (A : Nat → Prop) (U : State) (H : Heap) : Prop := vx_Zq Bundle.tN "UNASSIGNED_STACK" Bundle.steD A U H ∧ vx_Zq Bundle.tN "SUPPRESSED_SENTINEL" Bundle.listD A U H
theorem EVh.kept {A : Nat → Prop} {U : State} {H0 H : Heap} (h : EVh A U H0) (hq : ∀ a : Nat, a < H0.size → ¬ A a → H[a]? = H0[a]?) : EVh A U H := ⟨h.1.kept hq, h.2.kept hq⟩
theorem EVh.to {A B : Nat → Prop} {s U : State} {H0 H : Heap} {locs : List Loc} (h : EVh A s H0) (hS : va_S A H0 H locs) (hB : ∀ q, B q → A q) (hW : s.vm.Alike U.vm) : EVh B U H :=
  ⟨((h.1.kept hS.2.1).narrow hB).moved hW, ((h.2.kept hS.2.1).narrow hB).moved hW⟩
def PR (D : va_G) (tys : List (ClassId × FieldType)) (ws : va_W) (U : State) : Prop := va_P D vwCl ws U.heap ∧ va_K D vwCl tys U ∧ EVt U
def PW (D : va_G) (tys : List (ClassId × FieldType)) (ws : va_W) (sz : Nat) (U : State) : Prop := U.heap.size = sz ∧ va_P D vwCl ws U.heap ∧ va_K D vwCl tys U ∧ va_D (fun _ => True) ws ∧ EVt U
def PX (D : va_G) (tys : List (ClassId × FieldType)) (ws : va_W) (sz : Nat) (U : State) : Prop := U.heap.size = sz ∧ va_P D vwCl ws U.heap ∧ va_K D vwCl tys U ∧ va_D (fun _ => True) ws ∧ EVt U ∧ EVh (va_A ws sz) U U.heap
def AW (D : va_G) (tys : List (ClassId × FieldType)) (A : Nat → Prop) (ws : va_W) (t : State) : Prop := va_P D vwCl ws t.heap ∧ va_K D vwCl tys t ∧ va_D A ws
theorem EVt.calling {U : State} {g : JFrame} {mk : MethodId} {a : Array Value} (h : EVt U) : EVt (U.calling g mk a) := by
  obtain ⟨h1, h2, h3, ⟨z4, h4⟩, ⟨z5, h5⟩, ⟨z6, h6⟩, ⟨z7, h7⟩, ⟨z8, h8⟩, ⟨z9, h9⟩⟩ := h
  exact ⟨fun q hq => va_Nw.same rfl rfl (h1 q hq), va_Nw.same rfl rfl h2, va_Nw.same rfl rfl h3, ⟨z4, vk_R.same rfl h4⟩, ⟨z5, vk_R.same rfl h5⟩, ⟨z6, vk_R.same rfl h6⟩, ⟨z7, vk_R.same rfl h7⟩, ⟨z8, vk_R.same rfl h8⟩, ⟨z9, vk_R.same rfl h9⟩⟩
theorem PT.blind {av : List Value} : FrameBlind (va_Pc av (fun _ => True)) := fun _ _ _ _ h => ⟨h.1, trivial⟩
theorem PR.blind {av : List Value} {D : va_G} {tys : List (ClassId × FieldType)} {ws : va_W} : FrameBlind (va_Pc av (PR D tys ws)) := fun a U g mk h =>
  ⟨h.1, h.2.1, va_K.moved (u := U) (U := U.calling g mk a) (Vm.Alike.refl U.vm) h.2.2.1, h.2.2.2.calling⟩
theorem PW.blind {av : List Value} {D : va_G} {tys : List (ClassId × FieldType)} {ws : va_W} {sz : Nat} : FrameBlind (va_Pc av (PW D tys ws sz)) := fun a U g mk h =>
  ⟨h.1, h.2.1, h.2.2.1, va_K.moved (u := U) (U := U.calling g mk a) (Vm.Alike.refl U.vm) h.2.2.2.1, h.2.2.2.2.1, h.2.2.2.2.2.calling⟩
theorem PX.blind {av : List Value} {D : va_G} {tys : List (ClassId × FieldType)} {ws : va_W} {sz : Nat} : FrameBlind (va_Pc av (PX D tys ws sz)) := fun a U g mk h =>
  ⟨h.1, h.2.1, h.2.2.1, va_K.moved (u := U) (U := U.calling g mk a) (Vm.Alike.refl U.vm) h.2.2.2.1, h.2.2.2.2.1, h.2.2.2.2.2.1.calling, h.2.2.2.2.2.2.1.moved (Vm.Alike.refl U.vm), h.2.2.2.2.2.2.2.moved (Vm.Alike.refl U.vm)⟩
theorem PT.to {av : List Value} {s : State} {H : Heap} : ∀ U : State, U.heap = H → s.WarmedH U.vm → va_Pc av (fun _ => True) av.toArray U := fun _ _ _ => ⟨rfl, trivial⟩
theorem PR.to {av : List Value} {D : va_G} {tys tys0 : List (ClassId × FieldType)} {ws ws0 : va_W} {s : State} {H : Heap} (hP : va_P D vwCl ws0 H) (hK : va_K D vwCl tys0 s) (hE : EVt s) (iw it : List Nat) (hw : iw.filterMap (fun i => ws0[i]?) = ws) (ht : it.filterMap (fun i => tys0[i]?) = tys) :
    ∀ U : State, U.heap = H → s.WarmedH U.vm → va_Pc av (PR D tys ws) av.toArray U := fun U hU hW => ⟨rfl, by rw [hU]; exact hP.sub iw hw, va_K.moved hW.alike (hK.sub it ht), hE.warm hW⟩
theorem PR.go {av : List Value} {D : va_G} {tys : List (ClassId × FieldType)} {ws : va_W} {s : State} {H : Heap} (hP : va_P D vwCl ws H) (hK : va_K D vwCl tys s) (hE : EVt s) :
    ∀ U : State, U.heap = H → s.WarmedH U.vm → va_Pc av (PR D tys ws) av.toArray U := fun U hU hW => ⟨rfl, by rw [hU]; exact hP, va_K.moved hW.alike hK, hE.warm hW⟩
theorem PW.go {av : List Value} {D : va_G} {tys : List (ClassId × FieldType)} {ws : va_W} {s : State} {H : Heap} {A : Nat → Prop} (hP : va_P D vwCl ws H) (hK : va_K D vwCl tys s) (hD : va_D A ws) (hE : EVt s) :
    ∀ U : State, U.heap = H → s.WarmedH U.vm → va_Pc av (PW D tys ws H.size) av.toArray U := fun U hU hW => ⟨rfl, by rw [hU], by rw [hU]; exact hP, va_K.moved hW.alike hK, hD.weaken (fun _ _ _ _ => trivial), hE.warm hW⟩
theorem A_in {A : Nat → Prop} {ws : va_W} {H0 H : Heap} {locs : List Loc} (hD : va_D A ws) (hS : va_S A H0 H locs) (hA : ∀ q, H0.size ≤ q → A q) : ∀ q, va_A ws H.size q → A q := by
  intro q h
  rcases h with ⟨k, e, h⟩ | h
  · exact hD.2 k (q, e) h
  · exact hA q (Nat.le_trans hS.1 h)
theorem PX.go {av : List Value} {D : va_G} {tys : List (ClassId × FieldType)} {ws : va_W} {s : State} {H : Heap} {A : Nat → Prop} {locs : List Loc} (hP : va_P D vwCl ws H) (hK : va_K D vwCl tys s) (hD : va_D A ws) (hE : EVt s) (hV : EVh A s s.heap) (hS : va_S A s.heap H locs) (hA : ∀ q, s.heap.size ≤ q → A q) :
    ∀ U : State, U.heap = H → s.WarmedH U.vm → va_Pc av (PX D tys ws H.size) av.toArray U := fun U hU hW =>
  ⟨rfl, by rw [hU], by rw [hU]; exact hP, va_K.moved hW.alike hK, hD.weaken (fun _ _ _ _ => trivial), hE.warm hW, by rw [hU]; exact hV.to hS (A_in hD hS hA) hW.alike⟩
section GB
variable {p : Program} {l : Launch} {e : Env} {R : Room} {s : State} {m : MethodId} {args : Array Value} {below : List Frame} {meth : Method} {c : Code} {H : Heap} {locs : List Loc} {cells slots : Nat} {Q : State → Prop}
variable {cc : ByteArray} {pc : Nat} {ls : Array Slot} {rest st0 : List Value} {D : va_G} {cl : List vw_C} {A A1 : Nat → Prop} {a : Nat} {tys : List (ClassId × FieldType)} {ws : va_W} {H0 : Heap} {av : Array Value} {mc ms : Nat} {free : Addr → Prop}
theorem b_ti {x y : Int32} (h : x = y) (k : W p l e R s m args below meth c H locs cells slots Q (F0 m pc ls (.int y :: rest))) : W p l e R s m args below meth c H locs cells slots Q (F0 m pc ls (.int x :: rest)) := h ▸ k
theorem b_tl {x y : Int64} (h : x = y) (k : W p l e R s m args below meth c H locs cells slots Q (F0 m pc ls (.long y :: rest))) : W p l e R s m args below meth c H locs cells slots Q (F0 m pc ls (.long x :: rest)) := h ▸ k
theorem b_csi {v : Int32} (hr : CallRun p l e R s m args below meth c H locs cells slots 0 0 (F0 m pc ls st0) rest (vp_Si (fun r => r = v) av) (fun _ => False))
    (k : W p l e R s m args below meth c H locs cells slots Q (F0 m (pc + 3) ls (.int v :: rest))) : W p l e R s m args below meth c H locs cells slots Q (F0 m pc ls st0) := vp_callSi hr (fun r h => by cases h; exact k)
theorem b_csl {v : Int64} (hr : CallRun p l e R s m args below meth c H locs cells slots 0 0 (F0 m pc ls st0) rest (vp_Sl (fun r => r = v) av) (fun _ => False))
    (k : W p l e R s m args below meth c H locs cells slots Q (F0 m (pc + 3) ls (.long v :: rest))) : W p l e R s m args below meth c H locs cells slots Q (F0 m pc ls st0) := vp_callSl hr (fun r h => by cases h; exact k)
theorem b_iald (hexec : p.tables.exec = Jvm.exec) (hb : c.code = cc) (hK : va_K D cl tys s) (hP : va_P D cl ws H) (q0 t0 : Nat) {cA : ClassId} {n : Nat} {f : Nat → Int32} (ha : ws[q0]? = some (a, .inl (cA, n, .inl f))) (ht : tys[t0]? = some (cA, .int)) {j : Nat} (hj : j < n) (hn : n < 2 ^ 31) (hdg : decode cc pc = .ok (.iaload, 1))
    (kk : W p l e R s m args below meth c H locs cells slots Q (F0 m (pc + 1) ls (.int (f j) :: rest))) : W p l e R s m args below meth c H locs cells slots Q (F0 m pc ls (.int (nI j) :: .ref a :: rest)) :=
  va_iald hexec hb hK hP q0 t0 ha ht (vp_in_nI hj hn) hdg (by rw [nI_clamp (Nat.lt_trans hj hn)]; exact kk)
theorem b_lald (hexec : p.tables.exec = Jvm.exec) (hb : c.code = cc) (hK : va_K D cl tys s) (hP : va_P D cl ws H) (q0 t0 : Nat) {cA : ClassId} {n : Nat} {f : Nat → Int64} (ha : ws[q0]? = some (a, .inl (cA, n, .inr (.inl f)))) (ht : tys[t0]? = some (cA, .long)) {j : Nat} (hj : j < n) (hn : n < 2 ^ 31) (hdg : decode cc pc = .ok (.laload, 1))
    (kk : W p l e R s m args below meth c H locs cells slots Q (F0 m (pc + 1) ls (.long (f j) :: rest))) : W p l e R s m args below meth c H locs cells slots Q (F0 m pc ls (.int (nI j) :: .ref a :: rest)) :=
  va_lald hexec hb hK hP q0 t0 ha ht (vp_in_nI hj hn) hdg (by rw [nI_clamp (Nat.lt_trans hj hn)]; exact kk)
theorem b_iast {w' : va_W} (hexec : p.tables.exec = Jvm.exec) (hb : c.code = cc) (hK : va_K D cl tys s) (hP : va_P D cl ws H) (hD : va_D A ws) (hS : va_S A H0 H locs) (q0 t0 : Nat) {cA : ClassId} {n : Nat} {f : Nat → Int32} (ha : ws[q0]? = some (a, .inl (cA, n, .inl f))) (ht : tys[t0]? = some (cA, .int)) {j : Nat} {x : Int32} (hj : j < n) (hn : n < 2 ^ 31) (hw : ws.set q0 (a, .inl (cA, n, .inl (upd f j x))) = w') (hdg : decode cc pc = .ok (.iastore, 1))
    (kk : ∀ (H1 : Heap) (locs1 : List Loc), va_P D cl w' H1 → va_D A w' → va_S A H0 H1 locs1 → W p l e R s m args below meth c H1 locs1 cells slots Q (F0 m (pc + 1) ls rest)) : W p l e R s m args below meth c H locs cells slots Q (F0 m pc ls (.int x :: .int (nI j) :: .ref a :: rest)) := by
  subst hw
  refine va_iast hexec hb hK hP hD hS q0 t0 ha ht (vp_in_nI hj hn) hdg ?_
  rw [nI_clamp (Nat.lt_trans hj hn)]
  exact kk
theorem b_last {w' : va_W} (hexec : p.tables.exec = Jvm.exec) (hb : c.code = cc) (hK : va_K D cl tys s) (hP : va_P D cl ws H) (hD : va_D A ws) (hS : va_S A H0 H locs) (q0 t0 : Nat) {cA : ClassId} {n : Nat} {f : Nat → Int64} (ha : ws[q0]? = some (a, .inl (cA, n, .inr (.inl f)))) (ht : tys[t0]? = some (cA, .long)) {j : Nat} {x : Int64} (hj : j < n) (hn : n < 2 ^ 31) (hw : ws.set q0 (a, .inl (cA, n, .inr (.inl (vp_updL f j x)))) = w') (hdg : decode cc pc = .ok (.lastore, 1))
    (kk : ∀ (H1 : Heap) (locs1 : List Loc), va_P D cl w' H1 → va_D A w' → va_S A H0 H1 locs1 → W p l e R s m args below meth c H1 locs1 cells slots Q (F0 m (pc + 1) ls rest)) : W p l e R s m args below meth c H locs cells slots Q (F0 m pc ls (.long x :: .int (nI j) :: .ref a :: rest)) := by
  subst hw
  refine va_last hexec hb hK hP hD hS q0 t0 ha ht (vp_in_nI hj hn) hdg ?_
  rw [nI_clamp (Nat.lt_trans hj hn)]
  exact kk
theorem b_callv {S : Type} {post : S → Prop} {w' : S → va_W} (hP : va_P D vwCl ws H) (hD : va_D A ws) (hS : va_S A H0 H locs) (hA : ∀ q, H0.size ≤ q → A q)
    (hr : va_Run p l e R s m args below meth c H locs cells slots mc ms (F0 m pc ls st0) rest (va_Qv post (fun u t => AW D tys (va_A ws H.size) (w' u) t) (va_A ws H.size) av) (va_A ws H.size))
    (kk : ∀ (u : S) (H1 : Heap) (locs1 : List Loc), post u → va_P D vwCl (w' u) H1 → va_D A (w' u) → va_S A H0 H1 locs1 → W p l e R s m args below meth c H1 locs1 (cells + mc) (slots + ms) Q (F0 m (pc + 3) ls rest)) : W p l e R s m args below meth c H locs cells slots Q (F0 m pc ls st0) :=
  va_callv hr hS (fun q _ h => A_in hD hS hA q h) (A_in hD hS hA) (fun u t H1 locs1 ht hvm hw hB hz1 hk1 hS1 => kk u H1 locs1 hw (by rw [← ht]; exact hB.1) (hB.2.2.weaken (fun _ _ _ h => A_in hD hS hA _ h)) hS1)
theorem b_calli {S : Type} {post : Int32 → S → Prop} {w' : S → va_W} (hP : va_P D vwCl ws H) (hD : va_D A ws) (hS : va_S A H0 H locs) (hA : ∀ q, H0.size ≤ q → A q)
    (hr : va_Run p l e R s m args below meth c H locs cells slots mc ms (F0 m pc ls st0) rest (va_Qi post (fun u t => AW D tys (va_A ws H.size) (w' u) t) (va_A ws H.size) av) (va_A ws H.size))
    (kk : ∀ (r : Int32) (u : S) (H1 : Heap) (locs1 : List Loc), post r u → va_P D vwCl (w' u) H1 → va_D A (w' u) → va_S A H0 H1 locs1 → W p l e R s m args below meth c H1 locs1 (cells + mc) (slots + ms) Q (F0 m (pc + 3) ls (.int r :: rest))) : W p l e R s m args below meth c H locs cells slots Q (F0 m pc ls st0) :=
  va_calli hr hS (fun q _ h => A_in hD hS hA q h) (A_in hD hS hA) (fun r u t H1 locs1 ht hvm hw hB hz1 hk1 hS1 => kk r u H1 locs1 hw (by rw [← ht]; exact hB.1) (hB.2.2.weaken (fun _ _ _ h => A_in hD hS hA _ h)) hS1)
theorem b_calll {S : Type} {post : Int64 → S → Prop} {w' : S → va_W} (hP : va_P D vwCl ws H) (hD : va_D A ws) (hS : va_S A H0 H locs) (hA : ∀ q, H0.size ≤ q → A q)
    (hr : va_Run p l e R s m args below meth c H locs cells slots mc ms (F0 m pc ls st0) rest (va_Ql post (fun u t => AW D tys (va_A ws H.size) (w' u) t) (va_A ws H.size) av) (va_A ws H.size))
    (kk : ∀ (r : Int64) (u : S) (H1 : Heap) (locs1 : List Loc), post r u → va_P D vwCl (w' u) H1 → va_D A (w' u) → va_S A H0 H1 locs1 → W p l e R s m args below meth c H1 locs1 (cells + mc) (slots + ms) Q (F0 m (pc + 3) ls (.long r :: rest))) : W p l e R s m args below meth c H locs cells slots Q (F0 m pc ls st0) :=
  va_calll hr hS (fun q _ h => A_in hD hS hA q h) (A_in hD hS hA) (fun r u t H1 locs1 ht hvm hw hB hz1 hk1 hS1 => kk r u H1 locs1 hw (by rw [← ht]; exact hB.1) (hB.2.2.weaken (fun _ _ _ h => A_in hD hS hA _ h)) hS1)
theorem b_callv0 {S : Type} {post : S → Prop} {w' : S → va_W} (hP : va_P D vwCl ws H) (hD : va_D A ws) (hS : va_S A H0 H locs) (hA : ∀ q, H0.size ≤ q → A q)
    (hr : va_Run p l e R s m args below meth c H locs cells slots 0 0 (F0 m pc ls st0) rest (va_Qv post (fun u t => AW D tys (va_A ws H.size) (w' u) t) (va_A ws H.size) av) (va_A ws H.size))
    (kk : ∀ (u : S) (H1 : Heap) (locs1 : List Loc), post u → va_P D vwCl (w' u) H1 → va_D A (w' u) → va_S A H0 H1 locs1 → W p l e R s m args below meth c H1 locs1 cells slots Q (F0 m (pc + 3) ls rest)) : W p l e R s m args below meth c H locs cells slots Q (F0 m pc ls st0) := b_callv hP hD hS hA hr kk
theorem b_calli0 {S : Type} {post : Int32 → S → Prop} {w' : S → va_W} (hP : va_P D vwCl ws H) (hD : va_D A ws) (hS : va_S A H0 H locs) (hA : ∀ q, H0.size ≤ q → A q)
    (hr : va_Run p l e R s m args below meth c H locs cells slots 0 0 (F0 m pc ls st0) rest (va_Qi post (fun u t => AW D tys (va_A ws H.size) (w' u) t) (va_A ws H.size) av) (va_A ws H.size))
    (kk : ∀ (r : Int32) (u : S) (H1 : Heap) (locs1 : List Loc), post r u → va_P D vwCl (w' u) H1 → va_D A (w' u) → va_S A H0 H1 locs1 → W p l e R s m args below meth c H1 locs1 cells slots Q (F0 m (pc + 3) ls (.int r :: rest))) : W p l e R s m args below meth c H locs cells slots Q (F0 m pc ls st0) := b_calli hP hD hS hA hr kk
theorem b_calll0 {S : Type} {post : Int64 → S → Prop} {w' : S → va_W} (hP : va_P D vwCl ws H) (hD : va_D A ws) (hS : va_S A H0 H locs) (hA : ∀ q, H0.size ≤ q → A q)
    (hr : va_Run p l e R s m args below meth c H locs cells slots 0 0 (F0 m pc ls st0) rest (va_Ql post (fun u t => AW D tys (va_A ws H.size) (w' u) t) (va_A ws H.size) av) (va_A ws H.size))
    (kk : ∀ (r : Int64) (u : S) (H1 : Heap) (locs1 : List Loc), post r u → va_P D vwCl (w' u) H1 → va_D A (w' u) → va_S A H0 H1 locs1 → W p l e R s m args below meth c H1 locs1 cells slots Q (F0 m (pc + 3) ls (.long r :: rest))) : W p l e R s m args below meth c H locs cells slots Q (F0 m pc ls st0) := b_calll hP hD hS hA hr kk
end GB
def bI (b : Bool) : Int32 := if b then 1 else 0
theorem bI0 {b : Bool} (h : bI b = 0) : ¬ b = true := by cases b <;> simp_all [bI]
theorem bI1 {b : Bool} (h : ¬ bI b = 0) : b = true := by cases b <;> simp_all [bI]
theorem bI1' {b : Bool} (h : bI b = 1) : b = true := by cases b <;> simp_all [bI]
theorem bIn (b : Bool) : narrow .boolean (.int (bI b)) = .int (bI b) := by cases b <;> rfl
theorem bI_t {b : Bool} (h : b = true) : (1 : Int32) = bI b := by subst h; rfl
theorem bI_f {b : Bool} (h : ¬ b = true) : (0 : Int32) = bI b := by cases b <;> simp_all [bI]
def sI (f : Nat → Int32) : Nat → Int32 | 0 => 0 | n + 1 => sI f n + f n
theorem ofWF {l : Launch} {y : MethodName} {ws ws' : List Cond} {rm : Room} {Pc : Array Value → State → Prop} {Qc : Array Value → State → Outcome → State → Prop} {mc ms : Nat} {free : Addr → Prop} {cc : ByteArray} {maxL : Nat} {ret : Option FieldType}
    (hy : plainFor y = true) (hw : ws = Cond.code y cc maxL ret :: ws')
    (body : ∀ p e s m args below meth c s₁, BodyLoose p l y (headSpec ws rm) cc maxL ret e s m args below meth c s₁ → c.maxLocals = maxL → Pc args s →
      W p l e (headSpec ws rm).room s m args below meth c s.heap [] 0 0 (MQ below Qc args s mc ms free) (entryFrame m args maxL)) : Met l y ws rm Pc Qc mc ms free := by
  refine MetFree.of_bodySF (code := cc) (maxLocals := maxL) (ret := ret) hy ?_ ?_
  · intro args s m h hn
    obtain ⟨meth, c, h1, h2, h3, h4, h5, h6, -, -⟩ := Cond.code_spec hn (atoms_spec (ws := ws) h _ (by rw [hw]; exact List.mem_cons_self))
    exact ⟨meth, c, h1, h2, h3, h4, h5, h6⟩
  · intro p e s m args below meth c s₁ B hml hP _
    have hh0 : s₁.heap = s.heap := by rw [B.state]; rfl
    obtain ⟨t, a1, o, b1, b2, b3⟩ := body p e s m args below meth c s₁ B hml hP s₁ hh0 (Stand.of_body B)
    exact ⟨t, o, a1, b1, b2, ⟨b3.1, b3.2⟩⟩
end
section
def mB (M c : Nat) : Bool := decide (M / 2 ^ c % 2 = 1)
def fdI (x y : Int32) : Int32 := if 0 ≤ (x ^^^ y) then x / y else if x / y * y = x then x / y else x / y - 1
def fdL (x y : Int64) : Int64 := if 0 ≤ (x ^^^ y) then x / y else if x / y * y = x then x / y else x / y - 1
theorem s_lc : ∀ n, n < 32 → ((nI n &&& 31).toBitVec.smod 32).toNat = n := by decide
theorem sh_and (M c : Nat) (hM : M < 2 ^ 31) (hc : c < 32) : nI M >>> (nI c &&& 31) = nI (M / 2 ^ c) := pk_shrN hM _ c (s_lc c hc)
theorem an_1 (M : Nat) (hM : M < 2 ^ 31) : nI M &&& 1 = nI (M % 2) := pk_andN (Nat.lt_trans hM (by decide)) 1 rfl
theorem dv_lt {M c : Nat} (hM : M < 2 ^ 31) : M / 2 ^ c < 2 ^ 31 := Nat.lt_of_le_of_lt (Nat.div_le_self _ _) hM
def scl (x : Int32) (b w : Int64) : Int32 := if w ≤ 0 then 0 else (fdL (x.toInt64 * b) w).toInt32
theorem ne_of_nle {w : Int64} (h : ¬ w ≤ 0) : ¬ w = 0 := fun e => h (by rw [e]; decide)
def tr (x y : Int32) : Int32 := fdI (x * y) 100
end
section
abbrev rmX3_pair : Room := ({ frames := 0, cells := 0, slots := 0, locals := 0 } : Room)
set_option maxHeartbeats 4000000 in
set_option maxRecDepth 100000 in
theorem c_X3_pair (ll : Launch) (r c : Nat)  : Met ll yX3_pair wsX3_pair rmX3_pair (va_Pc [.int (nI (r)), .int (nI (c))] (fun _ => True)) (vp_Si (fun rr => rr = nI (6 * r + c))) 0 0 (fun _ => False) := by
  refine Met.ofW (cc := cX3_pair) (maxL := 2) (ret := (some .int)) (by decide) rfl ?_
  intro pp ee ss mm ar bel mth cd s₁ B hml hv
  obtain ⟨rfl, -⟩ := hv
  have hx := B.exec
  have hb := B.bytes
  have hr := B.returns
  have hts := atoms_spec (ws := wsX3_pair) B.pre
  have hown : ss.vm.findClass RX3 = some mm.cls := findClass_of_methodNamed B.named
  have hlocks := B.notSynchronized
  have hl := lv_entry [.int (nI (r)), .int (nI (c))] (n := 2) (Nat.le_of_ble_eq_true rfl)
  rw [lg_entry_eq]
  generalize (lg_sl [.int (nI (r)), .int (nI (c))] ++ List.replicate (2 - (lg_sl [.int (nI (r)), .int (nI (c))]).length) Slot.unset).toArray = ls at hl ⊢
  have hl : lv_has ls 2 [(0, .int (nI (r))), (1, .int (nI (c)))] := hl
  refine lv_iload_n hx hb dX3_pair_0 rfl (lv_at hl 0 rfl) ?_
  refine lv_bipush (v := 6) hx hb dX3_pair_1 (by decide) ?_
  refine lv_imul hx hb dX3_pair_3 ?_
  refine b_ti (pk_mul (r) (6)) ?_
  refine lv_iload_n hx hb dX3_pair_4 rfl (lv_at hl 1 rfl) ?_
  refine lv_iadd hx hb dX3_pair_5 ?_
  refine b_ti (nI_add ((r) * (6)) (c)) ?_
  exact W.iret hx hb hr (fun t ht _ => ⟨_, rfl, (by rw [Nat.mul_comm]), ht⟩) (fun _ h => nomatch h) dX3_pair_6

abbrev rmX3_isMember : Room := ({ frames := 0, cells := 0, slots := 0, locals := 0 } : Room)
set_option maxHeartbeats 4000000 in
set_option maxRecDepth 100000 in
theorem c_X3_isMember (ll : Launch) (M c : Nat) (hM : M < 2 ^ 31) (hc : c < 32) : Met ll yX3_isMember wsX3_isMember rmX3_isMember (va_Pc [.int (nI (M)), .int (nI (c))] (fun _ => True)) (vp_Si (fun rr => rr = bI (mB M c))) 0 0 (fun _ => False) := by
  refine Met.ofW (cc := cX3_isMember) (maxL := 2) (ret := (some .boolean)) (by decide) rfl ?_
  intro pp ee ss mm ar bel mth cd s₁ B hml hv
  obtain ⟨rfl, -⟩ := hv
  have hx := B.exec
  have hb := B.bytes
  have hr := B.returns
  have hts := atoms_spec (ws := wsX3_isMember) B.pre
  have hown : ss.vm.findClass RX3 = some mm.cls := findClass_of_methodNamed B.named
  have hlocks := B.notSynchronized
  have hl := lv_entry [.int (nI (M)), .int (nI (c))] (n := 2) (Nat.le_of_ble_eq_true rfl)
  rw [lg_entry_eq]
  generalize (lg_sl [.int (nI (M)), .int (nI (c))] ++ List.replicate (2 - (lg_sl [.int (nI (M)), .int (nI (c))]).length) Slot.unset).toArray = ls at hl ⊢
  have hl : lv_has ls 2 [(0, .int (nI (M))), (1, .int (nI (c)))] := hl
  refine lv_iload_n hx hb dX3_isMember_0 rfl (lv_at hl 0 rfl) ?_
  refine lv_iload_n hx hb dX3_isMember_1 rfl (lv_at hl 1 rfl) ?_
  refine lv_ishr hx hb dX3_isMember_2 ?_
  refine b_ti (y := nI (M / 2 ^ c)) (sh_and M c hM hc) ?_
  refine lv_iconst (v := 1) hx hb dX3_isMember_3 (by decide) ?_
  refine lv_iand hx hb dX3_isMember_4 ?_
  refine b_ti (y := nI (M / 2 ^ c % 2)) (an_1 _ (dv_lt hM)) ?_
  refine lv_iconst (v := 1) hx hb dX3_isMember_5 (by decide) ?_
  refine lv_icmp_ne (tgt := 13) hx hb dX3_isMember_6 (by decide) (fun c_1 => ?_) (fun c_1 => ?_)
  · have n_1 : ¬ ((M / 2 ^ c % 2) = (1)) := fun h => c_1 ((nI_eq (a := M / 2 ^ c % 2) (b := 1) (by omega) (by omega)).mpr h)
    refine lv_iconst (v := 0) hx hb dX3_isMember_13 (by decide) ?_
    exact W.zret hx hb hr ((by decide)) (fun t ht _ => ⟨_, rfl, (by simp only [mB, n_1, decide_true, decide_false, bI]; rfl), ht⟩) (fun _ h => nomatch h) dX3_isMember_14
  · have n_1 : (M / 2 ^ c % 2) = (1) := (nI_eq (a := M / 2 ^ c % 2) (b := 1) (by omega) (by omega)).mp c_1
    refine lv_iconst (v := 1) hx hb dX3_isMember_9 (by decide) ?_
    refine lv_goto (tgt := 14) hx hb dX3_isMember_10 (by decide) ?_
    exact W.zret hx hb hr ((by decide)) (fun t ht _ => ⟨_, rfl, (by simp only [mB, n_1, decide_true, decide_false, bI]; rfl), ht⟩) (fun _ h => nomatch h) dX3_isMember_14

abbrev rmJ9_floorDiv_7cf53 : Room := ({ frames := 0, cells := 0, slots := 0, locals := 0 } : Room)
set_option maxHeartbeats 4000000 in
set_option maxRecDepth 100000 in
theorem c_J9_floorDiv_7cf53 (ll : Launch) (x y : Int32) (hy : ¬ y = 0) : Met ll yJ9_floorDiv_7cf53 wsJ9_floorDiv_7cf53 rmJ9_floorDiv_7cf53 (va_Pc [.int (x), .int (y)] (fun _ => True)) (vp_Si (fun rr => rr = fdI x y)) 0 0 (fun _ => False) := by
  refine ofWF (cc := cJ9_floorDiv_7cf53) (maxL := 3) (ret := (some .int)) (by decide +kernel) rfl ?_
  intro pp ee ss mm ar bel mth cd s₁ B hml hv
  obtain ⟨rfl, -⟩ := hv
  have hx := B.exec
  have hb := B.bytes
  have hr := B.returns
  have hts := atoms_spec (ws := wsJ9_floorDiv_7cf53) B.pre
  have hown : ss.vm.findClass RJ9 = some mm.cls := findClass_of_methodNamed B.named
  have hlocks := B.notSynchronized
  have hl := lv_entry [.int (x), .int (y)] (n := 3) (Nat.le_of_ble_eq_true rfl)
  rw [lg_entry_eq]
  generalize (lg_sl [.int (x), .int (y)] ++ List.replicate (3 - (lg_sl [.int (x), .int (y)]).length) Slot.unset).toArray = ls at hl ⊢
  have hl : lv_has ls 3 [(0, .int (x)), (1, .int (y))] := hl
  refine lv_iload_n hx hb dJ9_floorDiv_7cf53_0 rfl (lv_at hl 0 rfl) ?_
  refine lv_iload_n hx hb dJ9_floorDiv_7cf53_1 rfl (lv_at hl 1 rfl) ?_
  refine lv_idiv hx hb dJ9_floorDiv_7cf53_2 hy ?_
  refine lv_istore_n (lv' := [(2, .int ((x) / (y))), (0, .int (x)), (1, .int (y))]) hx hb dJ9_floorDiv_7cf53_3 rfl hl (by decide) rfl (fun ls hl => ?_)
  refine lv_iload_n hx hb dJ9_floorDiv_7cf53_4 rfl (lv_at hl 1 rfl) ?_
  refine lv_iload_n hx hb dJ9_floorDiv_7cf53_5 rfl (lv_at hl 2 rfl) ?_
  refine lv_ixor hx hb dJ9_floorDiv_7cf53_6 ?_
  refine lv_if_ge (tgt := 21) hx hb dJ9_floorDiv_7cf53_7 (by decide) (fun c_1 => ?_) (fun c_1 => ?_)
  · have n_1 := c_1
    refine lv_iload_n hx hb dJ9_floorDiv_7cf53_21 rfl (lv_at hl 0 rfl) ?_
    exact W.iret hx hb hr (fun t ht _ => ⟨_, rfl, (by simp only [fdI, n_1, ↓reduceIte]), ht⟩) (fun _ h => nomatch h) dJ9_floorDiv_7cf53_22
  · have n_1 := c_1
    refine lv_iload_n hx hb dJ9_floorDiv_7cf53_10 rfl (lv_at hl 0 rfl) ?_
    refine lv_iload_n hx hb dJ9_floorDiv_7cf53_11 rfl (lv_at hl 2 rfl) ?_
    refine lv_imul hx hb dJ9_floorDiv_7cf53_12 ?_
    refine lv_iload_n hx hb dJ9_floorDiv_7cf53_13 rfl (lv_at hl 1 rfl) ?_
    refine lv_icmp_eq (tgt := 21) hx hb dJ9_floorDiv_7cf53_14 (by decide) (fun c_2 => ?_) (fun c_2 => ?_)
    · have n_2 := c_2
      refine lv_iload_n hx hb dJ9_floorDiv_7cf53_21 rfl (lv_at hl 0 rfl) ?_
      exact W.iret hx hb hr (fun t ht _ => ⟨_, rfl, (by simp only [fdI, n_1, n_2, ↓reduceIte]), ht⟩) (fun _ h => nomatch h) dJ9_floorDiv_7cf53_22
    · have n_2 := c_2
      refine lv_iload_n hx hb dJ9_floorDiv_7cf53_17 rfl (lv_at hl 0 rfl) ?_
      refine lv_iconst (v := 1) hx hb dJ9_floorDiv_7cf53_18 (by decide) ?_
      refine lv_isub hx hb dJ9_floorDiv_7cf53_19 ?_
      exact W.iret hx hb hr (fun t ht _ => ⟨_, rfl, (by simp only [fdI, n_1, n_2, ↓reduceIte]), ht⟩) (fun _ h => nomatch h) dJ9_floorDiv_7cf53_20

abbrev rmJ9_floorDiv_f86c9 : Room := ({ frames := 0, cells := 0, slots := 0, locals := 0 } : Room)
set_option maxHeartbeats 4000000 in
set_option maxRecDepth 100000 in
theorem c_J9_floorDiv_f86c9 (ll : Launch) (x y : Int64) (hy : ¬ y = 0) : Met ll yJ9_floorDiv_f86c9 wsJ9_floorDiv_f86c9 rmJ9_floorDiv_f86c9 (va_Pc [.long (x), .long (y)] (fun _ => True)) (vp_Sl (fun rr => rr = fdL x y)) 0 0 (fun _ => False) := by
  refine ofWF (cc := cJ9_floorDiv_f86c9) (maxL := 6) (ret := (some .long)) (by decide +kernel) rfl ?_
  intro pp ee ss mm ar bel mth cd s₁ B hml hv
  obtain ⟨rfl, -⟩ := hv
  have hx := B.exec
  have hb := B.bytes
  have hr := B.returns
  have hts := atoms_spec (ws := wsJ9_floorDiv_f86c9) B.pre
  have hown : ss.vm.findClass RJ9 = some mm.cls := findClass_of_methodNamed B.named
  have hlocks := B.notSynchronized
  have hl := lv_entry [.long (x), .long (y)] (n := 6) (Nat.le_of_ble_eq_true rfl)
  rw [lg_entry_eq]
  generalize (lg_sl [.long (x), .long (y)] ++ List.replicate (6 - (lg_sl [.long (x), .long (y)]).length) Slot.unset).toArray = ls at hl ⊢
  have hl : lv_has ls 6 [(0, .long (x)), (2, .long (y))] := hl
  refine lv_lload_n hx hb dJ9_floorDiv_f86c9_0 rfl (lv_at hl 0 rfl) ?_
  refine lv_lload_n hx hb dJ9_floorDiv_f86c9_1 rfl (lv_at hl 1 rfl) ?_
  refine lv_ldiv hx hb dJ9_floorDiv_f86c9_2 hy ?_
  refine lv_lstore (lv' := [(4, .long ((x) / (y))), (0, .long (x)), (2, .long (y))]) hx hb dJ9_floorDiv_f86c9_3 hl (by decide) rfl (fun ls hl => ?_)
  refine lv_lload_n hx hb dJ9_floorDiv_f86c9_5 rfl (lv_at hl 1 rfl) ?_
  refine lv_lload_n hx hb dJ9_floorDiv_f86c9_6 rfl (lv_at hl 2 rfl) ?_
  refine lv_lxor hx hb dJ9_floorDiv_f86c9_7 ?_
  refine lv_lconst (v := 0) hx hb dJ9_floorDiv_f86c9_8 (by decide) ?_
  refine W.lcmp hx hb dJ9_floorDiv_f86c9_9 ?_
  refine lv_if_ge (tgt := 27) hx hb dJ9_floorDiv_f86c9_10 (by decide) (fun c_1 => ?_) (fun c_1 => ?_)
  · have n_1 : 0 ≤ (x) ^^^ (y) := (lg_cmp_ge _ _).mp c_1
    refine lv_lload hx hb dJ9_floorDiv_f86c9_27 (lv_at hl 0 rfl) ?_
    exact W.lret hx hb hr (fun t ht _ => ⟨_, rfl, (by simp only [fdL, n_1, ↓reduceIte]), ht⟩) (fun _ h => nomatch h) dJ9_floorDiv_f86c9_29
  · have n_1 : ¬ (0 ≤ (x) ^^^ (y)) := fun h => c_1 ((lg_cmp_ge _ _).mpr h)
    refine lv_lload hx hb dJ9_floorDiv_f86c9_13 (lv_at hl 0 rfl) ?_
    refine lv_lload_n hx hb dJ9_floorDiv_f86c9_15 rfl (lv_at hl 2 rfl) ?_
    refine lv_lmul hx hb dJ9_floorDiv_f86c9_16 ?_
    refine lv_lload_n hx hb dJ9_floorDiv_f86c9_17 rfl (lv_at hl 1 rfl) ?_
    refine W.lcmp hx hb dJ9_floorDiv_f86c9_18 ?_
    refine lv_if_eq (tgt := 27) hx hb dJ9_floorDiv_f86c9_19 (by decide) (fun c_2 => ?_) (fun c_2 => ?_)
    · have n_2 : ((x) / (y)) * (y) = x := (lg_cmp_eq _ _).mp c_2
      refine lv_lload hx hb dJ9_floorDiv_f86c9_27 (lv_at hl 0 rfl) ?_
      exact W.lret hx hb hr (fun t ht _ => ⟨_, rfl, (by simp only [fdL, n_1, n_2, ↓reduceIte]), ht⟩) (fun _ h => nomatch h) dJ9_floorDiv_f86c9_29
    · have n_2 : ¬ (((x) / (y)) * (y) = x) := fun h => c_2 ((lg_cmp_eq _ _).mpr h)
      refine lv_lload hx hb dJ9_floorDiv_f86c9_22 (lv_at hl 0 rfl) ?_
      refine lv_lconst (v := 1) hx hb dJ9_floorDiv_f86c9_24 (by decide) ?_
      refine lv_lsub hx hb dJ9_floorDiv_f86c9_25 ?_
      exact W.lret hx hb hr (fun t ht _ => ⟨_, rfl, (by simp only [fdL, n_1, n_2, ↓reduceIte]), ht⟩) (fun _ h => nomatch h) dJ9_floorDiv_f86c9_26

abbrev rmX2_scale : Room := ({ frames := 1, cells := 0, slots := 0, locals := 25 } : Room)
set_option maxHeartbeats 4000000 in
set_option maxRecDepth 100000 in
theorem c_X2_scale (ll : Launch) (x : Int32) (b w : Int64)  : Met ll yX2_scale wsX2_scale rmX2_scale (va_Pc [.int (x), .long (b), .long (w)] (fun _ => True)) (vp_Si (fun rr => rr = scl x b w)) 0 0 (fun _ => False) := by
  refine Met.ofW (cc := cX2_scale) (maxL := 5) (ret := (some .int)) (by decide) rfl ?_
  intro pp ee ss mm ar bel mth cd s₁ B hml hv
  obtain ⟨rfl, -⟩ := hv
  have hx := B.exec
  have hb := B.bytes
  have hr := B.returns
  have hts := atoms_spec (ws := wsX2_scale) B.pre
  have hown : ss.vm.findClass RX2 = some mm.cls := findClass_of_methodNamed B.named
  have hlocks := B.notSynchronized
  have hl := lv_entry [.int (x), .long (b), .long (w)] (n := 5) (Nat.le_of_ble_eq_true rfl)
  rw [lg_entry_eq]
  generalize (lg_sl [.int (x), .long (b), .long (w)] ++ List.replicate (5 - (lg_sl [.int (x), .long (b), .long (w)]).length) Slot.unset).toArray = ls at hl ⊢
  have hl : lv_has ls 5 [(0, .int (x)), (1, .long (b)), (3, .long (w))] := hl
  refine lv_lload_n hx hb dX2_scale_0 rfl (lv_at hl 2 rfl) ?_
  refine lv_lconst (v := 0) hx hb dX2_scale_1 (by decide) ?_
  refine W.lcmp hx hb dX2_scale_2 ?_
  refine lv_if_le (tgt := 18) hx hb dX2_scale_3 (by decide) (fun c_1 => ?_) (fun c_1 => ?_)
  · have n_1 : w ≤ 0 := (lg_cmp_le _ _).mp c_1
    refine lv_iconst (v := 0) hx hb dX2_scale_18 (by decide) ?_
    exact W.iret hx hb hr (fun t ht _ => ⟨_, rfl, (by simp only [scl, n_1, ↓reduceIte]), ht⟩) (fun _ h => nomatch h) dX2_scale_19
  · have n_1 : ¬ (w ≤ 0) := fun h => c_1 ((lg_cmp_le _ _).mpr h)
    refine lv_iload_n hx hb dX2_scale_6 rfl (lv_at hl 0 rfl) ?_
    refine lv_i2l (v := (x).toInt64) hx hb dX2_scale_7 rfl ?_
    refine lv_lload_n hx hb dX2_scale_8 rfl (lv_at hl 1 rfl) ?_
    refine lv_lmul hx hb dX2_scale_9 ?_
    refine lv_lload_n hx hb dX2_scale_10 rfl (lv_at hl 2 rfl) ?_
    refine b_csl (v := fdL (((x).toInt64) * (b)) w) (W.runS (As := [.long (((x).toInt64) * (b)), .long (w)]) (rest := []) ⟨hx, hb, hml, hown, hts⟩ (c_J9_floorDiv_f86c9 ll (((x).toInt64) * (b)) w (ne_of_nle n_1)) (va_cwS 2 hts gX2_scale_J9_floorDiv_f86c9 rfl rfl rfl (by decide +kernel) ⟨Nat.le_of_ble_eq_true rfl, Nat.le_of_ble_eq_true rfl⟩) ⟨PT.blind, PT.to⟩ rfl rfl hl.1 rfl (lv_room (Nat.le_of_ble_eq_true rfl)) dX2_scale_11 ⟨Nat.le_of_ble_eq_true rfl, Nat.le_of_ble_eq_true rfl⟩) ?_
    refine lv_l2i (v := (fdL (((x).toInt64) * (b)) w).toInt32) hx hb dX2_scale_14 rfl ?_
    refine lv_goto (tgt := 19) hx hb dX2_scale_15 (by decide) ?_
    exact W.iret hx hb hr (fun t ht _ => ⟨_, rfl, (by simp only [scl, n_1, ↓reduceIte]), ht⟩) (fun _ h => nomatch h) dX2_scale_19

abbrev rmX1_translate : Room := ({ frames := 1, cells := 0, slots := 0, locals := 22 } : Room)
set_option maxHeartbeats 4000000 in
set_option maxRecDepth 100000 in
theorem c_X1_translate (ll : Launch) (x y : Int32)  : Met ll yX1_translate wsX1_translate rmX1_translate (va_Pc [.int (x), .int (y)] (fun _ => True)) (vp_Si (fun rr => rr = tr x y)) 0 0 (fun _ => False) := by
  refine Met.ofW (cc := cX1_translate) (maxL := 2) (ret := (some .int)) (by decide) rfl ?_
  intro pp ee ss mm ar bel mth cd s₁ B hml hv
  obtain ⟨rfl, -⟩ := hv
  have hx := B.exec
  have hb := B.bytes
  have hr := B.returns
  have hts := atoms_spec (ws := wsX1_translate) B.pre
  have hown : ss.vm.findClass RX1 = some mm.cls := findClass_of_methodNamed B.named
  have hlocks := B.notSynchronized
  have hl := lv_entry [.int (x), .int (y)] (n := 2) (Nat.le_of_ble_eq_true rfl)
  rw [lg_entry_eq]
  generalize (lg_sl [.int (x), .int (y)] ++ List.replicate (2 - (lg_sl [.int (x), .int (y)]).length) Slot.unset).toArray = ls at hl ⊢
  have hl : lv_has ls 2 [(0, .int (x)), (1, .int (y))] := hl
  refine lv_iload_n hx hb dX1_translate_0 rfl (lv_at hl 0 rfl) ?_
  refine lv_iload_n hx hb dX1_translate_1 rfl (lv_at hl 1 rfl) ?_
  refine lv_imul hx hb dX1_translate_2 ?_
  refine lv_bipush (v := 100) hx hb dX1_translate_3 (by decide) ?_
  refine b_csi (v := fdI ((x) * (y)) 100) (W.runS (As := [.int ((x) * (y)), .int (100)]) (rest := []) ⟨hx, hb, hml, hown, hts⟩ (c_J9_floorDiv_7cf53 ll ((x) * (y)) 100 (by decide)) (va_cwS 2 hts gX1_translate_J9_floorDiv_7cf53 rfl rfl rfl (by decide +kernel) ⟨Nat.le_of_ble_eq_true rfl, Nat.le_of_ble_eq_true rfl⟩) ⟨PT.blind, PT.to⟩ rfl rfl hl.1 rfl (lv_room (Nat.le_of_ble_eq_true rfl)) dX1_translate_5 ⟨Nat.le_of_ble_eq_true rfl, Nat.le_of_ble_eq_true rfl⟩) ?_
  exact W.iret hx hb hr (fun t ht _ => ⟨_, rfl, rfl, ht⟩) (fun _ h => nomatch h) dX1_translate_8
end
section
theorem or_n (a b : Nat) : nI a ||| nI b = nI (a ||| b) := by
  apply Int32.toBitVec_inj.mp
  rw [Int32.toBitVec_or]
  show BitVec.ofNat 32 a ||| BitVec.ofNat 32 b = BitVec.ofNat 32 (a ||| b)
  apply BitVec.eq_of_getLsbD_eq
  intro i hi
  simp [Nat.testBit_or, hi]
theorem sh_1 (c : Nat) (hc : c < 31) : (1 : Int32) <<< (nI c &&& 31) = nI (2 ^ c) := by
  have h := pk_shlN (n := 1) (nI c &&& 31) c (s_lc c (Nat.lt_trans hc (by decide))) (by
    rw [Nat.one_mul]
    exact Nat.lt_trans (Nat.pow_lt_pow_right (by decide) hc) (by decide))
  rw [Nat.one_mul] at h
  exact h
def hA (p : Nat → Int32) (M c : Nat) : Nat → Int32 | 0 => 0 | k + 1 => if mB M k = true then hA p M c k + p (6 * k + c) else hA p M c k
def wc (p : Nat → Int32) (M : Nat) : Nat → Nat | 0 => M | k + 1 => if hA p M (k + 1) 6 ≤ 50 then wc p M k else wc p M k ||| 2 ^ (k + 1)
def mem (p : Nat → Int32) : Nat → Nat | 0 => 1 | j + 1 => wc p (mem p j) 5
theorem wc_lt (p : Nat → Int32) {M : Nat} (hM : M < 64) : ∀ k, k ≤ 5 → wc p M k < 64
  | 0, _ => hM
  | k + 1, h => by
    have ih := wc_lt p hM k (by omega)
    rw [wc]
    split
    · exact ih
    · exact Nat.or_lt_two_pow (n := 6) ih (Nat.pow_lt_pow_right (by decide) (by omega))
theorem mem_lt (p : Nat → Int32) : ∀ j, mem p j < 64
  | 0 => (by decide : 1 < 64)
  | j + 1 => wc_lt p (mem_lt p j) 5 (Nat.le_refl 5)
theorem lt31 {M : Nat} (h : M < 64) : M < 2 ^ 31 := Nat.lt_trans h (by decide)
def agI (cl ad : Nat → Int32) (M i : Nat) (s : Int32) : Nat → Int32
  | 0 => s
  | j + 1 => if mB M i = true then (if mB M j = true then agI cl ad M i s j + (if ad (6 * i + j) < cl (6 * i + j) then ad (6 * i + j) else cl (6 * i + j)) else agI cl ad M i s j) else agI cl ad M i s j
def agO (cl ad : Nat → Int32) (M : Nat) : Nat → Int32 | 0 => 0 | i + 1 => agI cl ad M i (agO cl ad M i) 6
def cP (oP : Nat → Int32) : Nat → Nat → Int32 | 0 => oP | k + 1 => upd (cP oP k) k 0
def cE (oE oP : Nat → Int32) : Nat → Nat → Int32 | 0 => oE | k + 1 => upd (cE oE oP k) k (cE oE oP k k + cP oP k k)
end
section
abbrev rmX2_percentOf : Room := ({ frames := 1, cells := 0, slots := 0, locals := 21 } : Room)
set_option maxHeartbeats 4000000 in
set_option maxRecDepth 100000 in
theorem c_X2_percentOf (ll : Launch) (D : va_G) (a : Nat → Nat) (cI cJ : ClassId) (p : Nat → Int32) (nu de eq : Nat → Int64) (am nx oA oD oE oP cR aR hR cl ad gw pr : Nat → Int32) (n : Int32) (o c : Nat) (ho : o < 6) (hc : c < 6) : Met ll yX2_percentOf wsX2_percentOf rmX2_percentOf (va_Pc [.ref (a 1), .int (nI (o)), .int (nI (c))] (PR D (tyG cI cJ) (GW a cI cJ p nu de eq am nx oA oD oE oP cR aR hR cl ad gw pr n))) (vp_Si (fun rr => rr = p (6 * o + c))) 0 0 (fun _ => False) := by
  refine Met.ofW (cc := cX2_percentOf) (maxL := 3) (ret := (some .int)) (by decide) rfl ?_
  intro pp ee ss mm ar bel mth cd s₁ B hml hv
  obtain ⟨rfl, hP, hK, hE⟩ := hv
  have hx := B.exec
  have hb := B.bytes
  have hr := B.returns
  have hts := atoms_spec (ws := wsX2_percentOf) B.pre
  have hown : ss.vm.findClass RX2 = some mm.cls := findClass_of_methodNamed B.named
  have hlocks := B.notSynchronized
  have hin : ∀ w ∈ wsX20, w.before ([.ref (a 1), .int (nI (o)), .int (nI (c))] : List Value).toArray ss = true := fun w h => hts w ((by decide +kernel : ∀ w ∈ wsX20, w ∈ wsX2_percentOf) w h)
  have hl := lv_entry [.ref (a 1), .int (nI (o)), .int (nI (c))] (n := 3) (Nat.le_of_ble_eq_true rfl)
  rw [lg_entry_eq]
  generalize (lg_sl [.ref (a 1), .int (nI (o)), .int (nI (c))] ++ List.replicate (3 - (lg_sl [.ref (a 1), .int (nI (o)), .int (nI (c))]).length) Slot.unset).toArray = ls at hl ⊢
  have hl : lv_has ls 3 [(0, .ref (a 1)), (1, .int (nI (o))), (2, .int (nI (c)))] := hl
  refine lv_aload_n hx hb dX2_percentOf_0 rfl (lv_at hl 0 rfl) ?_
  refine va_get (D := D) (ci := 2) (v := .ref (a 6)) (C := RX2) (T := TX2) (N := 6) (Ts := wsX20) hx hb hin (fun _ h9 => h9) hown hK hP 1 rfl rfl 0 (by decide) (hts (.fieldLink RX2 9 "Groupbooks$Holdings" "percents" "[I") (by decide +kernel)) (fun _ h9 => h9) rfl dX2_percentOf_1 ?_
  refine lv_iload_n hx hb dX2_percentOf_4 rfl (lv_at hl 1 rfl) ?_
  refine lv_iload_n hx hb dX2_percentOf_5 rfl (lv_at hl 2 rfl) ?_
  refine b_csi (v := nI (6 * o + c)) ((va_runSN (As := [.int (nI (o)), .int (nI (c))]) (rest := [.ref (a 6)]) ⟨hx, hb, hml, hown, hts⟩ (c_X3_pair ll o c ) ⟨va_cnB 2 hts gX2_percentOf_X3_pair_n31 rfl rfl rfl (hE.nest 5 rfl) (hts (.initialized RX3) (by decide +kernel)) (by decide +kernel) ⟨Nat.le_of_ble_eq_true rfl, Nat.le_of_ble_eq_true rfl⟩, hts (.static yX3_pair) (by decide +kernel), trivial⟩ ⟨PT.blind, PT.to⟩ rfl rfl hl.1 rfl (lv_room (Nat.le_of_ble_eq_true rfl)) dX2_percentOf_6 ⟨Nat.le_of_ble_eq_true rfl, Nat.le_of_ble_eq_true rfl⟩).run) ?_
  refine b_iald hx hb hK hP 6 0 (f := p) rfl rfl (j := 6 * o + c) (by omega) (by decide) dX2_percentOf_9 ?_
  exact W.iret hx hb hr (fun t ht _ => ⟨_, rfl, rfl, ht⟩) (fun _ h => nomatch h) dX2_percentOf_10

abbrev rmX2_numeratorOf : Room := ({ frames := 0, cells := 0, slots := 0, locals := 0 } : Room)
set_option maxHeartbeats 4000000 in
set_option maxRecDepth 100000 in
theorem c_X2_numeratorOf (ll : Launch) (D : va_G) (a : Nat → Nat) (cI cJ : ClassId) (p : Nat → Int32) (nu de eq : Nat → Int64) (am nx oA oD oE oP cR aR hR cl ad gw pr : Nat → Int32) (n : Int32) (c : Nat) (hc : c < 6) : Met ll yX2_numeratorOf wsX2_numeratorOf rmX2_numeratorOf (va_Pc [.ref (a 1), .int (nI (c))] (PR D (tyG cI cJ) (GW a cI cJ p nu de eq am nx oA oD oE oP cR aR hR cl ad gw pr n))) (vp_Sl (fun rr => rr = nu (c))) 0 0 (fun _ => False) := by
  refine Met.ofW (cc := cX2_numeratorOf) (maxL := 2) (ret := (some .long)) (by decide) rfl ?_
  intro pp ee ss mm ar bel mth cd s₁ B hml hv
  obtain ⟨rfl, hP, hK, hE⟩ := hv
  have hx := B.exec
  have hb := B.bytes
  have hr := B.returns
  have hts := atoms_spec (ws := wsX2_numeratorOf) B.pre
  have hown : ss.vm.findClass RX2 = some mm.cls := findClass_of_methodNamed B.named
  have hlocks := B.notSynchronized
  have hin : ∀ w ∈ wsX20, w.before ([.ref (a 1), .int (nI (c))] : List Value).toArray ss = true := fun w h => hts w ((by decide +kernel : ∀ w ∈ wsX20, w ∈ wsX2_numeratorOf) w h)
  have hl := lv_entry [.ref (a 1), .int (nI (c))] (n := 2) (Nat.le_of_ble_eq_true rfl)
  rw [lg_entry_eq]
  generalize (lg_sl [.ref (a 1), .int (nI (c))] ++ List.replicate (2 - (lg_sl [.ref (a 1), .int (nI (c))]).length) Slot.unset).toArray = ls at hl ⊢
  have hl : lv_has ls 2 [(0, .ref (a 1)), (1, .int (nI (c)))] := hl
  refine lv_aload_n hx hb dX2_numeratorOf_0 rfl (lv_at hl 0 rfl) ?_
  refine va_get (D := D) (ci := 2) (v := .ref (a 7)) (C := RX2) (T := TX2) (N := 6) (Ts := wsX20) hx hb hin (fun _ h9 => h9) hown hK hP 1 rfl rfl 1 (by decide) (hts (.fieldLink RX2 15 "Groupbooks$Holdings" "numerators" "[J") (by decide +kernel)) (fun _ h9 => h9) rfl dX2_numeratorOf_1 ?_
  refine lv_iload_n hx hb dX2_numeratorOf_4 rfl (lv_at hl 1 rfl) ?_
  refine b_lald hx hb hK hP 7 1 (f := nu) rfl rfl (j := c) (by omega) (by decide) dX2_numeratorOf_5 ?_
  exact W.lret hx hb hr (fun t ht _ => ⟨_, rfl, rfl, ht⟩) (fun _ h => nomatch h) dX2_numeratorOf_6

abbrev rmX2_denominatorOf : Room := ({ frames := 0, cells := 0, slots := 0, locals := 0 } : Room)
set_option maxHeartbeats 4000000 in
set_option maxRecDepth 100000 in
theorem c_X2_denominatorOf (ll : Launch) (D : va_G) (a : Nat → Nat) (cI cJ : ClassId) (p : Nat → Int32) (nu de eq : Nat → Int64) (am nx oA oD oE oP cR aR hR cl ad gw pr : Nat → Int32) (n : Int32) (c : Nat) (hc : c < 6) : Met ll yX2_denominatorOf wsX2_denominatorOf rmX2_denominatorOf (va_Pc [.ref (a 1), .int (nI (c))] (PR D (tyG cI cJ) (GW a cI cJ p nu de eq am nx oA oD oE oP cR aR hR cl ad gw pr n))) (vp_Sl (fun rr => rr = de (c))) 0 0 (fun _ => False) := by
  refine Met.ofW (cc := cX2_denominatorOf) (maxL := 2) (ret := (some .long)) (by decide) rfl ?_
  intro pp ee ss mm ar bel mth cd s₁ B hml hv
  obtain ⟨rfl, hP, hK, hE⟩ := hv
  have hx := B.exec
  have hb := B.bytes
  have hr := B.returns
  have hts := atoms_spec (ws := wsX2_denominatorOf) B.pre
  have hown : ss.vm.findClass RX2 = some mm.cls := findClass_of_methodNamed B.named
  have hlocks := B.notSynchronized
  have hin : ∀ w ∈ wsX20, w.before ([.ref (a 1), .int (nI (c))] : List Value).toArray ss = true := fun w h => hts w ((by decide +kernel : ∀ w ∈ wsX20, w ∈ wsX2_denominatorOf) w h)
  have hl := lv_entry [.ref (a 1), .int (nI (c))] (n := 2) (Nat.le_of_ble_eq_true rfl)
  rw [lg_entry_eq]
  generalize (lg_sl [.ref (a 1), .int (nI (c))] ++ List.replicate (2 - (lg_sl [.ref (a 1), .int (nI (c))]).length) Slot.unset).toArray = ls at hl ⊢
  have hl : lv_has ls 2 [(0, .ref (a 1)), (1, .int (nI (c)))] := hl
  refine lv_aload_n hx hb dX2_denominatorOf_0 rfl (lv_at hl 0 rfl) ?_
  refine va_get (D := D) (ci := 2) (v := .ref (a 8)) (C := RX2) (T := TX2) (N := 6) (Ts := wsX20) hx hb hin (fun _ h9 => h9) hown hK hP 1 rfl rfl 2 (by decide) (hts (.fieldLink RX2 19 "Groupbooks$Holdings" "denominators" "[J") (by decide +kernel)) (fun _ h9 => h9) rfl dX2_denominatorOf_1 ?_
  refine lv_iload_n hx hb dX2_denominatorOf_4 rfl (lv_at hl 1 rfl) ?_
  refine b_lald hx hb hK hP 8 1 (f := de) rfl rfl (j := c) (by omega) (by decide) dX2_denominatorOf_5 ?_
  exact W.lret hx hb hr (fun t ht _ => ⟨_, rfl, rfl, ht⟩) (fun _ h => nomatch h) dX2_denominatorOf_6

abbrev rmX2_partOfParent : Room := ({ frames := 2, cells := 0, slots := 0, locals := 49 } : Room)
set_option maxHeartbeats 4000000 in
set_option maxRecDepth 100000 in
theorem c_X2_partOfParent (ll : Launch) (D : va_G) (a : Nat → Nat) (cI cJ : ClassId) (p : Nat → Int32) (nu de eq : Nat → Int64) (am nx oA oD oE oP cR aR hR cl ad gw pr : Nat → Int32) (n : Int32) (c : Nat) (x : Int32) (hc : c < 6) : Met ll yX2_partOfParent wsX2_partOfParent rmX2_partOfParent (va_Pc [.ref (a 1), .int (nI (c)), .int (x)] (PR D (tyG cI cJ) (GW a cI cJ p nu de eq am nx oA oD oE oP cR aR hR cl ad gw pr n))) (vp_Si (fun rr => rr = scl x (nu c) (de c))) 0 0 (fun _ => False) := by
  refine Met.ofW (cc := cX2_partOfParent) (maxL := 3) (ret := (some .int)) (by decide) rfl ?_
  intro pp ee ss mm ar bel mth cd s₁ B hml hv
  obtain ⟨rfl, hP, hK, hE⟩ := hv
  have hx := B.exec
  have hb := B.bytes
  have hr := B.returns
  have hts := atoms_spec (ws := wsX2_partOfParent) B.pre
  have hown : ss.vm.findClass RX2 = some mm.cls := findClass_of_methodNamed B.named
  have hlocks := B.notSynchronized
  have hin : ∀ w ∈ wsX20, w.before ([.ref (a 1), .int (nI (c)), .int (x)] : List Value).toArray ss = true := fun w h => hts w ((by decide +kernel : ∀ w ∈ wsX20, w ∈ wsX2_partOfParent) w h)
  have hl := lv_entry [.ref (a 1), .int (nI (c)), .int (x)] (n := 3) (Nat.le_of_ble_eq_true rfl)
  rw [lg_entry_eq]
  generalize (lg_sl [.ref (a 1), .int (nI (c)), .int (x)] ++ List.replicate (3 - (lg_sl [.ref (a 1), .int (nI (c)), .int (x)]).length) Slot.unset).toArray = ls at hl ⊢
  have hl : lv_has ls 3 [(0, .ref (a 1)), (1, .int (nI (c))), (2, .int (x))] := hl
  refine lv_iload_n hx hb dX2_partOfParent_0 rfl (lv_at hl 2 rfl) ?_
  refine lv_aload_n hx hb dX2_partOfParent_1 rfl (lv_at hl 0 rfl) ?_
  refine va_get (D := D) (ci := 2) (v := .ref (a 7)) (C := RX2) (T := TX2) (N := 6) (Ts := wsX20) hx hb hin (fun _ h9 => h9) hown hK hP 1 rfl rfl 1 (by decide) (hts (.fieldLink RX2 15 "Groupbooks$Holdings" "numerators" "[J") (by decide +kernel)) (fun _ h9 => h9) rfl dX2_partOfParent_2 ?_
  refine lv_iload_n hx hb dX2_partOfParent_5 rfl (lv_at hl 1 rfl) ?_
  refine b_lald hx hb hK hP 7 1 (f := nu) rfl rfl (j := c) (by omega) (by decide) dX2_partOfParent_6 ?_
  refine lv_aload_n hx hb dX2_partOfParent_7 rfl (lv_at hl 0 rfl) ?_
  refine va_get (D := D) (ci := 2) (v := .ref (a 8)) (C := RX2) (T := TX2) (N := 6) (Ts := wsX20) hx hb hin (fun _ h9 => h9) hown hK hP 1 rfl rfl 2 (by decide) (hts (.fieldLink RX2 19 "Groupbooks$Holdings" "denominators" "[J") (by decide +kernel)) (fun _ h9 => h9) rfl dX2_partOfParent_8 ?_
  refine lv_iload_n hx hb dX2_partOfParent_11 rfl (lv_at hl 1 rfl) ?_
  refine b_lald hx hb hK hP 8 1 (f := de) rfl rfl (j := c) (by omega) (by decide) dX2_partOfParent_12 ?_
  refine b_csi (v := scl x (nu (c)) (de (c))) (W.runS (As := [.int (x), .long (nu (c)), .long (de (c))]) (rest := []) ⟨hx, hb, hml, hown, hts⟩ (c_X2_scale ll x (nu (c)) (de (c)) ) (va_cwS 3 hts gX2_partOfParent_X2_scale rfl rfl rfl (by decide +kernel) ⟨Nat.le_of_ble_eq_true rfl, Nat.le_of_ble_eq_true rfl⟩) ⟨PT.blind, PT.to⟩ rfl rfl hl.1 rfl (lv_room (Nat.le_of_ble_eq_true rfl)) dX2_partOfParent_13 ⟨Nat.le_of_ble_eq_true rfl, Nat.le_of_ble_eq_true rfl⟩) ?_
  exact W.iret hx hb hr (fun t ht _ => ⟨_, rfl, rfl, ht⟩) (fun _ h => nomatch h) dX2_partOfParent_16

abbrev rmX2_partOfOthers : Room := ({ frames := 2, cells := 0, slots := 0, locals := 49 } : Room)
set_option maxHeartbeats 4000000 in
set_option maxRecDepth 100000 in
theorem c_X2_partOfOthers (ll : Launch) (D : va_G) (a : Nat → Nat) (cI cJ : ClassId) (p : Nat → Int32) (nu de eq : Nat → Int64) (am nx oA oD oE oP cR aR hR cl ad gw pr : Nat → Int32) (n : Int32) (c : Nat) (x : Int32) (hc : c < 6) : Met ll yX2_partOfOthers wsX2_partOfOthers rmX2_partOfOthers (va_Pc [.ref (a 1), .int (nI (c)), .int (x)] (PR D (tyG cI cJ) (GW a cI cJ p nu de eq am nx oA oD oE oP cR aR hR cl ad gw pr n))) (vp_Si (fun rr => rr = scl x (de c - nu c) (de c))) 0 0 (fun _ => False) := by
  refine Met.ofW (cc := cX2_partOfOthers) (maxL := 5) (ret := (some .int)) (by decide) rfl ?_
  intro pp ee ss mm ar bel mth cd s₁ B hml hv
  obtain ⟨rfl, hP, hK, hE⟩ := hv
  have hx := B.exec
  have hb := B.bytes
  have hr := B.returns
  have hts := atoms_spec (ws := wsX2_partOfOthers) B.pre
  have hown : ss.vm.findClass RX2 = some mm.cls := findClass_of_methodNamed B.named
  have hlocks := B.notSynchronized
  have hin : ∀ w ∈ wsX20, w.before ([.ref (a 1), .int (nI (c)), .int (x)] : List Value).toArray ss = true := fun w h => hts w ((by decide +kernel : ∀ w ∈ wsX20, w ∈ wsX2_partOfOthers) w h)
  have hl := lv_entry [.ref (a 1), .int (nI (c)), .int (x)] (n := 5) (Nat.le_of_ble_eq_true rfl)
  rw [lg_entry_eq]
  generalize (lg_sl [.ref (a 1), .int (nI (c)), .int (x)] ++ List.replicate (5 - (lg_sl [.ref (a 1), .int (nI (c)), .int (x)]).length) Slot.unset).toArray = ls at hl ⊢
  have hl : lv_has ls 5 [(0, .ref (a 1)), (1, .int (nI (c))), (2, .int (x))] := hl
  refine lv_aload_n hx hb dX2_partOfOthers_0 rfl (lv_at hl 0 rfl) ?_
  refine va_get (D := D) (ci := 2) (v := .ref (a 8)) (C := RX2) (T := TX2) (N := 6) (Ts := wsX20) hx hb hin (fun _ h9 => h9) hown hK hP 1 rfl rfl 2 (by decide) (hts (.fieldLink RX2 19 "Groupbooks$Holdings" "denominators" "[J") (by decide +kernel)) (fun _ h9 => h9) rfl dX2_partOfOthers_1 ?_
  refine lv_iload_n hx hb dX2_partOfOthers_4 rfl (lv_at hl 1 rfl) ?_
  refine b_lald hx hb hK hP 8 1 (f := de) rfl rfl (j := c) (by omega) (by decide) dX2_partOfOthers_5 ?_
  refine lv_aload_n hx hb dX2_partOfOthers_6 rfl (lv_at hl 0 rfl) ?_
  refine va_get (D := D) (ci := 2) (v := .ref (a 7)) (C := RX2) (T := TX2) (N := 6) (Ts := wsX20) hx hb hin (fun _ h9 => h9) hown hK hP 1 rfl rfl 1 (by decide) (hts (.fieldLink RX2 15 "Groupbooks$Holdings" "numerators" "[J") (by decide +kernel)) (fun _ h9 => h9) rfl dX2_partOfOthers_7 ?_
  refine lv_iload_n hx hb dX2_partOfOthers_10 rfl (lv_at hl 1 rfl) ?_
  refine b_lald hx hb hK hP 7 1 (f := nu) rfl rfl (j := c) (by omega) (by decide) dX2_partOfOthers_11 ?_
  refine lv_lsub hx hb dX2_partOfOthers_12 ?_
  refine lv_lstore_n (lv' := [(3, .long ((de (c)) - (nu (c)))), (0, .ref (a 1)), (1, .int (nI (c))), (2, .int (x))]) hx hb dX2_partOfOthers_13 rfl hl (by decide) rfl (fun ls hl => ?_)
  refine lv_iload_n hx hb dX2_partOfOthers_14 rfl (lv_at hl 3 rfl) ?_
  refine lv_lload_n hx hb dX2_partOfOthers_15 rfl (lv_at hl 0 rfl) ?_
  refine lv_aload_n hx hb dX2_partOfOthers_16 rfl (lv_at hl 1 rfl) ?_
  refine va_get (D := D) (ci := 2) (v := .ref (a 8)) (C := RX2) (T := TX2) (N := 6) (Ts := wsX20) hx hb hin (fun _ h9 => h9) hown hK hP 1 rfl rfl 2 (by decide) (hts (.fieldLink RX2 19 "Groupbooks$Holdings" "denominators" "[J") (by decide +kernel)) (fun _ h9 => h9) rfl dX2_partOfOthers_17 ?_
  refine lv_iload_n hx hb dX2_partOfOthers_20 rfl (lv_at hl 2 rfl) ?_
  refine b_lald hx hb hK hP 8 1 (f := de) rfl rfl (j := c) (by omega) (by decide) dX2_partOfOthers_21 ?_
  refine b_csi (v := scl x ((de (c)) - (nu (c))) (de (c))) (W.runS (As := [.int (x), .long ((de (c)) - (nu (c))), .long (de (c))]) (rest := []) ⟨hx, hb, hml, hown, hts⟩ (c_X2_scale ll x ((de (c)) - (nu (c))) (de (c)) ) (va_cwS 3 hts gX2_partOfOthers_X2_scale rfl rfl rfl (by decide +kernel) ⟨Nat.le_of_ble_eq_true rfl, Nat.le_of_ble_eq_true rfl⟩) ⟨PT.blind, PT.to⟩ rfl rfl hl.1 rfl (lv_room (Nat.le_of_ble_eq_true rfl)) dX2_partOfOthers_22 ⟨Nat.le_of_ble_eq_true rfl, Nat.le_of_ble_eq_true rfl⟩) ?_
  exact W.iret hx hb hr (fun t ht _ => ⟨_, rfl, rfl, ht⟩) (fun _ h => nomatch h) dX2_partOfOthers_25

abbrev rmX2_heldAmong : Room := ({ frames := 1, cells := 0, slots := 0, locals := 21 } : Room)
set_option maxHeartbeats 4000000 in
set_option maxRecDepth 100000 in
theorem c_X2_heldAmong (ll : Launch) (D : va_G) (a : Nat → Nat) (cI cJ : ClassId) (p : Nat → Int32) (nu de eq : Nat → Int64) (am nx oA oD oE oP cR aR hR cl ad gw pr : Nat → Int32) (n : Int32) (M c : Nat) (hM : M < 2 ^ 31) (hc : c < 6) : Met ll yX2_heldAmong wsX2_heldAmong rmX2_heldAmong (va_Pc [.ref (a 1), .int (nI (M)), .int (nI (c))] (PR D (tyG cI cJ) (GW a cI cJ p nu de eq am nx oA oD oE oP cR aR hR cl ad gw pr n))) (vp_Si (fun rr => rr = hA p M c 6)) 0 0 (fun _ => False) := by
  refine Met.ofW (cc := cX2_heldAmong) (maxL := 5) (ret := (some .int)) (by decide) rfl ?_
  intro pp ee ss mm ar bel mth cd s₁ B hml hv
  obtain ⟨rfl, hP, hK, hE⟩ := hv
  have hx := B.exec
  have hb := B.bytes
  have hr := B.returns
  have hts := atoms_spec (ws := wsX2_heldAmong) B.pre
  have hown : ss.vm.findClass RX2 = some mm.cls := findClass_of_methodNamed B.named
  have hlocks := B.notSynchronized
  have hin : ∀ w ∈ wsX20, w.before ([.ref (a 1), .int (nI (M)), .int (nI (c))] : List Value).toArray ss = true := fun w h => hts w ((by decide +kernel : ∀ w ∈ wsX20, w ∈ wsX2_heldAmong) w h)
  have hl := lv_entry [.ref (a 1), .int (nI (M)), .int (nI (c))] (n := 5) (Nat.le_of_ble_eq_true rfl)
  rw [lg_entry_eq]
  generalize (lg_sl [.ref (a 1), .int (nI (M)), .int (nI (c))] ++ List.replicate (5 - (lg_sl [.ref (a 1), .int (nI (M)), .int (nI (c))]).length) Slot.unset).toArray = ls at hl ⊢
  have hl : lv_has ls 5 [(0, .ref (a 1)), (1, .int (nI (M))), (2, .int (nI (c)))] := hl
  generalize hZ : MQ bel _ _ ss _ _ _ = Z
  refine lv_iconst (v := 0) hx hb dX2_heldAmong_0 (by decide) ?_
  refine lv_istore_n (lv' := [(3, .int (0)), (0, .ref (a 1)), (1, .int (nI (M))), (2, .int (nI (c)))]) hx hb dX2_heldAmong_1 rfl hl (by decide) rfl (fun ls hl => ?_)
  refine lv_iconst (v := 0) hx hb dX2_heldAmong_2 (by decide) ?_
  refine lv_istore (lv' := [(4, .int (0)), (3, .int (0)), (0, .ref (a 1)), (1, .int (nI (M))), (2, .int (nI (c)))]) hx hb dX2_heldAmong_3 hl (by decide) rfl (fun ls hl => ?_)
  have L1 : ∀ (n1 k1 : Nat), k1 + n1 = 6 → ∀ (ls : Array Slot), lv_has ls 5 [(4, .int (nI (k1))), (3, .int (hA p M c (k1))), (0, .ref (a 1)), (1, .int (nI (M))), (2, .int (nI (c)))] → W pp ll ee rmX2_heldAmong ss mm (([.ref (a 1), .int (nI (M)), .int (nI (c))] : List Value).toArray) bel mth cd ss.heap [] 0 0 Z (F0 mm 5 ls []) := by
    intro n1
    induction n1 with
    | zero =>
      intro k1 hk1  ls hl
      have hk1b : k1 = 6 := by omega
      obtain rfl := hk1b
      refine lv_iload hx hb dX2_heldAmong_5 (lv_at hl 0 rfl) ?_
      refine lv_bipush (v := 6) hx hb dX2_heldAmong_7 (by decide) ?_
      refine lv_icmp_ge (tgt := 41) hx hb dX2_heldAmong_9 (by decide) (fun c_2 => ?_) (fun c_2 => ?_)
      · have n_2 : (6) ≤ (6) := (nI_leI (a := 6) (b := 6) (by omega) (by omega)).mp c_2
        refine lv_iload_n hx hb dX2_heldAmong_41 rfl (lv_at hl 1 rfl) ?_
        subst hZ; exact W.iret hx hb hr (fun t ht _ => ⟨_, rfl, (by first | rfl | assumption), ht⟩) (fun _ h => nomatch h) dX2_heldAmong_42
      · have n_2 : ¬ ((6) ≤ (6)) := fun h => c_2 ((nI_leI (a := 6) (b := 6) (by omega) (by omega)).mpr h)
        exfalso; omega
    | succ n1 ih1 =>
      intro k1 hk1  ls hl
      have hk1b : k1 < 6 := by omega
      refine lv_iload hx hb dX2_heldAmong_5 (lv_at hl 0 rfl) ?_
      refine lv_bipush (v := 6) hx hb dX2_heldAmong_7 (by decide) ?_
      refine lv_icmp_ge (tgt := 41) hx hb dX2_heldAmong_9 (by decide) (fun c_3 => ?_) (fun c_3 => ?_)
      · have n_3 : (6) ≤ (k1) := (nI_leI (a := 6) (b := k1) (by omega) (by omega)).mp c_3
        exfalso; omega
      · have n_3 : ¬ ((6) ≤ (k1)) := fun h => c_3 ((nI_leI (a := 6) (b := k1) (by omega) (by omega)).mpr h)
        refine lv_iload_n hx hb dX2_heldAmong_12 rfl (lv_at hl 3 rfl) ?_
        refine lv_iload hx hb dX2_heldAmong_13 (lv_at hl 0 rfl) ?_
        refine b_csi (v := bI (mB M k1)) ((va_runSN (As := [.int (nI (M)), .int (nI (k1))]) (rest := []) ⟨hx, hb, hml, hown, hts⟩ (c_X3_isMember ll M k1 (by omega) (by omega)) ⟨va_cnB 2 hts gX2_heldAmong_X3_isMember_n83 rfl rfl rfl (hE.nest 4 rfl) (hts (.initialized RX3) (by decide +kernel)) (by decide +kernel) ⟨Nat.le_of_ble_eq_true rfl, Nat.le_of_ble_eq_true rfl⟩, hts (.static yX3_isMember) (by decide +kernel), trivial⟩ ⟨PT.blind, PT.to⟩ rfl rfl hl.1 rfl (lv_room (Nat.le_of_ble_eq_true rfl)) dX2_heldAmong_15 ⟨Nat.le_of_ble_eq_true rfl, Nat.le_of_ble_eq_true rfl⟩).run) ?_
        refine lv_if_eq (tgt := 35) hx hb dX2_heldAmong_18 (by decide) (fun c_4 => ?_) (fun c_4 => ?_)
        · have n_4 : ¬ (mB M k1) = true := bI0 c_4
          refine lv_iinc (v := nI (k1 + 1)) (lv' := [(4, .int (nI (k1 + 1))), (3, .int (hA p M c (k1))), (0, .ref (a 1)), (1, .int (nI (M))), (2, .int (nI (c)))]) hx hb dX2_heldAmong_35 hl (k := 0) rfl (nI_1 (k1)) (by decide) rfl (fun ls hl => ?_)
          refine lv_goto (tgt := 5) hx hb dX2_heldAmong_38 (by decide) ?_
          have e_5 : hA p M c (k1 + 1) = hA p M c (k1) := by first | rfl | exact if_pos (by assumption) | exact if_neg (by assumption) | (simp only [n_3, n_4, Bool.false_eq_true, ↓reduceIte])
          exact ih1 (k1 + 1) (by omega) ls (by rw [e_5]; exact lv_sub hl [0, 1, 2, 3, 4] rfl)
        · have n_4 : (mB M k1) = true := bI1 c_4
          refine lv_iload_n hx hb dX2_heldAmong_21 rfl (lv_at hl 1 rfl) ?_
          refine lv_aload_n hx hb dX2_heldAmong_22 rfl (lv_at hl 2 rfl) ?_
          refine va_get (D := D) (ci := 2) (v := .ref (a 6)) (C := RX2) (T := TX2) (N := 6) (Ts := wsX20) hx hb hin (fun _ h9 => h9) hown hK hP 1 rfl rfl 0 (by decide) (hts (.fieldLink RX2 9 "Groupbooks$Holdings" "percents" "[I") (by decide +kernel)) (fun _ h9 => h9) rfl dX2_heldAmong_23 ?_
          refine lv_iload hx hb dX2_heldAmong_26 (lv_at hl 0 rfl) ?_
          refine lv_iload_n hx hb dX2_heldAmong_28 rfl (lv_at hl 4 rfl) ?_
          refine b_csi (v := nI (6 * k1 + c)) ((va_runSN (As := [.int (nI (k1)), .int (nI (c))]) (rest := [.ref (a 6), .int (hA p M c (k1))]) ⟨hx, hb, hml, hown, hts⟩ (c_X3_pair ll k1 c ) ⟨va_cnB 2 hts gX2_heldAmong_X3_pair_n31 rfl rfl rfl (hE.nest 5 rfl) (hts (.initialized RX3) (by decide +kernel)) (by decide +kernel) ⟨Nat.le_of_ble_eq_true rfl, Nat.le_of_ble_eq_true rfl⟩, hts (.static yX3_pair) (by decide +kernel), trivial⟩ ⟨PT.blind, PT.to⟩ rfl rfl hl.1 rfl (lv_room (Nat.le_of_ble_eq_true rfl)) dX2_heldAmong_29 ⟨Nat.le_of_ble_eq_true rfl, Nat.le_of_ble_eq_true rfl⟩).run) ?_
          refine b_iald hx hb hK hP 6 0 (f := p) rfl rfl (j := 6 * k1 + c) (by omega) (by decide) dX2_heldAmong_32 ?_
          refine lv_iadd hx hb dX2_heldAmong_33 ?_
          refine lv_istore_n (lv' := [(3, .int ((hA p M c (k1)) + (p (6 * k1 + c)))), (4, .int (nI (k1))), (0, .ref (a 1)), (1, .int (nI (M))), (2, .int (nI (c)))]) hx hb dX2_heldAmong_34 rfl hl (by decide) rfl (fun ls hl => ?_)
          refine lv_iinc (v := nI (k1 + 1)) (lv' := [(4, .int (nI (k1 + 1))), (3, .int ((hA p M c (k1)) + (p (6 * k1 + c)))), (0, .ref (a 1)), (1, .int (nI (M))), (2, .int (nI (c)))]) hx hb dX2_heldAmong_35 hl (k := 1) rfl (nI_1 (k1)) (by decide) rfl (fun ls hl => ?_)
          refine lv_goto (tgt := 5) hx hb dX2_heldAmong_38 (by decide) ?_
          have e_6 : hA p M c (k1 + 1) = (hA p M c (k1)) + (p (6 * k1 + c)) := by first | rfl | exact if_pos (by assumption) | exact if_neg (by assumption) | (simp only [n_3, n_4, Bool.false_eq_true, ↓reduceIte])
          exact ih1 (k1 + 1) (by omega) ls (by rw [e_6]; exact lv_sub hl [0, 1, 2, 3, 4] rfl)
  exact L1 (6) 0 (by omega) ls (lv_sub hl [0, 1, 2, 3, 4] rfl)

abbrev rmX2_withControlled : Room := ({ frames := 2, cells := 0, slots := 0, locals := 45 } : Room)
set_option maxHeartbeats 4000000 in
set_option maxRecDepth 100000 in
theorem c_X2_withControlled (ll : Launch) (D : va_G) (a : Nat → Nat) (cI cJ : ClassId) (p : Nat → Int32) (nu de eq : Nat → Int64) (am nx oA oD oE oP cR aR hR cl ad gw pr : Nat → Int32) (n : Int32) (M : Nat) (hM : M < 2 ^ 31) : Met ll yX2_withControlled wsX2_withControlled rmX2_withControlled (va_Pc [.ref (a 1), .int (nI (M))] (PR D (tyG cI cJ) (GW a cI cJ p nu de eq am nx oA oD oE oP cR aR hR cl ad gw pr n))) (vp_Si (fun rr => rr = nI (wc p M 5))) 0 0 (fun _ => False) := by
  refine Met.ofW (cc := cX2_withControlled) (maxL := 4) (ret := (some .int)) (by decide) rfl ?_
  intro pp ee ss mm ar bel mth cd s₁ B hml hv
  obtain ⟨rfl, hP, hK, hE⟩ := hv
  have hx := B.exec
  have hb := B.bytes
  have hr := B.returns
  have hts := atoms_spec (ws := wsX2_withControlled) B.pre
  have hown : ss.vm.findClass RX2 = some mm.cls := findClass_of_methodNamed B.named
  have hlocks := B.notSynchronized
  have hin : ∀ w ∈ wsX20, w.before ([.ref (a 1), .int (nI (M))] : List Value).toArray ss = true := fun w h => hts w ((by decide +kernel : ∀ w ∈ wsX20, w ∈ wsX2_withControlled) w h)
  have hl := lv_entry [.ref (a 1), .int (nI (M))] (n := 4) (Nat.le_of_ble_eq_true rfl)
  rw [lg_entry_eq]
  generalize (lg_sl [.ref (a 1), .int (nI (M))] ++ List.replicate (4 - (lg_sl [.ref (a 1), .int (nI (M))]).length) Slot.unset).toArray = ls at hl ⊢
  have hl : lv_has ls 4 [(0, .ref (a 1)), (1, .int (nI (M)))] := hl
  generalize hZ : MQ bel _ _ ss _ _ _ = Z
  refine lv_iload_n hx hb dX2_withControlled_0 rfl (lv_at hl 1 rfl) ?_
  refine lv_istore_n (lv' := [(2, .int (nI (M))), (0, .ref (a 1)), (1, .int (nI (M)))]) hx hb dX2_withControlled_1 rfl hl (by decide) rfl (fun ls hl => ?_)
  refine lv_iconst (v := 1) hx hb dX2_withControlled_2 (by decide) ?_
  refine lv_istore_n (lv' := [(3, .int (1)), (2, .int (nI (M))), (0, .ref (a 1)), (1, .int (nI (M)))]) hx hb dX2_withControlled_3 rfl hl (by decide) rfl (fun ls hl => ?_)
  have L1 : ∀ (n1 k1 : Nat), k1 + n1 = 5 → ∀ (ls : Array Slot), lv_has ls 4 [(3, .int (nI (k1 + 1))), (2, .int (nI (wc p M (k1)))), (0, .ref (a 1)), (1, .int (nI (M)))] → W pp ll ee rmX2_withControlled ss mm (([.ref (a 1), .int (nI (M))] : List Value).toArray) bel mth cd ss.heap [] 0 0 Z (F0 mm 4 ls []) := by
    intro n1
    induction n1 with
    | zero =>
      intro k1 hk1  ls hl
      have hk1b : k1 = 5 := by omega
      obtain rfl := hk1b
      refine lv_iload_n hx hb dX2_withControlled_4 rfl (lv_at hl 0 rfl) ?_
      refine lv_bipush (v := 6) hx hb dX2_withControlled_5 (by decide) ?_
      refine lv_icmp_ge (tgt := 33) hx hb dX2_withControlled_7 (by decide) (fun c_2 => ?_) (fun c_2 => ?_)
      · have n_2 : (6) ≤ (5 + 1) := (nI_leI (a := 6) (b := 5 + 1) (by omega) (by omega)).mp c_2
        refine lv_iload_n hx hb dX2_withControlled_33 rfl (lv_at hl 1 rfl) ?_
        subst hZ; exact W.iret hx hb hr (fun t ht _ => ⟨_, rfl, (by first | rfl | assumption), ht⟩) (fun _ h => nomatch h) dX2_withControlled_34
      · have n_2 : ¬ ((6) ≤ (5 + 1)) := fun h => c_2 ((nI_leI (a := 6) (b := 5 + 1) (by omega) (by omega)).mpr h)
        exfalso; omega
    | succ n1 ih1 =>
      intro k1 hk1  ls hl
      have hk1b : k1 < 5 := by omega
      refine lv_iload_n hx hb dX2_withControlled_4 rfl (lv_at hl 0 rfl) ?_
      refine lv_bipush (v := 6) hx hb dX2_withControlled_5 (by decide) ?_
      refine lv_icmp_ge (tgt := 33) hx hb dX2_withControlled_7 (by decide) (fun c_3 => ?_) (fun c_3 => ?_)
      · have n_3 : (6) ≤ (k1 + 1) := (nI_leI (a := 6) (b := k1 + 1) (by omega) (by omega)).mp c_3
        exfalso; omega
      · have n_3 : ¬ ((6) ≤ (k1 + 1)) := fun h => c_3 ((nI_leI (a := 6) (b := k1 + 1) (by omega) (by omega)).mpr h)
        refine lv_aload_n hx hb dX2_withControlled_10 rfl (lv_at hl 2 rfl) ?_
        refine lv_iload_n hx hb dX2_withControlled_11 rfl (lv_at hl 3 rfl) ?_
        refine lv_iload_n hx hb dX2_withControlled_12 rfl (lv_at hl 0 rfl) ?_
        refine b_csi (v := hA p M (k1 + 1) 6) (W.runV (As := [.int (nI (M)), .int (nI (k1 + 1))]) (rest := []) ⟨hx, hb, hml, hown, hts⟩ (c_X2_heldAmong ll D a cI cJ p nu de eq am nx oA oD oE oP cR aR hR cl ad gw pr n M (k1 + 1) (by omega) (by omega)) (cwV 2 hts gX2_withControlled_X2_heldAmong rfl rfl rfl (by decide +kernel) ⟨Nat.le_of_ble_eq_true rfl, Nat.le_of_ble_eq_true rfl⟩) ⟨PR.blind, va_recv hK hP (ci := 2) (q0 := 1) rfl rfl, PR.go hP hK hE⟩ rfl rfl hl.1 rfl (lv_room (Nat.le_of_ble_eq_true rfl)) dX2_withControlled_13 ⟨Nat.le_of_ble_eq_true rfl, Nat.le_of_ble_eq_true rfl⟩) ?_
        refine lv_bipush (v := 50) hx hb dX2_withControlled_16 (by decide) ?_
        refine lv_icmp_le (tgt := 27) hx hb dX2_withControlled_18 (by decide) (fun c_4 => ?_) (fun c_4 => ?_)
        · have n_4 := c_4
          refine lv_iinc (v := nI (k1 + 1 + 1)) (lv' := [(3, .int (nI (k1 + 1 + 1))), (2, .int (nI (wc p M (k1)))), (0, .ref (a 1)), (1, .int (nI (M)))]) hx hb dX2_withControlled_27 hl (k := 0) rfl (nI_1 (k1 + 1)) (by decide) rfl (fun ls hl => ?_)
          refine lv_goto (tgt := 4) hx hb dX2_withControlled_30 (by decide) ?_
          have e_5 : wc p M (k1 + 1) = wc p M (k1) := by first | rfl | exact if_pos (by assumption) | exact if_neg (by assumption) | (simp only [n_3, n_4, Bool.false_eq_true, ↓reduceIte])
          exact ih1 (k1 + 1) (by omega) ls (by rw [e_5]; exact lv_sub hl [0, 1, 2, 3] rfl)
        · have n_4 := c_4
          refine lv_iload_n hx hb dX2_withControlled_21 rfl (lv_at hl 1 rfl) ?_
          refine lv_iconst (v := 1) hx hb dX2_withControlled_22 (by decide) ?_
          refine lv_iload_n hx hb dX2_withControlled_23 rfl (lv_at hl 0 rfl) ?_
          refine lv_ishl hx hb dX2_withControlled_24 ?_
          refine b_ti (y := nI (2 ^ (k1 + 1))) (sh_1 (k1 + 1) (by omega)) ?_
          refine lv_ior hx hb dX2_withControlled_25 ?_
          refine b_ti (y := nI ((wc p M (k1)) ||| (2 ^ (k1 + 1)))) (or_n (wc p M (k1)) (2 ^ (k1 + 1))) ?_
          refine lv_istore_n (lv' := [(2, .int (nI ((wc p M (k1)) ||| (2 ^ (k1 + 1))))), (3, .int (nI (k1 + 1))), (0, .ref (a 1)), (1, .int (nI (M)))]) hx hb dX2_withControlled_26 rfl hl (by decide) rfl (fun ls hl => ?_)
          refine lv_iinc (v := nI (k1 + 1 + 1)) (lv' := [(3, .int (nI (k1 + 1 + 1))), (2, .int (nI ((wc p M (k1)) ||| (2 ^ (k1 + 1))))), (0, .ref (a 1)), (1, .int (nI (M)))]) hx hb dX2_withControlled_27 hl (k := 1) rfl (nI_1 (k1 + 1)) (by decide) rfl (fun ls hl => ?_)
          refine lv_goto (tgt := 4) hx hb dX2_withControlled_30 (by decide) ?_
          have e_6 : wc p M (k1 + 1) = (wc p M (k1)) ||| (2 ^ (k1 + 1)) := by first | rfl | exact if_pos (by assumption) | exact if_neg (by assumption) | (simp only [n_3, n_4, Bool.false_eq_true, ↓reduceIte])
          exact ih1 (k1 + 1) (by omega) ls (by rw [e_6]; exact lv_sub hl [0, 1, 2, 3] rfl)
  exact L1 (5) 0 (by omega) ls (lv_sub hl [0, 1, 2, 3] rfl)

abbrev rmX2_members : Room := ({ frames := 3, cells := 0, slots := 0, locals := 68 } : Room)
set_option maxHeartbeats 4000000 in
set_option maxRecDepth 100000 in
theorem c_X2_members (ll : Launch) (D : va_G) (a : Nat → Nat) (cI cJ : ClassId) (p : Nat → Int32) (nu de eq : Nat → Int64) (am nx oA oD oE oP cR aR hR cl ad gw pr : Nat → Int32) (n : Int32)   : Met ll yX2_members wsX2_members rmX2_members (va_Pc [.ref (a 1)] (PR D (tyG cI cJ) (GW a cI cJ p nu de eq am nx oA oD oE oP cR aR hR cl ad gw pr n))) (vp_Si (fun rr => rr = nI (mem p 5))) 0 0 (fun _ => False) := by
  refine Met.ofW (cc := cX2_members) (maxL := 3) (ret := (some .int)) (by decide) rfl ?_
  intro pp ee ss mm ar bel mth cd s₁ B hml hv
  obtain ⟨rfl, hP, hK, hE⟩ := hv
  have hx := B.exec
  have hb := B.bytes
  have hr := B.returns
  have hts := atoms_spec (ws := wsX2_members) B.pre
  have hown : ss.vm.findClass RX2 = some mm.cls := findClass_of_methodNamed B.named
  have hlocks := B.notSynchronized
  have hin : ∀ w ∈ wsX20, w.before ([.ref (a 1)] : List Value).toArray ss = true := fun w h => hts w ((by decide +kernel : ∀ w ∈ wsX20, w ∈ wsX2_members) w h)
  have hl := lv_entry [.ref (a 1)] (n := 3) (Nat.le_of_ble_eq_true rfl)
  rw [lg_entry_eq]
  generalize (lg_sl [.ref (a 1)] ++ List.replicate (3 - (lg_sl [.ref (a 1)]).length) Slot.unset).toArray = ls at hl ⊢
  have hl : lv_has ls 3 [(0, .ref (a 1))] := hl
  generalize hZ : MQ bel _ _ ss _ _ _ = Z
  refine lv_iconst (v := 1) hx hb dX2_members_0 (by decide) ?_
  refine lv_istore_n (lv' := [(1, .int (1)), (0, .ref (a 1))]) hx hb dX2_members_1 rfl hl (by decide) rfl (fun ls hl => ?_)
  refine lv_iconst (v := 1) hx hb dX2_members_2 (by decide) ?_
  refine lv_istore_n (lv' := [(2, .int (1)), (1, .int (1)), (0, .ref (a 1))]) hx hb dX2_members_3 rfl hl (by decide) rfl (fun ls hl => ?_)
  have L1 : ∀ (n1 k1 : Nat), k1 + n1 = 5 → ∀ (ls : Array Slot), lv_has ls 3 [(2, .int (nI (k1 + 1))), (1, .int (nI (mem p (k1)))), (0, .ref (a 1))] → W pp ll ee rmX2_members ss mm (([.ref (a 1)] : List Value).toArray) bel mth cd ss.heap [] 0 0 Z (F0 mm 4 ls []) := by
    intro n1
    induction n1 with
    | zero =>
      intro k1 hk1  ls hl
      have hk1b : k1 = 5 := by omega
      obtain rfl := hk1b
      refine lv_iload_n hx hb dX2_members_4 rfl (lv_at hl 0 rfl) ?_
      refine lv_bipush (v := 6) hx hb dX2_members_5 (by decide) ?_
      refine lv_icmp_ge (tgt := 22) hx hb dX2_members_7 (by decide) (fun c_2 => ?_) (fun c_2 => ?_)
      · have n_2 : (6) ≤ (5 + 1) := (nI_leI (a := 6) (b := 5 + 1) (by omega) (by omega)).mp c_2
        refine lv_iload_n hx hb dX2_members_22 rfl (lv_at hl 1 rfl) ?_
        subst hZ; exact W.iret hx hb hr (fun t ht _ => ⟨_, rfl, (by first | rfl | assumption), ht⟩) (fun _ h => nomatch h) dX2_members_23
      · have n_2 : ¬ ((6) ≤ (5 + 1)) := fun h => c_2 ((nI_leI (a := 6) (b := 5 + 1) (by omega) (by omega)).mpr h)
        exfalso; omega
    | succ n1 ih1 =>
      intro k1 hk1  ls hl
      have hk1b : k1 < 5 := by omega
      refine lv_iload_n hx hb dX2_members_4 rfl (lv_at hl 0 rfl) ?_
      refine lv_bipush (v := 6) hx hb dX2_members_5 (by decide) ?_
      refine lv_icmp_ge (tgt := 22) hx hb dX2_members_7 (by decide) (fun c_3 => ?_) (fun c_3 => ?_)
      · have n_3 : (6) ≤ (k1 + 1) := (nI_leI (a := 6) (b := k1 + 1) (by omega) (by omega)).mp c_3
        exfalso; omega
      · have n_3 : ¬ ((6) ≤ (k1 + 1)) := fun h => c_3 ((nI_leI (a := 6) (b := k1 + 1) (by omega) (by omega)).mpr h)
        refine lv_aload_n hx hb dX2_members_10 rfl (lv_at hl 2 rfl) ?_
        refine lv_iload_n hx hb dX2_members_11 rfl (lv_at hl 1 rfl) ?_
        refine b_csi (v := nI (wc p (mem p (k1)) 5)) (W.runV (As := [.int (nI (mem p (k1)))]) (rest := []) ⟨hx, hb, hml, hown, hts⟩ (c_X2_withControlled ll D a cI cJ p nu de eq am nx oA oD oE oP cR aR hR cl ad gw pr n (mem p (k1)) (lt31 (mem_lt _ _))) (cwV 1 hts gX2_members_X2_withControlled rfl rfl rfl (by decide +kernel) ⟨Nat.le_of_ble_eq_true rfl, Nat.le_of_ble_eq_true rfl⟩) ⟨PR.blind, va_recv hK hP (ci := 2) (q0 := 1) rfl rfl, PR.go hP hK hE⟩ rfl rfl hl.1 rfl (lv_room (Nat.le_of_ble_eq_true rfl)) dX2_members_12 ⟨Nat.le_of_ble_eq_true rfl, Nat.le_of_ble_eq_true rfl⟩) ?_
        refine lv_istore_n (lv' := [(1, .int (nI (wc p (mem p (k1)) 5))), (2, .int (nI (k1 + 1))), (0, .ref (a 1))]) hx hb dX2_members_15 rfl hl (by decide) rfl (fun ls hl => ?_)
        refine lv_iinc (v := nI (k1 + 1 + 1)) (lv' := [(2, .int (nI (k1 + 1 + 1))), (1, .int (nI (wc p (mem p (k1)) 5))), (0, .ref (a 1))]) hx hb dX2_members_16 hl (k := 1) rfl (nI_1 (k1 + 1)) (by decide) rfl (fun ls hl => ?_)
        refine lv_goto (tgt := 4) hx hb dX2_members_19 (by decide) ?_
        have e_4 : mem p (k1 + 1) = wc p (mem p (k1)) 5 := by first | rfl | exact if_pos (by assumption) | exact if_neg (by assumption) | (simp only [n_3, Bool.false_eq_true, ↓reduceIte])
        exact ih1 (k1 + 1) (by omega) ls (by rw [e_4]; exact lv_sub hl [0, 1, 2] rfl)
  exact L1 (5) 0 (by omega) ls (lv_sub hl [0, 1, 2] rfl)

abbrev rmX0_disputed : Room := ({ frames := 1, cells := 0, slots := 0, locals := 21 } : Room)
set_option maxHeartbeats 4000000 in
set_option maxRecDepth 100000 in
theorem c_X0_disputed (ll : Launch) (D : va_G) (a : Nat → Nat) (cI cJ : ClassId) (p : Nat → Int32) (nu de eq : Nat → Int64) (am nx oA oD oE oP cR aR hR cl ad gw pr : Nat → Int32) (n : Int32) (c d : Nat) (hc : c < 6) (hd : d < 6) : Met ll yX0_disputed wsX0_disputed rmX0_disputed (va_Pc [.ref (a 3), .int (nI (c)), .int (nI (d))] (PR D (tyG cI cJ) (GW a cI cJ p nu de eq am nx oA oD oE oP cR aR hR cl ad gw pr n))) (vp_Si (fun rr => rr = cl (6 * c + d) - ad (6 * c + d))) 0 0 (fun _ => False) := by
  refine Met.ofW (cc := cX0_disputed) (maxL := 4) (ret := (some .int)) (by decide) rfl ?_
  intro pp ee ss mm ar bel mth cd s₁ B hml hv
  obtain ⟨rfl, hP, hK, hE⟩ := hv
  have hx := B.exec
  have hb := B.bytes
  have hr := B.returns
  have hts := atoms_spec (ws := wsX0_disputed) B.pre
  have hown : ss.vm.findClass RX0 = some mm.cls := findClass_of_methodNamed B.named
  have hlocks := B.notSynchronized
  have hin : ∀ w ∈ wsX00, w.before ([.ref (a 3), .int (nI (c)), .int (nI (d))] : List Value).toArray ss = true := fun w h => hts w ((by decide +kernel : ∀ w ∈ wsX00, w ∈ wsX0_disputed) w h)
  have hl := lv_entry [.ref (a 3), .int (nI (c)), .int (nI (d))] (n := 4) (Nat.le_of_ble_eq_true rfl)
  rw [lg_entry_eq]
  generalize (lg_sl [.ref (a 3), .int (nI (c)), .int (nI (d))] ++ List.replicate (4 - (lg_sl [.ref (a 3), .int (nI (c)), .int (nI (d))]).length) Slot.unset).toArray = ls at hl ⊢
  have hl : lv_has ls 4 [(0, .ref (a 3)), (1, .int (nI (c))), (2, .int (nI (d)))] := hl
  refine lv_iload_n hx hb dX0_disputed_0 rfl (lv_at hl 1 rfl) ?_
  refine lv_iload_n hx hb dX0_disputed_1 rfl (lv_at hl 2 rfl) ?_
  refine b_csi (v := nI (6 * c + d)) ((va_runSN (As := [.int (nI (c)), .int (nI (d))]) (rest := []) ⟨hx, hb, hml, hown, hts⟩ (c_X3_pair ll c d ) ⟨va_cnB 2 hts gX0_disputed_X3_pair_n18 rfl rfl rfl (hE.nest 8 rfl) (hts (.initialized RX3) (by decide +kernel)) (by decide +kernel) ⟨Nat.le_of_ble_eq_true rfl, Nat.le_of_ble_eq_true rfl⟩, hts (.static yX3_pair) (by decide +kernel), trivial⟩ ⟨PT.blind, PT.to⟩ rfl rfl hl.1 rfl (lv_room (Nat.le_of_ble_eq_true rfl)) dX0_disputed_2 ⟨Nat.le_of_ble_eq_true rfl, Nat.le_of_ble_eq_true rfl⟩).run) ?_
  refine lv_istore_n (lv' := [(3, .int (nI (6 * c + d))), (0, .ref (a 3)), (1, .int (nI (c))), (2, .int (nI (d)))]) hx hb dX0_disputed_5 rfl hl (by decide) rfl (fun ls hl => ?_)
  refine lv_aload_n hx hb dX0_disputed_6 rfl (lv_at hl 1 rfl) ?_
  refine va_get (D := D) (ci := 0) (v := .ref (a 19)) (C := RX0) (T := TX0) (N := 2) (Ts := wsX00) hx hb hin (fun _ h9 => h9) hown hK hP 3 rfl rfl 0 (by decide) (hts (.fieldLink RX0 9 "Groupbooks$Balances" "claims" "[I") (by decide +kernel)) (fun _ h9 => h9) rfl dX0_disputed_7 ?_
  refine lv_iload_n hx hb dX0_disputed_10 rfl (lv_at hl 0 rfl) ?_
  refine b_iald hx hb hK hP 19 0 (f := cl) rfl rfl (j := 6 * c + d) (by omega) (by decide) dX0_disputed_11 ?_
  refine lv_aload_n hx hb dX0_disputed_12 rfl (lv_at hl 1 rfl) ?_
  refine va_get (D := D) (ci := 0) (v := .ref (a 20)) (C := RX0) (T := TX0) (N := 2) (Ts := wsX00) hx hb hin (fun _ h9 => h9) hown hK hP 3 rfl rfl 1 (by decide) (hts (.fieldLink RX0 15 "Groupbooks$Balances" "admissions" "[I") (by decide +kernel)) (fun _ h9 => h9) rfl dX0_disputed_13 ?_
  refine lv_iload_n hx hb dX0_disputed_16 rfl (lv_at hl 0 rfl) ?_
  refine b_iald hx hb hK hP 20 0 (f := ad) rfl rfl (j := 6 * c + d) (by omega) (by decide) dX0_disputed_17 ?_
  refine lv_isub hx hb dX0_disputed_18 ?_
  exact W.iret hx hb hr (fun t ht _ => ⟨_, rfl, rfl, ht⟩) (fun _ h => nomatch h) dX0_disputed_19

abbrev rmX0_agreedAmong : Room := ({ frames := 1, cells := 0, slots := 0, locals := 40 } : Room)
set_option maxHeartbeats 4000000 in
set_option maxRecDepth 100000 in
theorem c_X0_agreedAmong (ll : Launch) (D : va_G) (a : Nat → Nat) (cI cJ : ClassId) (p : Nat → Int32) (nu de eq : Nat → Int64) (am nx oA oD oE oP cR aR hR cl ad gw pr : Nat → Int32) (n : Int32) (M : Nat) (hM : M < 2 ^ 31) : Met ll yX0_agreedAmong wsX0_agreedAmong rmX0_agreedAmong (va_Pc [.ref (a 3), .int (nI (M))] (PR D (tyG cI cJ) (GW a cI cJ p nu de eq am nx oA oD oE oP cR aR hR cl ad gw pr n))) (vp_Si (fun rr => rr = agO cl ad M 6)) 0 0 (fun _ => False) := by
  refine Met.ofW (cc := cX0_agreedAmong) (maxL := 6) (ret := (some .int)) (by decide) rfl ?_
  intro pp ee ss mm ar bel mth cd s₁ B hml hv
  obtain ⟨rfl, hP, hK, hE⟩ := hv
  have hx := B.exec
  have hb := B.bytes
  have hr := B.returns
  have hts := atoms_spec (ws := wsX0_agreedAmong) B.pre
  have hown : ss.vm.findClass RX0 = some mm.cls := findClass_of_methodNamed B.named
  have hlocks := B.notSynchronized
  have hin : ∀ w ∈ wsX00, w.before ([.ref (a 3), .int (nI (M))] : List Value).toArray ss = true := fun w h => hts w ((by decide +kernel : ∀ w ∈ wsX00, w ∈ wsX0_agreedAmong) w h)
  have hl := lv_entry [.ref (a 3), .int (nI (M))] (n := 6) (Nat.le_of_ble_eq_true rfl)
  rw [lg_entry_eq]
  generalize (lg_sl [.ref (a 3), .int (nI (M))] ++ List.replicate (6 - (lg_sl [.ref (a 3), .int (nI (M))]).length) Slot.unset).toArray = ls at hl ⊢
  have hl : lv_has ls 6 [(0, .ref (a 3)), (1, .int (nI (M)))] := hl
  generalize hZ : MQ bel _ _ ss _ _ _ = Z
  refine lv_iconst (v := 0) hx hb dX0_agreedAmong_0 (by decide) ?_
  refine lv_istore_n (lv' := [(2, .int (0)), (0, .ref (a 3)), (1, .int (nI (M)))]) hx hb dX0_agreedAmong_1 rfl hl (by decide) rfl (fun ls hl => ?_)
  refine lv_iconst (v := 0) hx hb dX0_agreedAmong_2 (by decide) ?_
  refine lv_istore_n (lv' := [(3, .int (0)), (2, .int (0)), (0, .ref (a 3)), (1, .int (nI (M)))]) hx hb dX0_agreedAmong_3 rfl hl (by decide) rfl (fun ls hl => ?_)
  have L1 : ∀ (n1 i1 : Nat), i1 + n1 = 6 → ∀ (ls : Array Slot), lv_has ls 6 [(3, .int (nI (i1))), (2, .int (agO cl ad M (i1))), (0, .ref (a 3)), (1, .int (nI (M)))] → W pp ll ee rmX0_agreedAmong ss mm (([.ref (a 3), .int (nI (M))] : List Value).toArray) bel mth cd ss.heap [] 0 0 Z (F0 mm 4 ls []) := by
    intro n1
    induction n1 with
    | zero =>
      intro i1 hk1  ls hl
      have hk1b : i1 = 6 := by omega
      obtain rfl := hk1b
      refine lv_iload_n hx hb dX0_agreedAmong_4 rfl (lv_at hl 0 rfl) ?_
      refine lv_bipush (v := 6) hx hb dX0_agreedAmong_5 (by decide) ?_
      refine lv_icmp_ge (tgt := 77) hx hb dX0_agreedAmong_7 (by decide) (fun c_2 => ?_) (fun c_2 => ?_)
      · have n_2 : (6) ≤ (6) := (nI_leI (a := 6) (b := 6) (by omega) (by omega)).mp c_2
        refine lv_iload_n hx hb dX0_agreedAmong_77 rfl (lv_at hl 1 rfl) ?_
        subst hZ; exact W.iret hx hb hr (fun t ht _ => ⟨_, rfl, (by first | rfl | assumption), ht⟩) (fun _ h => nomatch h) dX0_agreedAmong_78
      · have n_2 : ¬ ((6) ≤ (6)) := fun h => c_2 ((nI_leI (a := 6) (b := 6) (by omega) (by omega)).mpr h)
        exfalso; omega
    | succ n1 ih1 =>
      intro i1 hk1  ls hl
      have hk1b : i1 < 6 := by omega
      refine lv_iload_n hx hb dX0_agreedAmong_4 rfl (lv_at hl 0 rfl) ?_
      refine lv_bipush (v := 6) hx hb dX0_agreedAmong_5 (by decide) ?_
      refine lv_icmp_ge (tgt := 77) hx hb dX0_agreedAmong_7 (by decide) (fun c_3 => ?_) (fun c_3 => ?_)
      · have n_3 : (6) ≤ (i1) := (nI_leI (a := 6) (b := i1) (by omega) (by omega)).mp c_3
        exfalso; omega
      · have n_3 : ¬ ((6) ≤ (i1)) := fun h => c_3 ((nI_leI (a := 6) (b := i1) (by omega) (by omega)).mpr h)
        refine lv_iconst (v := 0) hx hb dX0_agreedAmong_10 (by decide) ?_
        refine lv_istore (lv' := [(4, .int (0)), (3, .int (nI (i1))), (2, .int (agO cl ad M (i1))), (0, .ref (a 3)), (1, .int (nI (M)))]) hx hb dX0_agreedAmong_11 hl (by decide) rfl (fun ls hl => ?_)
        have L4 : ∀ (n4 j4 : Nat), j4 + n4 = 6 → ∀ (ls : Array Slot), lv_has ls 6 [(4, .int (nI (j4))), (3, .int (nI (i1))), (2, .int (agI cl ad M i1 (agO cl ad M i1) (j4))), (0, .ref (a 3)), (1, .int (nI (M)))] → W pp ll ee rmX0_agreedAmong ss mm (([.ref (a 3), .int (nI (M))] : List Value).toArray) bel mth cd ss.heap [] 0 0 Z (F0 mm 13 ls []) := by
          intro n4
          induction n4 with
          | zero =>
            intro j4 hk4  ls hl
            have hk4b : j4 = 6 := by omega
            obtain rfl := hk4b
            refine lv_iload hx hb dX0_agreedAmong_13 (lv_at hl 0 rfl) ?_
            refine lv_bipush (v := 6) hx hb dX0_agreedAmong_15 (by decide) ?_
            refine lv_icmp_ge (tgt := 71) hx hb dX0_agreedAmong_17 (by decide) (fun c_5 => ?_) (fun c_5 => ?_)
            · have n_5 : (6) ≤ (6) := (nI_leI (a := 6) (b := 6) (by omega) (by omega)).mp c_5
              refine lv_iinc (v := nI (i1 + 1)) (lv' := [(3, .int (nI (i1 + 1))), (4, .int (nI (6))), (2, .int (agI cl ad M i1 (agO cl ad M i1) (6))), (0, .ref (a 3)), (1, .int (nI (M)))]) hx hb dX0_agreedAmong_71 hl (k := 1) rfl (nI_1 (i1)) (by decide) rfl (fun ls hl => ?_)
              refine lv_goto (tgt := 4) hx hb dX0_agreedAmong_74 (by decide) ?_
              have e_6 : agO cl ad M (i1 + 1) = agI cl ad M i1 (agO cl ad M i1) (6) := by first | rfl | exact if_pos (by assumption) | exact if_neg (by assumption) | (simp only [n_3, n_5, Bool.false_eq_true, ↓reduceIte])
              exact ih1 (i1 + 1) (by omega) ls (by rw [e_6]; exact lv_sub hl [0, 2, 3, 4] rfl)
            · have n_5 : ¬ ((6) ≤ (6)) := fun h => c_5 ((nI_leI (a := 6) (b := 6) (by omega) (by omega)).mpr h)
              exfalso; omega
          | succ n4 ih4 =>
            intro j4 hk4  ls hl
            have hk4b : j4 < 6 := by omega
            refine lv_iload hx hb dX0_agreedAmong_13 (lv_at hl 0 rfl) ?_
            refine lv_bipush (v := 6) hx hb dX0_agreedAmong_15 (by decide) ?_
            refine lv_icmp_ge (tgt := 71) hx hb dX0_agreedAmong_17 (by decide) (fun c_7 => ?_) (fun c_7 => ?_)
            · have n_7 : (6) ≤ (j4) := (nI_leI (a := 6) (b := j4) (by omega) (by omega)).mp c_7
              exfalso; omega
            · have n_7 : ¬ ((6) ≤ (j4)) := fun h => c_7 ((nI_leI (a := 6) (b := j4) (by omega) (by omega)).mpr h)
              refine lv_iload_n hx hb dX0_agreedAmong_20 rfl (lv_at hl 4 rfl) ?_
              refine lv_iload_n hx hb dX0_agreedAmong_21 rfl (lv_at hl 1 rfl) ?_
              refine b_csi (v := bI (mB M i1)) ((va_runSN (As := [.int (nI (M)), .int (nI (i1))]) (rest := []) ⟨hx, hb, hml, hown, hts⟩ (c_X3_isMember ll M i1 (by omega) (by omega)) ⟨va_cnB 2 hts gX0_agreedAmong_X3_isMember_n22 rfl rfl rfl (hE.nest 7 rfl) (hts (.initialized RX3) (by decide +kernel)) (by decide +kernel) ⟨Nat.le_of_ble_eq_true rfl, Nat.le_of_ble_eq_true rfl⟩, hts (.static yX3_isMember) (by decide +kernel), trivial⟩ ⟨PT.blind, PT.to⟩ rfl rfl hl.1 rfl (lv_room (Nat.le_of_ble_eq_true rfl)) dX0_agreedAmong_22 ⟨Nat.le_of_ble_eq_true rfl, Nat.le_of_ble_eq_true rfl⟩).run) ?_
              refine lv_if_eq (tgt := 65) hx hb dX0_agreedAmong_25 (by decide) (fun c_8 => ?_) (fun c_8 => ?_)
              · have n_8 : ¬ (mB M i1) = true := bI0 c_8
                refine lv_iinc (v := nI (j4 + 1)) (lv' := [(4, .int (nI (j4 + 1))), (3, .int (nI (i1))), (2, .int (agI cl ad M i1 (agO cl ad M i1) (j4))), (0, .ref (a 3)), (1, .int (nI (M)))]) hx hb dX0_agreedAmong_65 hl (k := 0) rfl (nI_1 (j4)) (by decide) rfl (fun ls hl => ?_)
                refine lv_goto (tgt := 13) hx hb dX0_agreedAmong_68 (by decide) ?_
                have e_9 : agI cl ad M i1 (agO cl ad M i1) (j4 + 1) = agI cl ad M i1 (agO cl ad M i1) (j4) := by first | rfl | exact if_pos (by assumption) | exact if_neg (by assumption) | (simp only [agI, n_3, n_7, n_8, Bool.false_eq_true, ↓reduceIte])
                exact ih4 (j4 + 1) (by omega) ls (by rw [e_9]; exact lv_sub hl [0, 1, 2, 3, 4] rfl)
              · have n_8 : (mB M i1) = true := bI1 c_8
                refine lv_iload_n hx hb dX0_agreedAmong_28 rfl (lv_at hl 4 rfl) ?_
                refine lv_iload hx hb dX0_agreedAmong_29 (lv_at hl 0 rfl) ?_
                refine b_csi (v := bI (mB M j4)) ((va_runSN (As := [.int (nI (M)), .int (nI (j4))]) (rest := []) ⟨hx, hb, hml, hown, hts⟩ (c_X3_isMember ll M j4 (by omega) (by omega)) ⟨va_cnB 2 hts gX0_agreedAmong_X3_isMember_n22 rfl rfl rfl (hE.nest 7 rfl) (hts (.initialized RX3) (by decide +kernel)) (by decide +kernel) ⟨Nat.le_of_ble_eq_true rfl, Nat.le_of_ble_eq_true rfl⟩, hts (.static yX3_isMember) (by decide +kernel), trivial⟩ ⟨PT.blind, PT.to⟩ rfl rfl hl.1 rfl (lv_room (Nat.le_of_ble_eq_true rfl)) dX0_agreedAmong_31 ⟨Nat.le_of_ble_eq_true rfl, Nat.le_of_ble_eq_true rfl⟩).run) ?_
                refine lv_if_eq (tgt := 65) hx hb dX0_agreedAmong_34 (by decide) (fun c_10 => ?_) (fun c_10 => ?_)
                · have n_10 : ¬ (mB M j4) = true := bI0 c_10
                  refine lv_iinc (v := nI (j4 + 1)) (lv' := [(4, .int (nI (j4 + 1))), (3, .int (nI (i1))), (2, .int (agI cl ad M i1 (agO cl ad M i1) (j4))), (0, .ref (a 3)), (1, .int (nI (M)))]) hx hb dX0_agreedAmong_65 hl (k := 0) rfl (nI_1 (j4)) (by decide) rfl (fun ls hl => ?_)
                  refine lv_goto (tgt := 13) hx hb dX0_agreedAmong_68 (by decide) ?_
                  have e_11 : agI cl ad M i1 (agO cl ad M i1) (j4 + 1) = agI cl ad M i1 (agO cl ad M i1) (j4) := by first | rfl | exact if_pos (by assumption) | exact if_neg (by assumption) | (simp only [agI, n_3, n_7, n_8, n_10, Bool.false_eq_true, ↓reduceIte])
                  exact ih4 (j4 + 1) (by omega) ls (by rw [e_11]; exact lv_sub hl [0, 1, 2, 3, 4] rfl)
                · have n_10 : (mB M j4) = true := bI1 c_10
                  refine lv_iload_n hx hb dX0_agreedAmong_37 rfl (lv_at hl 1 rfl) ?_
                  refine lv_iload hx hb dX0_agreedAmong_38 (lv_at hl 0 rfl) ?_
                  refine b_csi (v := nI (6 * i1 + j4)) ((va_runSN (As := [.int (nI (i1)), .int (nI (j4))]) (rest := []) ⟨hx, hb, hml, hown, hts⟩ (c_X3_pair ll i1 j4 ) ⟨va_cnB 2 hts gX0_agreedAmong_X3_pair_n18 rfl rfl rfl (hE.nest 8 rfl) (hts (.initialized RX3) (by decide +kernel)) (by decide +kernel) ⟨Nat.le_of_ble_eq_true rfl, Nat.le_of_ble_eq_true rfl⟩, hts (.static yX3_pair) (by decide +kernel), trivial⟩ ⟨PT.blind, PT.to⟩ rfl rfl hl.1 rfl (lv_room (Nat.le_of_ble_eq_true rfl)) dX0_agreedAmong_40 ⟨Nat.le_of_ble_eq_true rfl, Nat.le_of_ble_eq_true rfl⟩).run) ?_
                  refine lv_istore (lv' := [(5, .int (nI (6 * i1 + j4))), (4, .int (nI (j4))), (3, .int (nI (i1))), (2, .int (agI cl ad M i1 (agO cl ad M i1) (j4))), (0, .ref (a 3)), (1, .int (nI (M)))]) hx hb dX0_agreedAmong_43 hl (by decide) rfl (fun ls hl => ?_)
                  refine lv_iload_n hx hb dX0_agreedAmong_45 rfl (lv_at hl 3 rfl) ?_
                  refine lv_aload_n hx hb dX0_agreedAmong_46 rfl (lv_at hl 4 rfl) ?_
                  refine va_get (D := D) (ci := 0) (v := .ref (a 19)) (C := RX0) (T := TX0) (N := 2) (Ts := wsX00) hx hb hin (fun _ h9 => h9) hown hK hP 3 rfl rfl 0 (by decide) (hts (.fieldLink RX0 9 "Groupbooks$Balances" "claims" "[I") (by decide +kernel)) (fun _ h9 => h9) rfl dX0_agreedAmong_47 ?_
                  refine lv_iload hx hb dX0_agreedAmong_50 (lv_at hl 0 rfl) ?_
                  refine b_iald hx hb hK hP 19 0 (f := cl) rfl rfl (j := 6 * i1 + j4) (by omega) (by decide) dX0_agreedAmong_52 ?_
                  refine lv_aload_n hx hb dX0_agreedAmong_53 rfl (lv_at hl 4 rfl) ?_
                  refine va_get (D := D) (ci := 0) (v := .ref (a 20)) (C := RX0) (T := TX0) (N := 2) (Ts := wsX00) hx hb hin (fun _ h9 => h9) hown hK hP 3 rfl rfl 1 (by decide) (hts (.fieldLink RX0 15 "Groupbooks$Balances" "admissions" "[I") (by decide +kernel)) (fun _ h9 => h9) rfl dX0_agreedAmong_54 ?_
                  refine lv_iload hx hb dX0_agreedAmong_57 (lv_at hl 0 rfl) ?_
                  refine b_iald hx hb hK hP 20 0 (f := ad) rfl rfl (j := 6 * i1 + j4) (by omega) (by decide) dX0_agreedAmong_59 ?_
                  refine va_mmin hx hb (hml.trans hl.1.symm) hown (hts (.methodLink RX0 26 Lib.Math.min.name) (by decide +kernel)) (hts (.static Lib.Math.min.name) (by decide +kernel)) (hts (.initialized "java/lang/Math") (by decide +kernel)) (hts (.code Lib.Math.min.name Lib.Math.min.code 2 (some .int)) (by decide +kernel)) (Nat.le_of_ble_eq_true rfl) (Nat.le_of_ble_eq_true rfl) (Nat.le_of_ble_eq_true rfl) (Nat.le_of_ble_eq_true rfl) dX0_agreedAmong_60 ?_
                  refine lv_iadd hx hb dX0_agreedAmong_63 ?_
                  refine lv_istore_n (lv' := [(2, .int ((agI cl ad M i1 (agO cl ad M i1) (j4)) + (if ad (6 * i1 + j4) < cl (6 * i1 + j4) then ad (6 * i1 + j4) else cl (6 * i1 + j4)))), (5, .int (nI (6 * i1 + j4))), (4, .int (nI (j4))), (3, .int (nI (i1))), (0, .ref (a 3)), (1, .int (nI (M)))]) hx hb dX0_agreedAmong_64 rfl hl (by decide) rfl (fun ls hl => ?_)
                  refine lv_iinc (v := nI (j4 + 1)) (lv' := [(4, .int (nI (j4 + 1))), (2, .int ((agI cl ad M i1 (agO cl ad M i1) (j4)) + (if ad (6 * i1 + j4) < cl (6 * i1 + j4) then ad (6 * i1 + j4) else cl (6 * i1 + j4)))), (5, .int (nI (6 * i1 + j4))), (3, .int (nI (i1))), (0, .ref (a 3)), (1, .int (nI (M)))]) hx hb dX0_agreedAmong_65 hl (k := 2) rfl (nI_1 (j4)) (by decide) rfl (fun ls hl => ?_)
                  refine lv_goto (tgt := 13) hx hb dX0_agreedAmong_68 (by decide) ?_
                  have e_12 : agI cl ad M i1 (agO cl ad M i1) (j4 + 1) = (agI cl ad M i1 (agO cl ad M i1) (j4)) + (if ad (6 * i1 + j4) < cl (6 * i1 + j4) then ad (6 * i1 + j4) else cl (6 * i1 + j4)) := by first | rfl | exact if_pos (by assumption) | exact if_neg (by assumption) | (simp only [agI, n_3, n_7, n_8, n_10, Bool.false_eq_true, ↓reduceIte])
                  exact ih4 (j4 + 1) (by omega) ls (by rw [e_12]; exact lv_sub hl [0, 3, 1, 4, 5] rfl)
        exact L4 (6) 0 (by omega) ls (lv_sub hl [0, 1, 2, 3, 4] rfl)
  exact L1 (6) 0 (by omega) ls (lv_sub hl [0, 1, 2, 3] rfl)

abbrev rmX1_assetsOf : Room := ({ frames := 2, cells := 0, slots := 0, locals := 43 } : Room)
set_option maxHeartbeats 4000000 in
set_option maxRecDepth 100000 in
theorem c_X1_assetsOf (ll : Launch) (D : va_G) (a : Nat → Nat) (cI cJ : ClassId) (p : Nat → Int32) (nu de eq : Nat → Int64) (am nx oA oD oE oP cR aR hR cl ad gw pr : Nat → Int32) (n : Int32) (c : Nat) (hc : c < 6) : Met ll yX1_assetsOf wsX1_assetsOf rmX1_assetsOf (va_Pc [.ref (a 2), .int (nI (c))] (PR D (tyG cI cJ) (GW a cI cJ p nu de eq am nx oA oD oE oP cR aR hR cl ad gw pr n))) (vp_Si (fun rr => rr = tr (oA c) (cR c))) 0 0 (fun _ => False) := by
  refine Met.ofW (cc := cX1_assetsOf) (maxL := 2) (ret := (some .int)) (by decide) rfl ?_
  intro pp ee ss mm ar bel mth cd s₁ B hml hv
  obtain ⟨rfl, hP, hK, hE⟩ := hv
  have hx := B.exec
  have hb := B.bytes
  have hr := B.returns
  have hts := atoms_spec (ws := wsX1_assetsOf) B.pre
  have hown : ss.vm.findClass RX1 = some mm.cls := findClass_of_methodNamed B.named
  have hlocks := B.notSynchronized
  have hin : ∀ w ∈ wsX10, w.before ([.ref (a 2), .int (nI (c))] : List Value).toArray ss = true := fun w h => hts w ((by decide +kernel : ∀ w ∈ wsX10, w ∈ wsX1_assetsOf) w h)
  have hl := lv_entry [.ref (a 2), .int (nI (c))] (n := 2) (Nat.le_of_ble_eq_true rfl)
  rw [lg_entry_eq]
  generalize (lg_sl [.ref (a 2), .int (nI (c))] ++ List.replicate (2 - (lg_sl [.ref (a 2), .int (nI (c))]).length) Slot.unset).toArray = ls at hl ⊢
  have hl : lv_has ls 2 [(0, .ref (a 2)), (1, .int (nI (c)))] := hl
  refine lv_aload_n hx hb dX1_assetsOf_0 rfl (lv_at hl 0 rfl) ?_
  refine va_get (D := D) (ci := 1) (v := .ref (a 12)) (C := RX1) (T := TX1) (N := 7) (Ts := wsX10) hx hb hin (fun _ h9 => h9) hown hK hP 2 rfl rfl 0 (by decide) (hts (.fieldLink RX1 9 "Groupbooks$Books" "ownAssets" "[I") (by decide +kernel)) (fun _ h9 => h9) rfl dX1_assetsOf_1 ?_
  refine lv_iload_n hx hb dX1_assetsOf_4 rfl (lv_at hl 1 rfl) ?_
  refine b_iald hx hb hK hP 12 0 (f := oA) rfl rfl (j := c) (by omega) (by decide) dX1_assetsOf_5 ?_
  refine lv_aload_n hx hb dX1_assetsOf_6 rfl (lv_at hl 0 rfl) ?_
  refine va_get (D := D) (ci := 1) (v := .ref (a 16)) (C := RX1) (T := TX1) (N := 7) (Ts := wsX10) hx hb hin (fun _ h9 => h9) hown hK hP 2 rfl rfl 4 (by decide) (hts (.fieldLink RX1 24 "Groupbooks$Books" "closingRates" "[I") (by decide +kernel)) (fun _ h9 => h9) rfl dX1_assetsOf_7 ?_
  refine lv_iload_n hx hb dX1_assetsOf_10 rfl (lv_at hl 1 rfl) ?_
  refine b_iald hx hb hK hP 16 0 (f := cR) rfl rfl (j := c) (by omega) (by decide) dX1_assetsOf_11 ?_
  refine b_csi (v := tr (oA (c)) (cR (c))) (W.runS (As := [.int (oA (c)), .int (cR (c))]) (rest := []) ⟨hx, hb, hml, hown, hts⟩ (c_X1_translate ll (oA (c)) (cR (c)) ) (va_cwS 2 hts gX1_assetsOf_X1_translate rfl rfl rfl (by decide +kernel) ⟨Nat.le_of_ble_eq_true rfl, Nat.le_of_ble_eq_true rfl⟩) ⟨PT.blind, PT.to⟩ rfl rfl hl.1 rfl (lv_room (Nat.le_of_ble_eq_true rfl)) dX1_assetsOf_12 ⟨Nat.le_of_ble_eq_true rfl, Nat.le_of_ble_eq_true rfl⟩) ?_
  exact W.iret hx hb hr (fun t ht _ => ⟨_, rfl, rfl, ht⟩) (fun _ h => nomatch h) dX1_assetsOf_15

abbrev rmX1_debtsOf : Room := ({ frames := 2, cells := 0, slots := 0, locals := 43 } : Room)
set_option maxHeartbeats 4000000 in
set_option maxRecDepth 100000 in
theorem c_X1_debtsOf (ll : Launch) (D : va_G) (a : Nat → Nat) (cI cJ : ClassId) (p : Nat → Int32) (nu de eq : Nat → Int64) (am nx oA oD oE oP cR aR hR cl ad gw pr : Nat → Int32) (n : Int32) (c : Nat) (hc : c < 6) : Met ll yX1_debtsOf wsX1_debtsOf rmX1_debtsOf (va_Pc [.ref (a 2), .int (nI (c))] (PR D (tyG cI cJ) (GW a cI cJ p nu de eq am nx oA oD oE oP cR aR hR cl ad gw pr n))) (vp_Si (fun rr => rr = tr (oD c) (cR c))) 0 0 (fun _ => False) := by
  refine Met.ofW (cc := cX1_debtsOf) (maxL := 2) (ret := (some .int)) (by decide) rfl ?_
  intro pp ee ss mm ar bel mth cd s₁ B hml hv
  obtain ⟨rfl, hP, hK, hE⟩ := hv
  have hx := B.exec
  have hb := B.bytes
  have hr := B.returns
  have hts := atoms_spec (ws := wsX1_debtsOf) B.pre
  have hown : ss.vm.findClass RX1 = some mm.cls := findClass_of_methodNamed B.named
  have hlocks := B.notSynchronized
  have hin : ∀ w ∈ wsX10, w.before ([.ref (a 2), .int (nI (c))] : List Value).toArray ss = true := fun w h => hts w ((by decide +kernel : ∀ w ∈ wsX10, w ∈ wsX1_debtsOf) w h)
  have hl := lv_entry [.ref (a 2), .int (nI (c))] (n := 2) (Nat.le_of_ble_eq_true rfl)
  rw [lg_entry_eq]
  generalize (lg_sl [.ref (a 2), .int (nI (c))] ++ List.replicate (2 - (lg_sl [.ref (a 2), .int (nI (c))]).length) Slot.unset).toArray = ls at hl ⊢
  have hl : lv_has ls 2 [(0, .ref (a 2)), (1, .int (nI (c)))] := hl
  refine lv_aload_n hx hb dX1_debtsOf_0 rfl (lv_at hl 0 rfl) ?_
  refine va_get (D := D) (ci := 1) (v := .ref (a 13)) (C := RX1) (T := TX1) (N := 7) (Ts := wsX10) hx hb hin (fun _ h9 => h9) hown hK hP 2 rfl rfl 1 (by decide) (hts (.fieldLink RX1 15 "Groupbooks$Books" "ownDebts" "[I") (by decide +kernel)) (fun _ h9 => h9) rfl dX1_debtsOf_1 ?_
  refine lv_iload_n hx hb dX1_debtsOf_4 rfl (lv_at hl 1 rfl) ?_
  refine b_iald hx hb hK hP 13 0 (f := oD) rfl rfl (j := c) (by omega) (by decide) dX1_debtsOf_5 ?_
  refine lv_aload_n hx hb dX1_debtsOf_6 rfl (lv_at hl 0 rfl) ?_
  refine va_get (D := D) (ci := 1) (v := .ref (a 16)) (C := RX1) (T := TX1) (N := 7) (Ts := wsX10) hx hb hin (fun _ h9 => h9) hown hK hP 2 rfl rfl 4 (by decide) (hts (.fieldLink RX1 24 "Groupbooks$Books" "closingRates" "[I") (by decide +kernel)) (fun _ h9 => h9) rfl dX1_debtsOf_7 ?_
  refine lv_iload_n hx hb dX1_debtsOf_10 rfl (lv_at hl 1 rfl) ?_
  refine b_iald hx hb hK hP 16 0 (f := cR) rfl rfl (j := c) (by omega) (by decide) dX1_debtsOf_11 ?_
  refine b_csi (v := tr (oD (c)) (cR (c))) (W.runS (As := [.int (oD (c)), .int (cR (c))]) (rest := []) ⟨hx, hb, hml, hown, hts⟩ (c_X1_translate ll (oD (c)) (cR (c)) ) (va_cwS 2 hts gX1_debtsOf_X1_translate rfl rfl rfl (by decide +kernel) ⟨Nat.le_of_ble_eq_true rfl, Nat.le_of_ble_eq_true rfl⟩) ⟨PT.blind, PT.to⟩ rfl rfl hl.1 rfl (lv_room (Nat.le_of_ble_eq_true rfl)) dX1_debtsOf_12 ⟨Nat.le_of_ble_eq_true rfl, Nat.le_of_ble_eq_true rfl⟩) ?_
  exact W.iret hx hb hr (fun t ht _ => ⟨_, rfl, rfl, ht⟩) (fun _ h => nomatch h) dX1_debtsOf_15

abbrev rmX1_equityOf : Room := ({ frames := 2, cells := 0, slots := 0, locals := 43 } : Room)
set_option maxHeartbeats 4000000 in
set_option maxRecDepth 100000 in
theorem c_X1_equityOf (ll : Launch) (D : va_G) (a : Nat → Nat) (cI cJ : ClassId) (p : Nat → Int32) (nu de eq : Nat → Int64) (am nx oA oD oE oP cR aR hR cl ad gw pr : Nat → Int32) (n : Int32) (c : Nat) (hc : c < 6) : Met ll yX1_equityOf wsX1_equityOf rmX1_equityOf (va_Pc [.ref (a 2), .int (nI (c))] (PR D (tyG cI cJ) (GW a cI cJ p nu de eq am nx oA oD oE oP cR aR hR cl ad gw pr n))) (vp_Si (fun rr => rr = tr (oE c) (hR c))) 0 0 (fun _ => False) := by
  refine Met.ofW (cc := cX1_equityOf) (maxL := 2) (ret := (some .int)) (by decide) rfl ?_
  intro pp ee ss mm ar bel mth cd s₁ B hml hv
  obtain ⟨rfl, hP, hK, hE⟩ := hv
  have hx := B.exec
  have hb := B.bytes
  have hr := B.returns
  have hts := atoms_spec (ws := wsX1_equityOf) B.pre
  have hown : ss.vm.findClass RX1 = some mm.cls := findClass_of_methodNamed B.named
  have hlocks := B.notSynchronized
  have hin : ∀ w ∈ wsX10, w.before ([.ref (a 2), .int (nI (c))] : List Value).toArray ss = true := fun w h => hts w ((by decide +kernel : ∀ w ∈ wsX10, w ∈ wsX1_equityOf) w h)
  have hl := lv_entry [.ref (a 2), .int (nI (c))] (n := 2) (Nat.le_of_ble_eq_true rfl)
  rw [lg_entry_eq]
  generalize (lg_sl [.ref (a 2), .int (nI (c))] ++ List.replicate (2 - (lg_sl [.ref (a 2), .int (nI (c))]).length) Slot.unset).toArray = ls at hl ⊢
  have hl : lv_has ls 2 [(0, .ref (a 2)), (1, .int (nI (c)))] := hl
  refine lv_aload_n hx hb dX1_equityOf_0 rfl (lv_at hl 0 rfl) ?_
  refine va_get (D := D) (ci := 1) (v := .ref (a 14)) (C := RX1) (T := TX1) (N := 7) (Ts := wsX10) hx hb hin (fun _ h9 => h9) hown hK hP 2 rfl rfl 2 (by decide) (hts (.fieldLink RX1 18 "Groupbooks$Books" "ownEquities" "[I") (by decide +kernel)) (fun _ h9 => h9) rfl dX1_equityOf_1 ?_
  refine lv_iload_n hx hb dX1_equityOf_4 rfl (lv_at hl 1 rfl) ?_
  refine b_iald hx hb hK hP 14 0 (f := oE) rfl rfl (j := c) (by omega) (by decide) dX1_equityOf_5 ?_
  refine lv_aload_n hx hb dX1_equityOf_6 rfl (lv_at hl 0 rfl) ?_
  refine va_get (D := D) (ci := 1) (v := .ref (a 18)) (C := RX1) (T := TX1) (N := 7) (Ts := wsX10) hx hb hin (fun _ h9 => h9) hown hK hP 2 rfl rfl 6 (by decide) (hts (.fieldLink RX1 30 "Groupbooks$Books" "historicalRates" "[I") (by decide +kernel)) (fun _ h9 => h9) rfl dX1_equityOf_7 ?_
  refine lv_iload_n hx hb dX1_equityOf_10 rfl (lv_at hl 1 rfl) ?_
  refine b_iald hx hb hK hP 18 0 (f := hR) rfl rfl (j := c) (by omega) (by decide) dX1_equityOf_11 ?_
  refine b_csi (v := tr (oE (c)) (hR (c))) (W.runS (As := [.int (oE (c)), .int (hR (c))]) (rest := []) ⟨hx, hb, hml, hown, hts⟩ (c_X1_translate ll (oE (c)) (hR (c)) ) (va_cwS 2 hts gX1_equityOf_X1_translate rfl rfl rfl (by decide +kernel) ⟨Nat.le_of_ble_eq_true rfl, Nat.le_of_ble_eq_true rfl⟩) ⟨PT.blind, PT.to⟩ rfl rfl hl.1 rfl (lv_room (Nat.le_of_ble_eq_true rfl)) dX1_equityOf_12 ⟨Nat.le_of_ble_eq_true rfl, Nat.le_of_ble_eq_true rfl⟩) ?_
  exact W.iret hx hb hr (fun t ht _ => ⟨_, rfl, rfl, ht⟩) (fun _ h => nomatch h) dX1_equityOf_15

abbrev rmX1_profitOf : Room := ({ frames := 2, cells := 0, slots := 0, locals := 43 } : Room)
set_option maxHeartbeats 4000000 in
set_option maxRecDepth 100000 in
theorem c_X1_profitOf (ll : Launch) (D : va_G) (a : Nat → Nat) (cI cJ : ClassId) (p : Nat → Int32) (nu de eq : Nat → Int64) (am nx oA oD oE oP cR aR hR cl ad gw pr : Nat → Int32) (n : Int32) (c : Nat) (hc : c < 6) : Met ll yX1_profitOf wsX1_profitOf rmX1_profitOf (va_Pc [.ref (a 2), .int (nI (c))] (PR D (tyG cI cJ) (GW a cI cJ p nu de eq am nx oA oD oE oP cR aR hR cl ad gw pr n))) (vp_Si (fun rr => rr = tr (oP c) (aR c))) 0 0 (fun _ => False) := by
  refine Met.ofW (cc := cX1_profitOf) (maxL := 2) (ret := (some .int)) (by decide) rfl ?_
  intro pp ee ss mm ar bel mth cd s₁ B hml hv
  obtain ⟨rfl, hP, hK, hE⟩ := hv
  have hx := B.exec
  have hb := B.bytes
  have hr := B.returns
  have hts := atoms_spec (ws := wsX1_profitOf) B.pre
  have hown : ss.vm.findClass RX1 = some mm.cls := findClass_of_methodNamed B.named
  have hlocks := B.notSynchronized
  have hin : ∀ w ∈ wsX10, w.before ([.ref (a 2), .int (nI (c))] : List Value).toArray ss = true := fun w h => hts w ((by decide +kernel : ∀ w ∈ wsX10, w ∈ wsX1_profitOf) w h)
  have hl := lv_entry [.ref (a 2), .int (nI (c))] (n := 2) (Nat.le_of_ble_eq_true rfl)
  rw [lg_entry_eq]
  generalize (lg_sl [.ref (a 2), .int (nI (c))] ++ List.replicate (2 - (lg_sl [.ref (a 2), .int (nI (c))]).length) Slot.unset).toArray = ls at hl ⊢
  have hl : lv_has ls 2 [(0, .ref (a 2)), (1, .int (nI (c)))] := hl
  refine lv_aload_n hx hb dX1_profitOf_0 rfl (lv_at hl 0 rfl) ?_
  refine va_get (D := D) (ci := 1) (v := .ref (a 15)) (C := RX1) (T := TX1) (N := 7) (Ts := wsX10) hx hb hin (fun _ h9 => h9) hown hK hP 2 rfl rfl 3 (by decide) (hts (.fieldLink RX1 21 "Groupbooks$Books" "ownProfits" "[I") (by decide +kernel)) (fun _ h9 => h9) rfl dX1_profitOf_1 ?_
  refine lv_iload_n hx hb dX1_profitOf_4 rfl (lv_at hl 1 rfl) ?_
  refine b_iald hx hb hK hP 15 0 (f := oP) rfl rfl (j := c) (by omega) (by decide) dX1_profitOf_5 ?_
  refine lv_aload_n hx hb dX1_profitOf_6 rfl (lv_at hl 0 rfl) ?_
  refine va_get (D := D) (ci := 1) (v := .ref (a 17)) (C := RX1) (T := TX1) (N := 7) (Ts := wsX10) hx hb hin (fun _ h9 => h9) hown hK hP 2 rfl rfl 5 (by decide) (hts (.fieldLink RX1 27 "Groupbooks$Books" "averageRates" "[I") (by decide +kernel)) (fun _ h9 => h9) rfl dX1_profitOf_7 ?_
  refine lv_iload_n hx hb dX1_profitOf_10 rfl (lv_at hl 1 rfl) ?_
  refine b_iald hx hb hK hP 17 0 (f := aR) rfl rfl (j := c) (by omega) (by decide) dX1_profitOf_11 ?_
  refine b_csi (v := tr (oP (c)) (aR (c))) (W.runS (As := [.int (oP (c)), .int (aR (c))]) (rest := []) ⟨hx, hb, hml, hown, hts⟩ (c_X1_translate ll (oP (c)) (aR (c)) ) (va_cwS 2 hts gX1_profitOf_X1_translate rfl rfl rfl (by decide +kernel) ⟨Nat.le_of_ble_eq_true rfl, Nat.le_of_ble_eq_true rfl⟩) ⟨PT.blind, PT.to⟩ rfl rfl hl.1 rfl (lv_room (Nat.le_of_ble_eq_true rfl)) dX1_profitOf_12 ⟨Nat.le_of_ble_eq_true rfl, Nat.le_of_ble_eq_true rfl⟩) ?_
  exact W.iret hx hb hr (fun t ht _ => ⟨_, rfl, rfl, ht⟩) (fun _ h => nomatch h) dX1_profitOf_15

abbrev rmX1_netOf : Room := ({ frames := 3, cells := 0, slots := 0, locals := 64 } : Room)
set_option maxHeartbeats 4000000 in
set_option maxRecDepth 100000 in
theorem c_X1_netOf (ll : Launch) (D : va_G) (a : Nat → Nat) (cI cJ : ClassId) (p : Nat → Int32) (nu de eq : Nat → Int64) (am nx oA oD oE oP cR aR hR cl ad gw pr : Nat → Int32) (n : Int32) (c : Nat) (hc : c < 6) : Met ll yX1_netOf wsX1_netOf rmX1_netOf (va_Pc [.ref (a 2), .int (nI (c))] (PR D (tyG cI cJ) (GW a cI cJ p nu de eq am nx oA oD oE oP cR aR hR cl ad gw pr n))) (vp_Si (fun rr => rr = tr (oA c) (cR c) - tr (oD c) (cR c))) 0 0 (fun _ => False) := by
  refine Met.ofW (cc := cX1_netOf) (maxL := 2) (ret := (some .int)) (by decide) rfl ?_
  intro pp ee ss mm ar bel mth cd s₁ B hml hv
  obtain ⟨rfl, hP, hK, hE⟩ := hv
  have hx := B.exec
  have hb := B.bytes
  have hr := B.returns
  have hts := atoms_spec (ws := wsX1_netOf) B.pre
  have hown : ss.vm.findClass RX1 = some mm.cls := findClass_of_methodNamed B.named
  have hlocks := B.notSynchronized
  have hin : ∀ w ∈ wsX10, w.before ([.ref (a 2), .int (nI (c))] : List Value).toArray ss = true := fun w h => hts w ((by decide +kernel : ∀ w ∈ wsX10, w ∈ wsX1_netOf) w h)
  have hl := lv_entry [.ref (a 2), .int (nI (c))] (n := 2) (Nat.le_of_ble_eq_true rfl)
  rw [lg_entry_eq]
  generalize (lg_sl [.ref (a 2), .int (nI (c))] ++ List.replicate (2 - (lg_sl [.ref (a 2), .int (nI (c))]).length) Slot.unset).toArray = ls at hl ⊢
  have hl : lv_has ls 2 [(0, .ref (a 2)), (1, .int (nI (c)))] := hl
  refine lv_aload_n hx hb dX1_netOf_0 rfl (lv_at hl 0 rfl) ?_
  refine lv_iload_n hx hb dX1_netOf_1 rfl (lv_at hl 1 rfl) ?_
  refine b_csi (v := tr (oA c) (cR c)) (W.runV (As := [.int (nI (c))]) (rest := []) ⟨hx, hb, hml, hown, hts⟩ (c_X1_assetsOf ll D a cI cJ p nu de eq am nx oA oD oE oP cR aR hR cl ad gw pr n c (by omega)) (cwV 1 hts gX1_netOf_X1_assetsOf rfl rfl rfl (by decide +kernel) ⟨Nat.le_of_ble_eq_true rfl, Nat.le_of_ble_eq_true rfl⟩) ⟨PR.blind, va_recv hK hP (ci := 1) (q0 := 2) rfl rfl, PR.go hP hK hE⟩ rfl rfl hl.1 rfl (lv_room (Nat.le_of_ble_eq_true rfl)) dX1_netOf_2 ⟨Nat.le_of_ble_eq_true rfl, Nat.le_of_ble_eq_true rfl⟩) ?_
  refine lv_aload_n hx hb dX1_netOf_5 rfl (lv_at hl 0 rfl) ?_
  refine lv_iload_n hx hb dX1_netOf_6 rfl (lv_at hl 1 rfl) ?_
  refine b_csi (v := tr (oD c) (cR c)) (W.runV (As := [.int (nI (c))]) (rest := [.int (tr (oA c) (cR c))]) ⟨hx, hb, hml, hown, hts⟩ (c_X1_debtsOf ll D a cI cJ p nu de eq am nx oA oD oE oP cR aR hR cl ad gw pr n c (by omega)) (cwV 1 hts gX1_netOf_X1_debtsOf rfl rfl rfl (by decide +kernel) ⟨Nat.le_of_ble_eq_true rfl, Nat.le_of_ble_eq_true rfl⟩) ⟨PR.blind, va_recv hK hP (ci := 1) (q0 := 2) rfl rfl, PR.go hP hK hE⟩ rfl rfl hl.1 rfl (lv_room (Nat.le_of_ble_eq_true rfl)) dX1_netOf_7 ⟨Nat.le_of_ble_eq_true rfl, Nat.le_of_ble_eq_true rfl⟩) ?_
  refine lv_isub hx hb dX1_netOf_10 ?_
  exact W.iret hx hb hr (fun t ht _ => ⟨_, rfl, rfl, ht⟩) (fun _ h => nomatch h) dX1_netOf_11
end
section
def ceK (eq : Nat → Int64) (r c : Nat) (pv dv : Int64) : Nat → Nat → Int64
  | 0 => eq
  | k + 1 => vp_updL (ceK eq r c pv dv k) (6 * r + k) ((ceK eq r c pv dv k (6 * r + k) * pv - eq (6 * r + c) * ceK eq r c pv dv k (6 * c + k)) / dv)
def ce (eq : Nat → Int64) (r c : Nat) (pv dv : Int64) : Nat → Int64 := if dv ≤ 0 then eq else ceK eq r c pv dv 6
def ccK (eq : Nat → Int64) (c : Nat) (pv dv : Int64) : Nat → Nat → Int64
  | 0 => eq
  | k + 1 => if k + 1 = c then ccK eq c pv dv k else ce (ccK eq c pv dv k) (k + 1) c pv dv
def weI (p : Nat → Int32) (c : Nat) (e : Nat → Int64) : Nat → Nat → Int64
  | 0 => e
  | j + 1 => vp_updL (weI p c e j) (6 * c + (j + 1)) (if j + 1 = c then 100 else (-(p (6 * (j + 1) + c))).toInt64)
def weO (p : Nat → Int32) (eq : Nat → Int64) : Nat → Nat → Int64
  | 0 => eq
  | i + 1 => weI p (i + 1) (vp_updL (weO p eq i) (6 * (i + 1) + 0) (p (6 * 0 + (i + 1))).toInt64) 5
def ds (e0 : Nat → Int64) : Nat → (Nat → Int64) × Int64
  | 0 => (e0, 1)
  | k + 1 => (ccK (ds e0 k).1 (k + 1) ((ds e0 k).1 (6 * (k + 1) + (k + 1))) (ds e0 k).2 5, (ds e0 k).1 (6 * (k + 1) + (k + 1)))
def pvt (e0 : Nat → Int64) (k : Nat) : Int64 := (ds e0 k).1 (6 * (k + 1) + (k + 1))
def cdF : Nat → Int64 → Int64 → Int64 | 0, x, _ => x | n + 1, x, y => if y = 0 then x else cdF n y (x - x / y * y)
def ksN (eq : Nat → Int64) (dn : Int64) (nu : Nat → Int64) : Nat → Nat → Int64
  | 0 => nu
  | k + 1 => if cdF 100 dn (eq (6 * (k + 1) + 0)) ≤ 0 then ksN eq dn nu k else vp_updL (ksN eq dn nu k) (k + 1) (eq (6 * (k + 1) + 0) / cdF 100 dn (eq (6 * (k + 1) + 0)))
def ksD (eq : Nat → Int64) (dn : Int64) (de : Nat → Int64) : Nat → Nat → Int64
  | 0 => de
  | k + 1 => if cdF 100 dn (eq (6 * (k + 1) + 0)) ≤ 0 then ksD eq dn de k else vp_updL (ksD eq dn de k) (k + 1) (dn / cdF 100 dn (eq (6 * (k + 1) + 0)))
def plN (p am nx : Nat → Int32) : Nat → Nat → Int32
  | 0 => nx
  | k + 1 => upd (plN p am nx k) (k + 1) (sI (fun o => p (6 * o + (k + 1)) * am o) 6 / 100)
def plA (am nx : Nat → Int32) : Nat → Nat → Int32 | 0 => am | k + 1 => upd (plA am nx k) (k + 1) (nx (k + 1))
def miA (am : Nat → Int32) : Nat → Nat → Int32 | 0 => am | k + 1 => upd (miA am k) k (if k = 0 then 1000000 else 0)
def mr (p am nx : Nat → Int32) : Nat → (Nat → Int32) × (Nat → Int32)
  | 0 => (miA am 6, nx)
  | j + 1 => (plA (mr p am nx j).1 (plN p (mr p am nx j).1 (mr p am nx j).2 5) 5, plN p (mr p am nx j).1 (mr p am nx j).2 5)
def tkOK (p : Nat → Int32) (eq : Nat → Int64) (o c : Nat) (x : Int32) : Prop := ¬ 100 < sI (fun o => p (6 * o + c)) 6 - p (6 * o + c) + x ∧ ∀ k, k < 5 → 0 < pvt (weO (upd p (6 * o + c) x) eq 5) k
theorem upd_back (p : Nat → Int32) (i : Nat) (x : Int32) : upd (upd p i x) i (p i) = p := by
  funext j
  by_cases h : j = i
  · subst h; simp [upd]
  · simp [upd, h]
end
section
abbrev rmX2_playRound : Room := ({ frames := 1, cells := 0, slots := 0, locals := 21 } : Room)
set_option maxHeartbeats 4000000 in
set_option maxRecDepth 100000 in
theorem c_X2_playRound (ll : Launch) (D : va_G) (a : Nat → Nat) (cI cJ : ClassId) (sz : Nat) (p : Nat → Int32) (nu de eq : Nat → Int64) (am nx oA oD oE oP cR aR hR cl ad gw pr : Nat → Int32) (n : Int32)   : Met ll yX2_playRound wsX2_playRound rmX2_playRound (va_Pc [.ref (a 1)] (PW D (tyG cI cJ) (GW a cI cJ p nu de eq am nx oA oD oE oP cR aR hR cl ad gw pr n) sz)) (va_Qv (fun (u : Unit) => True) (fun (u : Unit) t => AW D (tyG cI cJ) (va_A (GW a cI cJ p nu de eq am nx oA oD oE oP cR aR hR cl ad gw pr n) sz) (GW a cI cJ p nu de eq (plA am (plN p am nx 5) 5) (plN p am nx 5) oA oD oE oP cR aR hR cl ad gw pr n) t) (va_A (GW a cI cJ p nu de eq am nx oA oD oE oP cR aR hR cl ad gw pr n) sz)) 0 0 (va_A (GW a cI cJ p nu de eq am nx oA oD oE oP cR aR hR cl ad gw pr n) sz) := by
  refine Met.ofW (cc := cX2_playRound) (maxL := 4) (ret := none) (by decide) rfl ?_
  intro pp ee ss mm ar bel mth cd s₁ B hml hv
  obtain ⟨rfl, hsz, hP, hK, hD0, hE⟩ := hv
  have hx := B.exec
  have hb := B.bytes
  have hr := B.returns
  have hts := atoms_spec (ws := wsX2_playRound) B.pre
  have hown : ss.vm.findClass RX2 = some mm.cls := findClass_of_methodNamed B.named
  have hlocks := B.notSynchronized
  subst hsz
  have hD := hD0.self (sz := ss.heap.size)
  generalize hAe : va_A (GW a cI cJ p nu de eq am nx oA oD oE oP cR aR hR cl ad gw pr n) ss.heap.size = A at hD ⊢
  have hA : ∀ q : Nat, ss.heap.size ≤ q → A q := fun q h => by rw [← hAe]; exact Or.inr h
  have hS : va_S A ss.heap ss.heap [] := va_S.rf
  have hin : ∀ w ∈ wsX20, w.before ([.ref (a 1)] : List Value).toArray ss = true := fun w h => hts w ((by decide +kernel : ∀ w ∈ wsX20, w ∈ wsX2_playRound) w h)
  have hl := lv_entry [.ref (a 1)] (n := 4) (Nat.le_of_ble_eq_true rfl)
  rw [lg_entry_eq]
  generalize (lg_sl [.ref (a 1)] ++ List.replicate (4 - (lg_sl [.ref (a 1)]).length) Slot.unset).toArray = ls at hl ⊢
  have hl : lv_has ls 4 [(0, .ref (a 1))] := hl
  generalize hZ : MQ bel _ _ ss _ _ _ = Z
  refine lv_iconst (v := 1) hx hb dX2_playRound_0 (by decide) ?_
  refine lv_istore_n (lv' := [(1, .int (1)), (0, .ref (a 1))]) hx hb dX2_playRound_1 rfl hl (by decide) rfl (fun ls hl => ?_)
  have L1 : ∀ (n1 k1 : Nat), k1 + n1 = 5 → ∀ (H : Heap) (locs : List Loc) (ls : Array Slot), va_P D vwCl (GW a cI cJ p nu de eq am (plN p am nx (k1)) oA oD oE oP cR aR hR cl ad gw pr n) H → va_D A (GW a cI cJ p nu de eq am (plN p am nx (k1)) oA oD oE oP cR aR hR cl ad gw pr n) → va_S A ss.heap H locs → lv_has ls 4 [(1, .int (nI (k1 + 1))), (0, .ref (a 1))] → W pp ll ee rmX2_playRound ss mm (([.ref (a 1)] : List Value).toArray) bel mth cd H locs 0 0 Z (F0 mm 2 ls []) := by
    intro n1
    induction n1 with
    | zero =>
      intro k1 hk1  H locs ls hP hD hS hl
      have hk1b : 5 = k1 := by omega
      subst hk1b
      refine lv_iload_n hx hb dX2_playRound_2 rfl (lv_at hl 0 rfl) ?_
      refine lv_bipush (v := 6) hx hb dX2_playRound_3 (by decide) ?_
      refine lv_icmp_ge (tgt := 60) hx hb dX2_playRound_5 (by decide) (fun c_1 => ?_) (fun c_1 => ?_)
      · have n_1 : (6) ≤ (5 + 1) := (nI_leI (a := 6) (b := 5 + 1) (by omega) (by omega)).mp c_1
        refine lv_iconst (v := 1) hx hb dX2_playRound_60 (by decide) ?_
        refine lv_istore_n (lv' := [(1, .int (1)), (0, .ref (a 1))]) hx hb dX2_playRound_61 rfl hl (by decide) rfl (fun ls hl => ?_)
        have L2 : ∀ (n2 k2 : Nat), k2 + n2 = 5 → ∀ (H : Heap) (locs : List Loc) (ls : Array Slot), va_P D vwCl (GW a cI cJ p nu de eq (plA am (plN p am nx 5) (k2)) (plN p am nx (5)) oA oD oE oP cR aR hR cl ad gw pr n) H → va_D A (GW a cI cJ p nu de eq (plA am (plN p am nx 5) (k2)) (plN p am nx (5)) oA oD oE oP cR aR hR cl ad gw pr n) → va_S A ss.heap H locs → lv_has ls 4 [(1, .int (nI (k2 + 1))), (0, .ref (a 1))] → W pp ll ee rmX2_playRound ss mm (([.ref (a 1)] : List Value).toArray) bel mth cd H locs 0 0 Z (F0 mm 62 ls []) := by
          intro n2
          induction n2 with
          | zero =>
            intro k2 hk2  H locs ls hP hD hS hl
            have hk2b : 5 = k2 := by omega
            subst hk2b
            refine lv_iload_n hx hb dX2_playRound_62 rfl (lv_at hl 0 rfl) ?_
            refine lv_bipush (v := 6) hx hb dX2_playRound_63 (by decide) ?_
            refine lv_icmp_ge (tgt := 86) hx hb dX2_playRound_65 (by decide) (fun c_2 => ?_) (fun c_2 => ?_)
            · have n_2 : (6) ≤ (5 + 1) := (nI_leI (a := 6) (b := 5 + 1) (by omega) (by omega)).mp c_2
              have e_3 : plA am (plN p am nx 5) 5 = plA am (plN p am nx 5) (5) := by first | rfl | exact if_pos (by assumption) | exact if_neg (by assumption) | (simp only [n_1, n_2, Bool.false_eq_true, ↓reduceIte])
              have e_4 : plN p am nx 5 = plN p am nx (5) := by first | rfl | exact if_pos (by assumption) | exact if_neg (by assumption) | (simp only [n_1, n_2, Bool.false_eq_true, ↓reduceIte])
              subst hZ; exact W.vret hx hb hr (fun t ht hW => ⟨⟨(), rfl, trivial, (by rw [ht]; exact (by rw [e_3, e_4]; exact hP)), va_K.moved hW.alike hK, (by rw [e_3, e_4]; exact hD)⟩, hS.F ht⟩) hS.2.2 dX2_playRound_86
            · have n_2 : ¬ ((6) ≤ (5 + 1)) := fun h => c_2 ((nI_leI (a := 6) (b := 5 + 1) (by omega) (by omega)).mpr h)
              exfalso; omega
          | succ n2 ih2 =>
            intro k2 hk2  H locs ls hP hD hS hl
            have hk2b : k2 < 5 := by omega
            refine lv_iload_n hx hb dX2_playRound_62 rfl (lv_at hl 0 rfl) ?_
            refine lv_bipush (v := 6) hx hb dX2_playRound_63 (by decide) ?_
            refine lv_icmp_ge (tgt := 86) hx hb dX2_playRound_65 (by decide) (fun c_5 => ?_) (fun c_5 => ?_)
            · have n_5 : (6) ≤ (k2 + 1) := (nI_leI (a := 6) (b := k2 + 1) (by omega) (by omega)).mp c_5
              exfalso; omega
            · have n_5 : ¬ ((6) ≤ (k2 + 1)) := fun h => c_5 ((nI_leI (a := 6) (b := k2 + 1) (by omega) (by omega)).mpr h)
              refine lv_aload_n hx hb dX2_playRound_68 rfl (lv_at hl 1 rfl) ?_
              refine va_get (D := D) (ci := 2) (v := .ref (a 10)) (C := RX2) (T := TX2) (N := 6) (Ts := wsX20) hx hb hin (fun _ h9 => h9) hown hK hP 1 rfl rfl 4 (by decide) (hts (.fieldLink RX2 25 "Groupbooks$Holdings" "amounts" "[I") (by decide +kernel)) (fun _ h9 => h9) rfl dX2_playRound_69 ?_
              refine lv_iload_n hx hb dX2_playRound_72 rfl (lv_at hl 0 rfl) ?_
              refine lv_aload_n hx hb dX2_playRound_73 rfl (lv_at hl 1 rfl) ?_
              refine va_get (D := D) (ci := 2) (v := .ref (a 11)) (C := RX2) (T := TX2) (N := 6) (Ts := wsX20) hx hb hin (fun _ h9 => h9) hown hK hP 1 rfl rfl 5 (by decide) (hts (.fieldLink RX2 28 "Groupbooks$Holdings" "nextAmounts" "[I") (by decide +kernel)) (fun _ h9 => h9) rfl dX2_playRound_74 ?_
              refine lv_iload_n hx hb dX2_playRound_77 rfl (lv_at hl 0 rfl) ?_
              refine b_iald hx hb hK hP 11 0 (f := (plN p am nx (5))) rfl rfl (j := k2 + 1) (by omega) (by decide) dX2_playRound_78 ?_
              refine b_iast (w' := GW a cI cJ p nu de eq (upd (plA am (plN p am nx 5) (k2)) (k2 + 1) ((plN p am nx (5)) (k2 + 1))) (plN p am nx (5)) oA oD oE oP cR aR hR cl ad gw pr n) hx hb hK hP hD hS 10 0 (f := (plA am (plN p am nx 5) (k2))) rfl rfl (j := k2 + 1) (by omega) (by decide) rfl dX2_playRound_79 (fun H locs hP hD hS => ?_)
              refine lv_iinc (v := nI (k2 + 1 + 1)) (lv' := [(1, .int (nI (k2 + 1 + 1))), (0, .ref (a 1))]) hx hb dX2_playRound_80 hl (k := 0) rfl (nI_1 (k2 + 1)) (by decide) rfl (fun ls hl => ?_)
              refine lv_goto (tgt := 62) hx hb dX2_playRound_83 (by decide) ?_
              have e_6 : plA am (plN p am nx 5) (k2 + 1) = upd (plA am (plN p am nx 5) (k2)) (k2 + 1) ((plN p am nx (5)) (k2 + 1)) := by first | rfl | exact if_pos (by assumption) | exact if_neg (by assumption) | (simp only [n_1, n_5, Bool.false_eq_true, ↓reduceIte])
              exact ih2 (k2 + 1) (by omega) _ _ ls (by rw [e_6]; exact hP) (by rw [e_6]; exact hD) hS (lv_sub hl [0, 1] rfl)
        exact L2 (5) 0 (by omega) _ _ ls hP hD hS (lv_sub hl [0, 1] rfl)
      · have n_1 : ¬ ((6) ≤ (5 + 1)) := fun h => c_1 ((nI_leI (a := 6) (b := 5 + 1) (by omega) (by omega)).mpr h)
        exfalso; omega
    | succ n1 ih1 =>
      intro k1 hk1  H locs ls hP hD hS hl
      have hk1b : k1 < 5 := by omega
      refine lv_iload_n hx hb dX2_playRound_2 rfl (lv_at hl 0 rfl) ?_
      refine lv_bipush (v := 6) hx hb dX2_playRound_3 (by decide) ?_
      refine lv_icmp_ge (tgt := 60) hx hb dX2_playRound_5 (by decide) (fun c_7 => ?_) (fun c_7 => ?_)
      · have n_7 : (6) ≤ (k1 + 1) := (nI_leI (a := 6) (b := k1 + 1) (by omega) (by omega)).mp c_7
        exfalso; omega
      · have n_7 : ¬ ((6) ≤ (k1 + 1)) := fun h => c_7 ((nI_leI (a := 6) (b := k1 + 1) (by omega) (by omega)).mpr h)
        refine lv_iconst (v := 0) hx hb dX2_playRound_8 (by decide) ?_
        refine lv_istore_n (lv' := [(2, .int (0)), (1, .int (nI (k1 + 1))), (0, .ref (a 1))]) hx hb dX2_playRound_9 rfl hl (by decide) rfl (fun ls hl => ?_)
        refine lv_iconst (v := 0) hx hb dX2_playRound_10 (by decide) ?_
        refine lv_istore_n (lv' := [(3, .int (0)), (2, .int (0)), (1, .int (nI (k1 + 1))), (0, .ref (a 1))]) hx hb dX2_playRound_11 rfl hl (by decide) rfl (fun ls hl => ?_)
        have L3 : ∀ (n3 j3 : Nat), j3 + n3 = 6 → ∀ (H : Heap) (locs : List Loc) (ls : Array Slot), va_P D vwCl (GW a cI cJ p nu de eq am (plN p am nx (k1)) oA oD oE oP cR aR hR cl ad gw pr n) H → va_D A (GW a cI cJ p nu de eq am (plN p am nx (k1)) oA oD oE oP cR aR hR cl ad gw pr n) → va_S A ss.heap H locs → lv_has ls 4 [(3, .int (nI (j3))), (2, .int (sI (fun o => p (6 * o + (k1 + 1)) * am o) (j3))), (1, .int (nI (k1 + 1))), (0, .ref (a 1))] → W pp ll ee rmX2_playRound ss mm (([.ref (a 1)] : List Value).toArray) bel mth cd H locs 0 0 Z (F0 mm 12 ls []) := by
          intro n3
          induction n3 with
          | zero =>
            intro j3 hk3  H locs ls hP hD hS hl
            have hk3b : 6 = j3 := by omega
            subst hk3b
            refine lv_iload_n hx hb dX2_playRound_12 rfl (lv_at hl 0 rfl) ?_
            refine lv_bipush (v := 6) hx hb dX2_playRound_13 (by decide) ?_
            refine lv_icmp_ge (tgt := 44) hx hb dX2_playRound_15 (by decide) (fun c_8 => ?_) (fun c_8 => ?_)
            · have n_8 : (6) ≤ (6) := (nI_leI (a := 6) (b := 6) (by omega) (by omega)).mp c_8
              refine lv_aload_n hx hb dX2_playRound_44 rfl (lv_at hl 3 rfl) ?_
              refine va_get (D := D) (ci := 2) (v := .ref (a 11)) (C := RX2) (T := TX2) (N := 6) (Ts := wsX20) hx hb hin (fun _ h9 => h9) hown hK hP 1 rfl rfl 5 (by decide) (hts (.fieldLink RX2 28 "Groupbooks$Holdings" "nextAmounts" "[I") (by decide +kernel)) (fun _ h9 => h9) rfl dX2_playRound_45 ?_
              refine lv_iload_n hx hb dX2_playRound_48 rfl (lv_at hl 2 rfl) ?_
              refine lv_iload_n hx hb dX2_playRound_49 rfl (lv_at hl 1 rfl) ?_
              refine lv_bipush (v := 100) hx hb dX2_playRound_50 (by decide) ?_
              refine lv_idiv hx hb dX2_playRound_52 (by decide) ?_
              refine b_iast (w' := GW a cI cJ p nu de eq am (upd (plN p am nx (k1)) (k1 + 1) ((sI (fun o => p (6 * o + (k1 + 1)) * am o) (6)) / (100))) oA oD oE oP cR aR hR cl ad gw pr n) hx hb hK hP hD hS 11 0 (f := (plN p am nx (k1))) rfl rfl (j := k1 + 1) (by omega) (by decide) rfl dX2_playRound_53 (fun H locs hP hD hS => ?_)
              refine lv_iinc (v := nI (k1 + 1 + 1)) (lv' := [(1, .int (nI (k1 + 1 + 1))), (3, .int (nI (6))), (2, .int (sI (fun o => p (6 * o + (k1 + 1)) * am o) (6))), (0, .ref (a 1))]) hx hb dX2_playRound_54 hl (k := 2) rfl (nI_1 (k1 + 1)) (by decide) rfl (fun ls hl => ?_)
              refine lv_goto (tgt := 2) hx hb dX2_playRound_57 (by decide) ?_
              have e_9 : plN p am nx (k1 + 1) = upd (plN p am nx (k1)) (k1 + 1) ((sI (fun o => p (6 * o + (k1 + 1)) * am o) (6)) / (100)) := by first | rfl | exact if_pos (by assumption) | exact if_neg (by assumption) | (simp only [n_7, n_8, Bool.false_eq_true, ↓reduceIte])
              exact ih1 (k1 + 1) (by omega) _ _ ls (by rw [e_9]; exact hP) (by rw [e_9]; exact hD) hS (lv_sub hl [0, 3] rfl)
            · have n_8 : ¬ ((6) ≤ (6)) := fun h => c_8 ((nI_leI (a := 6) (b := 6) (by omega) (by omega)).mpr h)
              exfalso; omega
          | succ n3 ih3 =>
            intro j3 hk3  H locs ls hP hD hS hl
            have hk3b : j3 < 6 := by omega
            refine lv_iload_n hx hb dX2_playRound_12 rfl (lv_at hl 0 rfl) ?_
            refine lv_bipush (v := 6) hx hb dX2_playRound_13 (by decide) ?_
            refine lv_icmp_ge (tgt := 44) hx hb dX2_playRound_15 (by decide) (fun c_10 => ?_) (fun c_10 => ?_)
            · have n_10 : (6) ≤ (j3) := (nI_leI (a := 6) (b := j3) (by omega) (by omega)).mp c_10
              exfalso; omega
            · have n_10 : ¬ ((6) ≤ (j3)) := fun h => c_10 ((nI_leI (a := 6) (b := j3) (by omega) (by omega)).mpr h)
              refine lv_iload_n hx hb dX2_playRound_18 rfl (lv_at hl 1 rfl) ?_
              refine lv_aload_n hx hb dX2_playRound_19 rfl (lv_at hl 3 rfl) ?_
              refine va_get (D := D) (ci := 2) (v := .ref (a 6)) (C := RX2) (T := TX2) (N := 6) (Ts := wsX20) hx hb hin (fun _ h9 => h9) hown hK hP 1 rfl rfl 0 (by decide) (hts (.fieldLink RX2 9 "Groupbooks$Holdings" "percents" "[I") (by decide +kernel)) (fun _ h9 => h9) rfl dX2_playRound_20 ?_
              refine lv_iload_n hx hb dX2_playRound_23 rfl (lv_at hl 0 rfl) ?_
              refine lv_iload_n hx hb dX2_playRound_24 rfl (lv_at hl 2 rfl) ?_
              refine b_csi (v := nI (6 * j3 + (k1 + 1))) ((va_runSN (As := [.int (nI (j3)), .int (nI (k1 + 1))]) (rest := [.ref (a 6), .int (sI (fun o => p (6 * o + (k1 + 1)) * am o) (j3))]) ⟨hx, hb, hml, hown, hts⟩ (c_X3_pair ll j3 (k1 + 1) ) ⟨va_cnB 2 hts gX2_playRound_X3_pair_n31 rfl rfl rfl (hE.nest 5 rfl) (hts (.initialized RX3) (by decide +kernel)) (by decide +kernel) ⟨Nat.le_of_ble_eq_true rfl, Nat.le_of_ble_eq_true rfl⟩, hts (.static yX3_pair) (by decide +kernel), trivial⟩ ⟨PT.blind, PT.to⟩ rfl rfl hl.1 rfl (lv_room (Nat.le_of_ble_eq_true rfl)) dX2_playRound_25 ⟨Nat.le_of_ble_eq_true rfl, Nat.le_of_ble_eq_true rfl⟩).run) ?_
              refine b_iald hx hb hK hP 6 0 (f := p) rfl rfl (j := 6 * j3 + (k1 + 1)) (by omega) (by decide) dX2_playRound_28 ?_
              refine lv_aload_n hx hb dX2_playRound_29 rfl (lv_at hl 3 rfl) ?_
              refine va_get (D := D) (ci := 2) (v := .ref (a 10)) (C := RX2) (T := TX2) (N := 6) (Ts := wsX20) hx hb hin (fun _ h9 => h9) hown hK hP 1 rfl rfl 4 (by decide) (hts (.fieldLink RX2 25 "Groupbooks$Holdings" "amounts" "[I") (by decide +kernel)) (fun _ h9 => h9) rfl dX2_playRound_30 ?_
              refine lv_iload_n hx hb dX2_playRound_33 rfl (lv_at hl 0 rfl) ?_
              refine b_iald hx hb hK hP 10 0 (f := am) rfl rfl (j := j3) (by omega) (by decide) dX2_playRound_34 ?_
              refine lv_imul hx hb dX2_playRound_35 ?_
              refine lv_iadd hx hb dX2_playRound_36 ?_
              refine lv_istore_n (lv' := [(2, .int ((sI (fun o => p (6 * o + (k1 + 1)) * am o) (j3)) + ((p (6 * j3 + (k1 + 1))) * (am (j3))))), (3, .int (nI (j3))), (1, .int (nI (k1 + 1))), (0, .ref (a 1))]) hx hb dX2_playRound_37 rfl hl (by decide) rfl (fun ls hl => ?_)
              refine lv_iinc (v := nI (j3 + 1)) (lv' := [(3, .int (nI (j3 + 1))), (2, .int ((sI (fun o => p (6 * o + (k1 + 1)) * am o) (j3)) + ((p (6 * j3 + (k1 + 1))) * (am (j3))))), (1, .int (nI (k1 + 1))), (0, .ref (a 1))]) hx hb dX2_playRound_38 hl (k := 1) rfl (nI_1 (j3)) (by decide) rfl (fun ls hl => ?_)
              refine lv_goto (tgt := 12) hx hb dX2_playRound_41 (by decide) ?_
              have e_11 : sI (fun o => p (6 * o + (k1 + 1)) * am o) (j3 + 1) = (sI (fun o => p (6 * o + (k1 + 1)) * am o) (j3)) + ((p (6 * j3 + (k1 + 1))) * (am (j3))) := by first | rfl | exact if_pos (by assumption) | exact if_neg (by assumption) | (simp only [n_7, n_10, Bool.false_eq_true, ↓reduceIte])
              exact ih3 (j3 + 1) (by omega) _ _ ls hP hD hS (by rw [e_11]; exact lv_sub hl [0, 1, 2, 3] rfl)
        exact L3 (6) 0 (by omega) _ _ ls hP hD hS (lv_sub hl [0, 1, 2, 3] rfl)
  exact L1 (5) 0 (by omega) _ _ ls hP hD hS (lv_sub hl [0, 1] rfl)

abbrev rmX2_millionthsAfter : Room := ({ frames := 2, cells := 0, slots := 0, locals := 44 } : Room)
set_option maxHeartbeats 4000000 in
set_option maxRecDepth 100000 in
theorem c_X2_millionthsAfter (ll : Launch) (D : va_G) (a : Nat → Nat) (cI cJ : ClassId) (sz : Nat) (p : Nat → Int32) (nu de eq : Nat → Int64) (am nx oA oD oE oP cR aR hR cl ad gw pr : Nat → Int32) (n : Int32) (nr c : Nat) (hn : nr ≤ 200) (hc : c < 6) : Met ll yX2_millionthsAfter wsX2_millionthsAfter rmX2_millionthsAfter (va_Pc [.ref (a 1), .int (nI (nr)), .int (nI (c))] (PW D (tyG cI cJ) (GW a cI cJ p nu de eq am nx oA oD oE oP cR aR hR cl ad gw pr n) sz)) (va_Qi (fun (rr : Int32) (u : Unit) => rr = (mr p am nx nr).1 c) (fun (u : Unit) t => AW D (tyG cI cJ) (va_A (GW a cI cJ p nu de eq am nx oA oD oE oP cR aR hR cl ad gw pr n) sz) (GW a cI cJ p nu de eq ((mr p am nx nr).1) ((mr p am nx nr).2) oA oD oE oP cR aR hR cl ad gw pr n) t) (va_A (GW a cI cJ p nu de eq am nx oA oD oE oP cR aR hR cl ad gw pr n) sz)) 0 0 (va_A (GW a cI cJ p nu de eq am nx oA oD oE oP cR aR hR cl ad gw pr n) sz) := by
  refine Met.ofW (cc := cX2_millionthsAfter) (maxL := 4) (ret := (some .int)) (by decide) rfl ?_
  intro pp ee ss mm ar bel mth cd s₁ B hml hv
  obtain ⟨rfl, hsz, hP, hK, hD0, hE⟩ := hv
  have hx := B.exec
  have hb := B.bytes
  have hr := B.returns
  have hts := atoms_spec (ws := wsX2_millionthsAfter) B.pre
  have hown : ss.vm.findClass RX2 = some mm.cls := findClass_of_methodNamed B.named
  have hlocks := B.notSynchronized
  subst hsz
  have hD := hD0.self (sz := ss.heap.size)
  generalize hAe : va_A (GW a cI cJ p nu de eq am nx oA oD oE oP cR aR hR cl ad gw pr n) ss.heap.size = A at hD ⊢
  have hA : ∀ q : Nat, ss.heap.size ≤ q → A q := fun q h => by rw [← hAe]; exact Or.inr h
  have hS : va_S A ss.heap ss.heap [] := va_S.rf
  have hin : ∀ w ∈ wsX20, w.before ([.ref (a 1), .int (nI (nr)), .int (nI (c))] : List Value).toArray ss = true := fun w h => hts w ((by decide +kernel : ∀ w ∈ wsX20, w ∈ wsX2_millionthsAfter) w h)
  have hl := lv_entry [.ref (a 1), .int (nI (nr)), .int (nI (c))] (n := 4) (Nat.le_of_ble_eq_true rfl)
  rw [lg_entry_eq]
  generalize (lg_sl [.ref (a 1), .int (nI (nr)), .int (nI (c))] ++ List.replicate (4 - (lg_sl [.ref (a 1), .int (nI (nr)), .int (nI (c))]).length) Slot.unset).toArray = ls at hl ⊢
  have hl : lv_has ls 4 [(0, .ref (a 1)), (1, .int (nI (nr))), (2, .int (nI (c)))] := hl
  generalize hZ : MQ bel _ _ ss _ _ _ = Z
  refine lv_iconst (v := 0) hx hb dX2_millionthsAfter_0 (by decide) ?_
  refine lv_istore_n (lv' := [(3, .int (0)), (0, .ref (a 1)), (1, .int (nI (nr))), (2, .int (nI (c)))]) hx hb dX2_millionthsAfter_1 rfl hl (by decide) rfl (fun ls hl => ?_)
  have L1 : ∀ (n1 k1 : Nat), k1 + n1 = 6 → ∀ (H : Heap) (locs : List Loc) (ls : Array Slot), va_P D vwCl (GW a cI cJ p nu de eq (miA am (k1)) nx oA oD oE oP cR aR hR cl ad gw pr n) H → va_D A (GW a cI cJ p nu de eq (miA am (k1)) nx oA oD oE oP cR aR hR cl ad gw pr n) → va_S A ss.heap H locs → lv_has ls 4 [(3, .int (nI (k1))), (0, .ref (a 1)), (1, .int (nI (nr))), (2, .int (nI (c)))] → W pp ll ee rmX2_millionthsAfter ss mm (([.ref (a 1), .int (nI (nr)), .int (nI (c))] : List Value).toArray) bel mth cd H locs 0 0 Z (F0 mm 2 ls []) := by
    intro n1
    induction n1 with
    | zero =>
      intro k1 hk1  H locs ls hP hD hS hl
      have hk1b : 6 = k1 := by omega
      subst hk1b
      refine lv_iload_n hx hb dX2_millionthsAfter_2 rfl (lv_at hl 0 rfl) ?_
      refine lv_bipush (v := 6) hx hb dX2_millionthsAfter_3 (by decide) ?_
      refine lv_icmp_ge (tgt := 30) hx hb dX2_millionthsAfter_5 (by decide) (fun c_1 => ?_) (fun c_1 => ?_)
      · have n_1 : (6) ≤ (6) := (nI_leI (a := 6) (b := 6) (by omega) (by omega)).mp c_1
        refine lv_iconst (v := 0) hx hb dX2_millionthsAfter_30 (by decide) ?_
        refine lv_istore_n (lv' := [(3, .int (0)), (0, .ref (a 1)), (1, .int (nI (nr))), (2, .int (nI (c)))]) hx hb dX2_millionthsAfter_31 rfl hl (by decide) rfl (fun ls hl => ?_)
        have L2 : ∀ (n2 j2 : Nat), j2 + n2 = nr → ∀ (H : Heap) (locs : List Loc) (ls : Array Slot), va_P D vwCl (GW a cI cJ p nu de eq ((mr p am nx (j2)).1) ((mr p am nx (j2)).2) oA oD oE oP cR aR hR cl ad gw pr n) H → va_D A (GW a cI cJ p nu de eq ((mr p am nx (j2)).1) ((mr p am nx (j2)).2) oA oD oE oP cR aR hR cl ad gw pr n) → va_S A ss.heap H locs → lv_has ls 4 [(3, .int (nI (j2))), (0, .ref (a 1)), (1, .int (nI (nr))), (2, .int (nI (c)))] → W pp ll ee rmX2_millionthsAfter ss mm (([.ref (a 1), .int (nI (nr)), .int (nI (c))] : List Value).toArray) bel mth cd H locs 0 0 Z (F0 mm 32 ls []) := by
          intro n2
          induction n2 with
          | zero =>
            intro j2 hk2  H locs ls hP hD hS hl
            have hk2b : nr = j2 := by omega
            subst hk2b
            refine lv_iload_n hx hb dX2_millionthsAfter_32 rfl (lv_at hl 0 rfl) ?_
            refine lv_iload_n hx hb dX2_millionthsAfter_33 rfl (lv_at hl 2 rfl) ?_
            refine lv_icmp_ge (tgt := 47) hx hb dX2_millionthsAfter_34 (by decide) (fun c_2 => ?_) (fun c_2 => ?_)
            · have n_2 : (nr) ≤ (nr) := (nI_leI (a := nr) (b := nr) (by omega) (by omega)).mp c_2
              refine lv_aload_n hx hb dX2_millionthsAfter_47 rfl (lv_at hl 1 rfl) ?_
              refine va_get (D := D) (ci := 2) (v := .ref (a 10)) (C := RX2) (T := TX2) (N := 6) (Ts := wsX20) hx hb hin (fun _ h9 => h9) hown hK hP 1 rfl rfl 4 (by decide) (hts (.fieldLink RX2 25 "Groupbooks$Holdings" "amounts" "[I") (by decide +kernel)) (fun _ h9 => h9) rfl dX2_millionthsAfter_48 ?_
              refine lv_iload_n hx hb dX2_millionthsAfter_51 rfl (lv_at hl 3 rfl) ?_
              refine b_iald hx hb hK hP 10 0 (f := ((mr p am nx (nr)).1)) rfl rfl (j := c) (by omega) (by decide) dX2_millionthsAfter_52 ?_
              have e_3 : (mr p am nx nr).1 = (mr p am nx (nr)).1 := by first | rfl | exact if_pos (by assumption) | exact if_neg (by assumption) | (simp only [mr, n_1, n_2, Bool.false_eq_true, ↓reduceIte])
              have e_4 : (mr p am nx nr).2 = (mr p am nx (nr)).2 := by first | rfl | exact if_pos (by assumption) | exact if_neg (by assumption) | (simp only [mr, n_1, n_2, Bool.false_eq_true, ↓reduceIte])
              subst hZ; exact W.iret hx hb hr (fun t ht hW => ⟨⟨_, (), rfl, rfl, (by rw [ht]; exact (by rw [e_3, e_4]; exact hP)), va_K.moved hW.alike hK, (by rw [e_3, e_4]; exact hD)⟩, hS.F ht⟩) hS.2.2 dX2_millionthsAfter_53
            · have n_2 : ¬ ((nr) ≤ (nr)) := fun h => c_2 ((nI_leI (a := nr) (b := nr) (by omega) (by omega)).mpr h)
              exfalso; omega
          | succ n2 ih2 =>
            intro j2 hk2  H locs ls hP hD hS hl
            have hk2b : j2 < nr := by omega
            refine lv_iload_n hx hb dX2_millionthsAfter_32 rfl (lv_at hl 0 rfl) ?_
            refine lv_iload_n hx hb dX2_millionthsAfter_33 rfl (lv_at hl 2 rfl) ?_
            refine lv_icmp_ge (tgt := 47) hx hb dX2_millionthsAfter_34 (by decide) (fun c_5 => ?_) (fun c_5 => ?_)
            · have n_5 : (nr) ≤ (j2) := (nI_leI (a := nr) (b := j2) (by omega) (by omega)).mp c_5
              exfalso; omega
            · have n_5 : ¬ ((nr) ≤ (j2)) := fun h => c_5 ((nI_leI (a := nr) (b := j2) (by omega) (by omega)).mpr h)
              refine lv_aload_n hx hb dX2_millionthsAfter_37 rfl (lv_at hl 1 rfl) ?_
              refine b_callv0 (S := Unit) (w' := fun u => GW a cI cJ p nu de eq (plA ((mr p am nx (j2)).1) (plN p ((mr p am nx (j2)).1) ((mr p am nx (j2)).2) 5) 5) (plN p ((mr p am nx (j2)).1) ((mr p am nx (j2)).2) 5) oA oD oE oP cR aR hR cl ad gw pr n) hP hD hS hA (va_runV (As := []) (rest := []) ⟨hx, hb, hml, hown, hts⟩ (c_X2_playRound ll D a cI cJ _ p nu de eq ((mr p am nx (j2)).1) ((mr p am nx (j2)).2) oA oD oE oP cR aR hR cl ad gw pr n  ) (cwV 0 hts gX2_millionthsAfter_X2_playRound rfl rfl rfl (by decide +kernel) ⟨Nat.le_of_ble_eq_true rfl, Nat.le_of_ble_eq_true rfl⟩) ⟨PW.blind, va_recv hK hP (ci := 2) (q0 := 1) rfl rfl, PW.go hP hK hD hE⟩ rfl rfl hl.1 rfl (lv_room (Nat.le_of_ble_eq_true rfl)) dX2_millionthsAfter_38 ⟨Nat.le_of_ble_eq_true rfl, Nat.le_of_ble_eq_true rfl⟩) (fun u H locs h_6 hP hD hS => ?_)
              refine lv_iinc (v := nI (j2 + 1)) (lv' := [(3, .int (nI (j2 + 1))), (0, .ref (a 1)), (1, .int (nI (nr))), (2, .int (nI (c)))]) hx hb dX2_millionthsAfter_41 hl (k := 0) rfl (nI_1 (j2)) (by decide) rfl (fun ls hl => ?_)
              refine lv_goto (tgt := 32) hx hb dX2_millionthsAfter_44 (by decide) ?_
              have e_7 : (mr p am nx (j2 + 1)).1 = plA ((mr p am nx (j2)).1) (plN p ((mr p am nx (j2)).1) ((mr p am nx (j2)).2) 5) 5 := by first | rfl | exact if_pos (by assumption) | exact if_neg (by assumption) | (simp only [n_1, n_5, Bool.false_eq_true, ↓reduceIte])
              have e_8 : (mr p am nx (j2 + 1)).2 = plN p ((mr p am nx (j2)).1) ((mr p am nx (j2)).2) 5 := by first | rfl | exact if_pos (by assumption) | exact if_neg (by assumption) | (simp only [n_1, n_5, Bool.false_eq_true, ↓reduceIte])
              exact ih2 (j2 + 1) (by omega) _ _ ls (by rw [e_7, e_8]; exact hP) (by rw [e_7, e_8]; exact hD) hS (lv_sub hl [0, 1, 2, 3] rfl)
        exact L2 (nr) 0 (by omega) _ _ ls hP hD hS (lv_sub hl [0, 1, 2, 3] rfl)
      · have n_1 : ¬ ((6) ≤ (6)) := fun h => c_1 ((nI_leI (a := 6) (b := 6) (by omega) (by omega)).mpr h)
        exfalso; omega
    | succ n1 ih1 =>
      intro k1 hk1  H locs ls hP hD hS hl
      have hk1b : k1 < 6 := by omega
      refine lv_iload_n hx hb dX2_millionthsAfter_2 rfl (lv_at hl 0 rfl) ?_
      refine lv_bipush (v := 6) hx hb dX2_millionthsAfter_3 (by decide) ?_
      refine lv_icmp_ge (tgt := 30) hx hb dX2_millionthsAfter_5 (by decide) (fun c_9 => ?_) (fun c_9 => ?_)
      · have n_9 : (6) ≤ (k1) := (nI_leI (a := 6) (b := k1) (by omega) (by omega)).mp c_9
        exfalso; omega
      · have n_9 : ¬ ((6) ≤ (k1)) := fun h => c_9 ((nI_leI (a := 6) (b := k1) (by omega) (by omega)).mpr h)
        refine lv_aload_n hx hb dX2_millionthsAfter_8 rfl (lv_at hl 1 rfl) ?_
        refine va_get (D := D) (ci := 2) (v := .ref (a 10)) (C := RX2) (T := TX2) (N := 6) (Ts := wsX20) hx hb hin (fun _ h9 => h9) hown hK hP 1 rfl rfl 4 (by decide) (hts (.fieldLink RX2 25 "Groupbooks$Holdings" "amounts" "[I") (by decide +kernel)) (fun _ h9 => h9) rfl dX2_millionthsAfter_9 ?_
        refine lv_iload_n hx hb dX2_millionthsAfter_12 rfl (lv_at hl 0 rfl) ?_
        refine lv_iload_n hx hb dX2_millionthsAfter_13 rfl (lv_at hl 0 rfl) ?_
        refine lv_if_ne (tgt := 22) hx hb dX2_millionthsAfter_14 (by decide) (fun c_10 => ?_) (fun c_10 => ?_)
        · have n_10 : ¬ ((k1) = (0)) := fun h => c_10 ((nI_eq (a := k1) (b := 0) (by omega) (by omega)).mpr h)
          refine lv_iconst (v := 0) hx hb dX2_millionthsAfter_22 (by decide) ?_
          refine b_iast (w' := GW a cI cJ p nu de eq (upd (miA am (k1)) (k1) (0)) nx oA oD oE oP cR aR hR cl ad gw pr n) hx hb hK hP hD hS 10 0 (f := (miA am (k1))) rfl rfl (j := k1) (by omega) (by decide) rfl dX2_millionthsAfter_23 (fun H locs hP hD hS => ?_)
          refine lv_iinc (v := nI (k1 + 1)) (lv' := [(3, .int (nI (k1 + 1))), (0, .ref (a 1)), (1, .int (nI (nr))), (2, .int (nI (c)))]) hx hb dX2_millionthsAfter_24 hl (k := 0) rfl (nI_1 (k1)) (by decide) rfl (fun ls hl => ?_)
          refine lv_goto (tgt := 2) hx hb dX2_millionthsAfter_27 (by decide) ?_
          have e_11 : miA am (k1 + 1) = upd (miA am (k1)) (k1) (0) := by first | rfl | exact if_pos (by assumption) | exact if_neg (by assumption) | (simp only [miA, n_9, n_10, Bool.false_eq_true, ↓reduceIte])
          exact ih1 (k1 + 1) (by omega) _ _ ls (by rw [e_11]; exact hP) (by rw [e_11]; exact hD) hS (lv_sub hl [0, 1, 2, 3] rfl)
        · have n_10 : (k1) = (0) := (nI_eq (a := k1) (b := 0) (by omega) (by omega)).mp c_10
          refine lv_ldc (v := 1000000) hx hb hown (hts (.constant RX2 73 (1000000)) (by decide +kernel)) dX2_millionthsAfter_17 ?_
          refine lv_goto (tgt := 23) hx hb dX2_millionthsAfter_19 (by decide) ?_
          refine b_iast (w' := GW a cI cJ p nu de eq (upd (miA am (k1)) (k1) ((1000000))) nx oA oD oE oP cR aR hR cl ad gw pr n) hx hb hK hP hD hS 10 0 (f := (miA am (k1))) rfl rfl (j := k1) (by omega) (by decide) rfl dX2_millionthsAfter_23 (fun H locs hP hD hS => ?_)
          refine lv_iinc (v := nI (k1 + 1)) (lv' := [(3, .int (nI (k1 + 1))), (0, .ref (a 1)), (1, .int (nI (nr))), (2, .int (nI (c)))]) hx hb dX2_millionthsAfter_24 hl (k := 0) rfl (nI_1 (k1)) (by decide) rfl (fun ls hl => ?_)
          refine lv_goto (tgt := 2) hx hb dX2_millionthsAfter_27 (by decide) ?_
          have e_12 : miA am (k1 + 1) = upd (miA am (k1)) (k1) ((1000000)) := by first | rfl | exact if_pos (by assumption) | exact if_neg (by assumption) | (simp only [miA, n_9, n_10, Bool.false_eq_true, ↓reduceIte])
          exact ih1 (k1 + 1) (by omega) _ _ ls (by rw [e_12]; exact hP) (by rw [e_12]; exact hD) hS (lv_sub hl [0, 1, 2, 3] rfl)
  exact L1 (6) 0 (by omega) _ _ ls hP hD hS (lv_sub hl [0, 1, 2, 3] rfl)
end
section
def inB (v lo hi : Int32) : Bool := if v < lo then false else if hi < v then false else true
def prB (x y : Int32) : Bool := if inB x 0 5 = true then (if inB y 0 5 = true then (if x = y then false else true) else false) else false
theorem inB_c : ∀ c, c < 6 → inB (nI c) 0 5 = true := by decide
theorem prB_c : ∀ o, o < 6 → ∀ c, c < 6 → o ≠ c → prB (nI o) (nI c) = true := by decide
end
section
theorem D_nil {A : Nat → Prop} : va_D A ([] : va_W) := ⟨fun i j p q h => by simp at h, fun k q h => by simp at h⟩
theorem P_nil {D : va_G} {cl : List vw_C} {H : Heap} : va_P D cl ([] : va_W) H := fun k q h => by simp at h
def XEA {S : Type} (D : va_G) (tys : List (ClassId × FieldType)) (A : Nat → Prop) (w' : S → va_W) (E0 : String) : String → State → State → Prop := vx_X (fun _ : S => True) (fun E u t => E = E0 ∧ AW D tys A (w' u) t) A
def DCL (U : State) : Prop := va_Nw (.declares ⟨"java/lang/RuntimeException", "<init>", "(Ljava/lang/String;)V"⟩) U ∧ va_Nw (.declares ⟨"java/lang/Exception", "<init>", "(Ljava/lang/String;)V"⟩) U ∧ va_Nw (.declares ⟨"java/lang/Throwable", "<init>", "(Ljava/lang/String;)V"⟩) U
theorem DCL.warm {s U : State} (hW : s.WarmedH U.vm) (h : DCL s) : DCL U := ⟨va_Nw.warmD hW h.1, va_Nw.warmD hW h.2.1, va_Nw.warmD hW h.2.2⟩
theorem DCL.calling {U : State} {g : JFrame} {mk : MethodId} {a : Array Value} (h : DCL U) : DCL (U.calling g mk a) := ⟨va_Nw.same rfl rfl h.1, va_Nw.same rfl rfl h.2.1, va_Nw.same rfl rfl h.2.2⟩
def PY (D : va_G) (tys : List (ClassId × FieldType)) (ws : va_W) (sz : Nat) (U : State) : Prop := PX D tys ws sz U ∧ DCL U
theorem PY.blind {av : List Value} {D : va_G} {tys : List (ClassId × FieldType)} {ws : va_W} {sz : Nat} : FrameBlind (va_Pc av (PY D tys ws sz)) := fun a U g mk h =>
  ⟨h.1, (PX.blind a U g mk ⟨h.1, h.2.1⟩).2, h.2.2.calling⟩
theorem PY.go0 {av : List Value} {D : va_G} {tys : List (ClassId × FieldType)} {s : State} {H : Heap} {A : Nat → Prop} {locs : List Loc} (hK : va_K D vwCl tys s) (hE : EVt s) (hV : EVh A s s.heap) (hDC : DCL s) (hS : va_S A s.heap H locs) (hA : ∀ q, s.heap.size ≤ q → A q) :
    ∀ U : State, U.heap = H → s.WarmedH U.vm → va_Pc av (PY D [] [] H.size) av.toArray U := fun U hU hW =>
  ⟨rfl, ⟨by rw [hU], P_nil, va_K.moved hW.alike (hK.sub [] rfl), D_nil, hE.warm hW, by rw [hU]; exact hV.to hS (A_in (ws := []) D_nil hS hA) hW.alike⟩, hDC.warm hW⟩
section GX
variable {p : Program} {l : Launch} {e : Env} {R : Room} {s : State} {m : MethodId} {args : Array Value} {below : List Frame} {meth : Method} {c : Code} {H : Heap} {locs : List Loc} {Q : State → Prop}
variable {cc : ByteArray} {pc : Nat} {ls : Array Slot} {rest st0 : List Value} {D : va_G} {A : Nat → Prop} {tys : List (ClassId × FieldType)} {ws : va_W} {av : Array Value} {Qc : Array Value → State → Outcome → State → Prop}
theorem b_throw {S : Type} {w' : S → va_W} (u0 : S) (hw : w' u0 = ws) (hexec : p.tables.exec = Jvm.exec) (hb : c.code = cc) (hl : l.stackTraces = false) {own cls text : String} {ik is ic sa : Nat}
    (hown : s.vm.findClass own = some m.cls) (hcls : Bundle.fit cls = true)
    (hk : (Cond.classLink own ik cls).before args s = true) (hini : (Cond.initialized cls).before args s = true) (hstr : vk_R own is text sa s) (hat : ∀ w ∈ vx_atS own ic cls ["java/lang/RuntimeException", "java/lang/Exception"], w.before args s = true)
    (hgood : ∀ w ∈ Cond.classLink own ik cls :: Cond.initialized cls :: vx_atS own ic cls ["java/lang/RuntimeException", "java/lang/Exception"], vx_ot w = true)
    (hP : va_P D vwCl ws H) (hK : va_K D vwCl tys s) (hD : va_D A ws) (hV : EVh A s s.heap) (hS : va_S A s.heap H locs) (hsize : ls.size = c.maxLocals)
    (d0 : decode cc pc = .ok (.new ik, 3)) (d3 : decode cc (pc + 3) = .ok (.dup, 1)) (d4 : decode cc (pc + 4) = .ok (.ldc is, 2)) (d6 : decode cc (pc + 6) = .ok (.invokespecial ic, 3)) (d9 : decode cc (pc + 9) = .ok (.athrow, 1))
    (hno : ∀ x ∈ c.exceptionTable.toList, False)
    (hRf : 5 < R.frames) (hRl : 82 ≤ R.locals) (hRc : 0 + 1 ≤ R.cells) (hRs : 0 + 6 ≤ R.slots) (hlocks : meth.locks = false) :
    W p l e R s m args below meth c H locs 0 0 (vx_MQ below Qc (XEA D tys A w' cls) args s 1 6 A) (F0 m pc ls []) := by
  subst hw
  exact vx_throwS (names := ["java/lang/RuntimeException", "java/lang/Exception"]) hexec hb hl hown hcls (by decide +kernel) hk hini hstr hat hgood hV.1 hV.2 hS hsize d0 d3 d4 d6 d9 (fun x h => (hno x h).elim) hRf hRl hRc hRs hlocks
    (fun t hal hsz hsame => ⟨u0, trivial, ⟨rfl, hP.kept (fun k q hk => hsame q.1 (hP k q hk).lt), va_K.moved hal hK, hD⟩, Nat.le_trans hS.1 hsz, fun q h1 h2 => (hsame q (Nat.lt_of_lt_of_le h1 hS.1)).trans (hS.2.1 q h1 h2)⟩)
    hS.2.2 (Nat.le_refl _) (Nat.le_refl _)
theorem b_bad {S : Type} {w' : S → va_W} (u0 : S) (hw : w' u0 = ws) {E0 : String} (hno : ∀ x ∈ c.exceptionTable.toList, False) (hlocks : meth.locks = false) (hP : va_P D vwCl ws H) (hK : va_K D vwCl tys s) (hD : va_D A ws) (hS : va_S A s.heap H locs) (hA : ∀ q, s.heap.size ≤ q → A q)
    (hr : vx_Run p l e R s m args below meth c H locs 0 0 1 6 (F0 m pc ls st0) rest (va_Qv (fun _ : Unit => False) (fun _ _ => True) (va_A [] H.size) av) (XEA D [] (va_A [] H.size) (fun _ : Unit => []) E0) (va_A [] H.size)) :
    W p l e R s m args below meth c H locs 0 0 (vx_MQ below Qc (XEA D tys A w' E0) args s 1 6 A) (F0 m pc ls st0) := by
  subst hw
  have hA0 : ∀ q, q < H.size → va_A [] H.size q → A q := fun q h1 h2 => by
    rcases h2 with ⟨k, e, h⟩ | h
    · simp at h
    · omega
  have hf : ∀ q, va_A [] H.size q → A q := A_in (ws := []) D_nil hS hA
  have hn : ∀ q, q < H.size → ¬ va_A [] H.size q := fun q h1 h2 => by
    rcases h2 with ⟨k, e, h⟩ | h
    · simp at h
    · omega
  refine vx_callv (A0 := A) (A1 := va_A [] H.size) hr hS hA0 hf hA0 (fun E ce q9 u t H1 locs1 ht hvm hp hB hz1 hk1 hS1 hce hcv hcl => ?_) (fun u t H1 locs1 ht hvm hw => hw.elim)
  obtain ⟨rfl, -⟩ := hB
  refine vx_out (fun x h => (hno x h).elim) hlocks hce hcv hcl (fun t' ht' hal' => ⟨u0, trivial, ⟨rfl, ?_, va_K.moved hal' hK, hD⟩, ?_, ?_⟩) hS1.2.2 (Nat.le_refl _) (Nat.le_refl _)
  · rw [ht']
    exact hP.kept (fun k q hk => hk1 q.1 (hP k q hk).lt (hn q.1 (hP k q hk).lt))
  · rw [ht']; exact hS1.1
  · intro q h1 h2
    rw [ht']; exact hS1.2.1 q h1 h2
end GX
theorem inB_lo {v lo hi : Int32} (h : inB v lo hi = true) : ¬ v < lo := by
  intro hc; rw [inB, if_pos hc] at h; cases h
theorem inB_hi {v lo hi : Int32} (h : inB v lo hi = true) : v ≤ hi := by
  rw [inB, if_neg (inB_lo h)] at h
  by_cases hc : hi < v
  · rw [if_pos hc] at h; cases h
  · exact Int32.not_lt.mp hc
theorem inB_of {v lo hi : Int32} (h1 : ¬ v < lo) (h2 : v ≤ hi) : inB v lo hi = true := by
  rw [inB, if_neg h1, if_neg (Int32.not_lt.mpr h2)]
theorem prB_1 {x y : Int32} (h : prB x y = true) : inB x 0 5 = true := by
  unfold prB at h; split at h
  · assumption
  · cases h
theorem prB_2 {x y : Int32} (h : prB x y = true) : inB y 0 5 = true := by
  rw [prB, if_pos (prB_1 h)] at h; split at h
  · assumption
  · cases h
theorem prB_3 {x y : Int32} (h : prB x y = true) : ¬ x = y := by
  intro e; have h1 := prB_1 h; have h2 := prB_2 h; rw [prB, if_pos h1, if_pos h2, if_pos e] at h; cases h
theorem prB_of {x y : Int32} (h1 : inB x 0 5 = true) (h2 : inB y 0 5 = true) (h3 : ¬ x = y) : prB x y = true := by
  rw [prB, if_pos h1, if_pos h2, if_neg h3]
end
section
abbrev rmX3_requireRange_ok : Room := ({ frames := 0, cells := 0, slots := 0, locals := 0 } : Room)
set_option maxHeartbeats 4000000 in
set_option maxRecDepth 100000 in
theorem c_X3_requireRange_ok (ll : Launch) (v lo hi : Int32) (hin : inB v lo hi = true) : Met ll yX3_requireRange wsX3_requireRange rmX3_requireRange_ok (va_Pc [.int (v), .int (lo), .int (hi)] (fun _ => True)) (va_Sv (fun _ => True)) 0 0 (fun _ => False) := by
  refine Met.ofW (cc := cX3_requireRange) (maxL := 3) (ret := none) (by decide) rfl ?_
  intro pp ee ss mm ar bel mth cde s₁ B hml hv
  obtain ⟨rfl, -⟩ := hv
  have hx := B.exec
  have hb := B.bytes
  have hr := B.returns
  have hts := atoms_spec (ws := wsX3_requireRange) B.pre
  have hown : ss.vm.findClass RX3 = some mm.cls := findClass_of_methodNamed B.named
  have hlocks := B.notSynchronized
  have hl := lv_entry [.int (v), .int (lo), .int (hi)] (n := 3) (Nat.le_of_ble_eq_true rfl)
  rw [lg_entry_eq]
  generalize (lg_sl [.int (v), .int (lo), .int (hi)] ++ List.replicate (3 - (lg_sl [.int (v), .int (lo), .int (hi)]).length) Slot.unset).toArray = ls at hl ⊢
  have hl : lv_has ls 3 [(0, .int (v)), (1, .int (lo)), (2, .int (hi))] := hl
  refine lv_iload_n hx hb dX3_requireRange_0 rfl (lv_at hl 0 rfl) ?_
  refine lv_iload_n hx hb dX3_requireRange_1 rfl (lv_at hl 1 rfl) ?_
  refine lv_icmp_lt (tgt := 10) hx hb dX3_requireRange_2 (by decide) (fun c_1 => ?_) (fun c_1 => ?_)
  · have n_1 := c_1
    exact absurd n_1 (inB_lo hin)
  · have n_1 := c_1
    refine lv_iload_n hx hb dX3_requireRange_5 rfl (lv_at hl 0 rfl) ?_
    refine lv_iload_n hx hb dX3_requireRange_6 rfl (lv_at hl 2 rfl) ?_
    refine lv_icmp_le (tgt := 20) hx hb dX3_requireRange_7 (by decide) (fun c_2 => ?_) (fun c_2 => ?_)
    · have n_2 := c_2
      exact W.vret hx hb hr (fun t ht _ => ⟨rfl, trivial, ht⟩) (fun _ h => nomatch h) dX3_requireRange_20
    · have n_2 := c_2
      exact absurd (inB_hi hin) n_2

abbrev rmX3_requireRange_bad : Room := ({ frames := 6, cells := 1, slots := 6, locals := 82 } : Room)
set_option maxHeartbeats 4000000 in
set_option maxRecDepth 100000 in
theorem c_X3_requireRange_bad (ll : Launch) (hst : ll.stackTraces = false) (D : va_G) (sz : Nat) (v lo hi : Int32) (hbad : ¬ inB v lo hi = true) : vx_Met ll yX3_requireRange wsX3_requireRange rmX3_requireRange_bad (va_Pc [.int (v), .int (lo), .int (hi)] (PY D [] (([] : va_W)) sz)) (va_Qv (fun (_ : Unit) => False) (fun _ _ => True) (va_A (([] : va_W)) sz)) (XEA D [] (va_A (([] : va_W)) sz) (fun u : Unit => ([] : va_W)) RIA) 1 6 (va_A (([] : va_W)) sz) := by
  refine vx_ofW (cc := cX3_requireRange) (maxL := 3) (ret := none) (by decide) rfl ?_
  intro pp ee ss mm ar bel mth cde s₁ B hml hno hv
  obtain ⟨rfl, ⟨hsz, hP, hK, hD0, hE, hV⟩, hDC⟩ := hv
  have hx := B.exec
  have hb := B.bytes
  have hr := B.returns
  have hts := atoms_spec (ws := wsX3_requireRange) B.pre
  have hown : ss.vm.findClass RX3 = some mm.cls := findClass_of_methodNamed B.named
  have hlocks := B.notSynchronized
  subst hsz
  have hD := hD0.self (sz := ss.heap.size)
  generalize hAe : va_A (([] : va_W)) ss.heap.size = A at hD hV ⊢
  have hA : ∀ q : Nat, ss.heap.size ≤ q → A q := fun q h => by rw [← hAe]; exact Or.inr h
  have hS : va_S A ss.heap ss.heap [] := va_S.rf
  have hl := lv_entry [.int (v), .int (lo), .int (hi)] (n := 3) (Nat.le_of_ble_eq_true rfl)
  rw [lg_entry_eq]
  generalize (lg_sl [.int (v), .int (lo), .int (hi)] ++ List.replicate (3 - (lg_sl [.int (v), .int (lo), .int (hi)]).length) Slot.unset).toArray = ls at hl ⊢
  have hl : lv_has ls 3 [(0, .int (v)), (1, .int (lo)), (2, .int (hi))] := hl
  refine lv_iload_n hx hb dX3_requireRange_0 rfl (lv_at hl 0 rfl) ?_
  refine lv_iload_n hx hb dX3_requireRange_1 rfl (lv_at hl 1 rfl) ?_
  refine lv_icmp_lt (tgt := 10) hx hb dX3_requireRange_2 (by decide) (fun c_1 => ?_) (fun c_1 => ?_)
  · have n_1 := c_1
    obtain ⟨sa, hstr⟩ := hE.2.2.2.1
    refine b_throw (S := Unit) (own := RX3) (cls := RIA) (text := "argument out of range") (ik := 155) (is := 165) (ic := 159) (sa := sa) () rfl hx hb hst hown (by decide +kernel) (hts (.classLink RX3 155 RIA) (List.mem_cons_of_mem _ (by first | exact List.mem_append_left _ (List.mem_of_getElem? (i := 0) rfl) | decide +kernel))) (hts (.initialized RIA) (List.mem_cons_of_mem _ (by first | exact List.mem_append_left _ (List.mem_of_getElem? (i := 1) rfl) | decide +kernel))) hstr (vx_hat (B := [.castable RIA RIA, .declares ⟨"java/lang/RuntimeException", "<init>", "(Ljava/lang/String;)V"⟩, .declares ⟨"java/lang/Exception", "<init>", "(Ljava/lang/String;)V"⟩, .declares ⟨"java/lang/Throwable", "<init>", "(Ljava/lang/String;)V"⟩]) (fun w h => hts w (List.mem_cons_of_mem _ (List.mem_append_right _ h))) (by decide +kernel) (vx_c (va_Nw.use rfl hE.2.1) (vx_c (va_Nw.use rfl hDC.1) (vx_c (va_Nw.use rfl hDC.2.1) (vx_c (va_Nw.use rfl hDC.2.2) vx_n))))) (by decide +kernel) hP hK hD hV hS (hl.1.trans hml.symm) dX3_requireRange_10 dX3_requireRange_13 dX3_requireRange_14 dX3_requireRange_16 dX3_requireRange_19 hno (Nat.le_of_ble_eq_true rfl) (Nat.le_of_ble_eq_true rfl) (Nat.le_of_ble_eq_true rfl) (Nat.le_of_ble_eq_true rfl) hlocks
  · have n_1 := c_1
    refine lv_iload_n hx hb dX3_requireRange_5 rfl (lv_at hl 0 rfl) ?_
    refine lv_iload_n hx hb dX3_requireRange_6 rfl (lv_at hl 2 rfl) ?_
    refine lv_icmp_le (tgt := 20) hx hb dX3_requireRange_7 (by decide) (fun c_2 => ?_) (fun c_2 => ?_)
    · have n_2 := c_2
      exact absurd (inB_of n_1 n_2) hbad
    · have n_2 := c_2
      obtain ⟨sa, hstr⟩ := hE.2.2.2.1
      refine b_throw (S := Unit) (own := RX3) (cls := RIA) (text := "argument out of range") (ik := 155) (is := 165) (ic := 159) (sa := sa) () rfl hx hb hst hown (by decide +kernel) (hts (.classLink RX3 155 RIA) (List.mem_cons_of_mem _ (by first | exact List.mem_append_left _ (List.mem_of_getElem? (i := 0) rfl) | decide +kernel))) (hts (.initialized RIA) (List.mem_cons_of_mem _ (by first | exact List.mem_append_left _ (List.mem_of_getElem? (i := 1) rfl) | decide +kernel))) hstr (vx_hat (B := [.castable RIA RIA, .declares ⟨"java/lang/RuntimeException", "<init>", "(Ljava/lang/String;)V"⟩, .declares ⟨"java/lang/Exception", "<init>", "(Ljava/lang/String;)V"⟩, .declares ⟨"java/lang/Throwable", "<init>", "(Ljava/lang/String;)V"⟩]) (fun w h => hts w (List.mem_cons_of_mem _ (List.mem_append_right _ h))) (by decide +kernel) (vx_c (va_Nw.use rfl hE.2.1) (vx_c (va_Nw.use rfl hDC.1) (vx_c (va_Nw.use rfl hDC.2.1) (vx_c (va_Nw.use rfl hDC.2.2) vx_n))))) (by decide +kernel) hP hK hD hV hS (hl.1.trans hml.symm) dX3_requireRange_10 dX3_requireRange_13 dX3_requireRange_14 dX3_requireRange_16 dX3_requireRange_19 hno (Nat.le_of_ble_eq_true rfl) (Nat.le_of_ble_eq_true rfl) (Nat.le_of_ble_eq_true rfl) (Nat.le_of_ble_eq_true rfl) hlocks

abbrev rmX3_requireCompany_ok : Room := ({ frames := 1, cells := 0, slots := 0, locals := 22 } : Room)
set_option maxHeartbeats 4000000 in
set_option maxRecDepth 100000 in
theorem c_X3_requireCompany_ok (ll : Launch) (v : Int32) (hin : inB v 0 5 = true) : Met ll yX3_requireCompany wsX3_requireCompany rmX3_requireCompany_ok (va_Pc [.int (v)] (fun _ => True)) (va_Sv (fun _ => True)) 0 0 (fun _ => False) := by
  refine Met.ofW (cc := cX3_requireCompany) (maxL := 1) (ret := none) (by decide) rfl ?_
  intro pp ee ss mm ar bel mth cde s₁ B hml hv
  obtain ⟨rfl, -⟩ := hv
  have hx := B.exec
  have hb := B.bytes
  have hr := B.returns
  have hts := atoms_spec (ws := wsX3_requireCompany) B.pre
  have hown : ss.vm.findClass RX3 = some mm.cls := findClass_of_methodNamed B.named
  have hlocks := B.notSynchronized
  have hl := lv_entry [.int (v)] (n := 1) (Nat.le_of_ble_eq_true rfl)
  rw [lg_entry_eq]
  generalize (lg_sl [.int (v)] ++ List.replicate (1 - (lg_sl [.int (v)]).length) Slot.unset).toArray = ls at hl ⊢
  have hl : lv_has ls 1 [(0, .int (v))] := hl
  refine lv_iload_n hx hb dX3_requireCompany_0 rfl (lv_at hl 0 rfl) ?_
  refine lv_iconst (v := 0) hx hb dX3_requireCompany_1 (by decide) ?_
  refine lv_iconst (v := 5) hx hb dX3_requireCompany_2 (by decide) ?_
  refine va_csv (W.runS (As := [.int (v), .int (0), .int (5)]) (rest := []) ⟨hx, hb, hml, hown, hts⟩ (c_X3_requireRange_ok ll v 0 5 hin) (va_cwS 3 hts gX3_requireCompany_X3_requireRange rfl rfl rfl (by decide +kernel) ⟨Nat.le_of_ble_eq_true rfl, Nat.le_of_ble_eq_true rfl⟩) ⟨PT.blind, PT.to⟩ rfl rfl hl.1 rfl (lv_room (Nat.le_of_ble_eq_true rfl)) dX3_requireCompany_3 ⟨Nat.le_of_ble_eq_true rfl, Nat.le_of_ble_eq_true rfl⟩) (fun _ => ?_)
  exact W.vret hx hb hr (fun t ht _ => ⟨rfl, trivial, ht⟩) (fun _ h => nomatch h) dX3_requireCompany_6

abbrev rmX3_requireCompany_bad : Room := ({ frames := 7, cells := 1, slots := 6, locals := 104 } : Room)
set_option maxHeartbeats 4000000 in
set_option maxRecDepth 100000 in
theorem c_X3_requireCompany_bad (ll : Launch) (hst : ll.stackTraces = false) (D : va_G) (sz : Nat) (v : Int32) (hbad : ¬ inB v 0 5 = true) : vx_Met ll yX3_requireCompany wsX3_requireCompany rmX3_requireCompany_bad (va_Pc [.int (v)] (PY D [] (([] : va_W)) sz)) (va_Qv (fun (_ : Unit) => False) (fun _ _ => True) (va_A (([] : va_W)) sz)) (XEA D [] (va_A (([] : va_W)) sz) (fun u : Unit => ([] : va_W)) RIA) 1 6 (va_A (([] : va_W)) sz) := by
  refine vx_ofW (cc := cX3_requireCompany) (maxL := 1) (ret := none) (by decide) rfl ?_
  intro pp ee ss mm ar bel mth cde s₁ B hml hno hv
  obtain ⟨rfl, ⟨hsz, hP, hK, hD0, hE, hV⟩, hDC⟩ := hv
  have hx := B.exec
  have hb := B.bytes
  have hr := B.returns
  have hts := atoms_spec (ws := wsX3_requireCompany) B.pre
  have hown : ss.vm.findClass RX3 = some mm.cls := findClass_of_methodNamed B.named
  have hlocks := B.notSynchronized
  subst hsz
  have hD := hD0.self (sz := ss.heap.size)
  generalize hAe : va_A (([] : va_W)) ss.heap.size = A at hD hV ⊢
  have hA : ∀ q : Nat, ss.heap.size ≤ q → A q := fun q h => by rw [← hAe]; exact Or.inr h
  have hS : va_S A ss.heap ss.heap [] := va_S.rf
  have hl := lv_entry [.int (v)] (n := 1) (Nat.le_of_ble_eq_true rfl)
  rw [lg_entry_eq]
  generalize (lg_sl [.int (v)] ++ List.replicate (1 - (lg_sl [.int (v)]).length) Slot.unset).toArray = ls at hl ⊢
  have hl : lv_has ls 1 [(0, .int (v))] := hl
  refine lv_iload_n hx hb dX3_requireCompany_0 rfl (lv_at hl 0 rfl) ?_
  refine lv_iconst (v := 0) hx hb dX3_requireCompany_1 (by decide) ?_
  refine lv_iconst (v := 5) hx hb dX3_requireCompany_2 (by decide) ?_
  refine b_bad (S := Unit) () rfl hno hlocks hP hK hD hS hA (vx_runS (As := [.int (v), .int (0), .int (5)]) (rest := []) ⟨hx, hb, hml, hown, hts⟩ (c_X3_requireRange_bad ll hst D _ v 0 5 hbad) (va_cwS 3 hts gX3_requireCompany_X3_requireRange rfl rfl rfl (by decide +kernel) ⟨Nat.le_of_ble_eq_true rfl, Nat.le_of_ble_eq_true rfl⟩) ⟨PY.blind, PY.go0 hK hE hV hDC hS hA⟩ rfl rfl hl.1 rfl (lv_room (Nat.le_of_ble_eq_true rfl)) dX3_requireCompany_3 ⟨Nat.le_of_ble_eq_true rfl, Nat.le_of_ble_eq_true rfl⟩)

abbrev rmX3_requireTwoCompanies_ok : Room := ({ frames := 2, cells := 0, slots := 0, locals := 42 } : Room)
set_option maxHeartbeats 4000000 in
set_option maxRecDepth 100000 in
theorem c_X3_requireTwoCompanies_ok (ll : Launch) (x y : Int32) (hpr : prB x y = true) : Met ll yX3_requireTwoCompanies wsX3_requireTwoCompanies rmX3_requireTwoCompanies_ok (va_Pc [.int (x), .int (y)] (fun _ => True)) (va_Sv (fun _ => True)) 0 0 (fun _ => False) := by
  refine Met.ofW (cc := cX3_requireTwoCompanies) (maxL := 2) (ret := none) (by decide) rfl ?_
  intro pp ee ss mm ar bel mth cde s₁ B hml hv
  obtain ⟨rfl, -⟩ := hv
  have hx := B.exec
  have hb := B.bytes
  have hr := B.returns
  have hts := atoms_spec (ws := wsX3_requireTwoCompanies) B.pre
  have hown : ss.vm.findClass RX3 = some mm.cls := findClass_of_methodNamed B.named
  have hlocks := B.notSynchronized
  have hl := lv_entry [.int (x), .int (y)] (n := 2) (Nat.le_of_ble_eq_true rfl)
  rw [lg_entry_eq]
  generalize (lg_sl [.int (x), .int (y)] ++ List.replicate (2 - (lg_sl [.int (x), .int (y)]).length) Slot.unset).toArray = ls at hl ⊢
  have hl : lv_has ls 2 [(0, .int (x)), (1, .int (y))] := hl
  refine lv_iload_n hx hb dX3_requireTwoCompanies_0 rfl (lv_at hl 0 rfl) ?_
  refine va_csv (W.runS (As := [.int (x)]) (rest := []) ⟨hx, hb, hml, hown, hts⟩ (c_X3_requireCompany_ok ll x (prB_1 hpr)) (va_cwS 1 hts gX3_requireTwoCompanies_X3_requireCompany rfl rfl rfl (by decide +kernel) ⟨Nat.le_of_ble_eq_true rfl, Nat.le_of_ble_eq_true rfl⟩) ⟨PT.blind, PT.to⟩ rfl rfl hl.1 rfl (lv_room (Nat.le_of_ble_eq_true rfl)) dX3_requireTwoCompanies_1 ⟨Nat.le_of_ble_eq_true rfl, Nat.le_of_ble_eq_true rfl⟩) (fun _ => ?_)
  refine lv_iload_n hx hb dX3_requireTwoCompanies_4 rfl (lv_at hl 1 rfl) ?_
  refine va_csv (W.runS (As := [.int (y)]) (rest := []) ⟨hx, hb, hml, hown, hts⟩ (c_X3_requireCompany_ok ll y (prB_2 hpr)) (va_cwS 1 hts gX3_requireTwoCompanies_X3_requireCompany rfl rfl rfl (by decide +kernel) ⟨Nat.le_of_ble_eq_true rfl, Nat.le_of_ble_eq_true rfl⟩) ⟨PT.blind, PT.to⟩ rfl rfl hl.1 rfl (lv_room (Nat.le_of_ble_eq_true rfl)) dX3_requireTwoCompanies_5 ⟨Nat.le_of_ble_eq_true rfl, Nat.le_of_ble_eq_true rfl⟩) (fun _ => ?_)
  refine lv_iload_n hx hb dX3_requireTwoCompanies_8 rfl (lv_at hl 0 rfl) ?_
  refine lv_iload_n hx hb dX3_requireTwoCompanies_9 rfl (lv_at hl 1 rfl) ?_
  refine lv_icmp_ne (tgt := 23) hx hb dX3_requireTwoCompanies_10 (by decide) (fun c_1 => ?_) (fun c_1 => ?_)
  · have n_1 := c_1
    exact W.vret hx hb hr (fun t ht _ => ⟨rfl, trivial, ht⟩) (fun _ h => nomatch h) dX3_requireTwoCompanies_23
  · have n_1 := c_1
    exact absurd n_1 (prB_3 hpr)

abbrev rmX3_requireTwoCompanies_bad : Room := ({ frames := 8, cells := 1, slots := 6, locals := 124 } : Room)
set_option maxHeartbeats 4000000 in
set_option maxRecDepth 100000 in
theorem c_X3_requireTwoCompanies_bad (ll : Launch) (hst : ll.stackTraces = false) (D : va_G) (sz : Nat) (x y : Int32) (hbad : ¬ prB x y = true) : vx_Met ll yX3_requireTwoCompanies wsX3_requireTwoCompanies rmX3_requireTwoCompanies_bad (va_Pc [.int (x), .int (y)] (PY D [] (([] : va_W)) sz)) (va_Qv (fun (_ : Unit) => False) (fun _ _ => True) (va_A (([] : va_W)) sz)) (XEA D [] (va_A (([] : va_W)) sz) (fun u : Unit => ([] : va_W)) RIA) 1 6 (va_A (([] : va_W)) sz) := by
  refine vx_ofW (cc := cX3_requireTwoCompanies) (maxL := 2) (ret := none) (by decide) rfl ?_
  intro pp ee ss mm ar bel mth cde s₁ B hml hno hv
  obtain ⟨rfl, ⟨hsz, hP, hK, hD0, hE, hV⟩, hDC⟩ := hv
  have hx := B.exec
  have hb := B.bytes
  have hr := B.returns
  have hts := atoms_spec (ws := wsX3_requireTwoCompanies) B.pre
  have hown : ss.vm.findClass RX3 = some mm.cls := findClass_of_methodNamed B.named
  have hlocks := B.notSynchronized
  subst hsz
  have hD := hD0.self (sz := ss.heap.size)
  generalize hAe : va_A (([] : va_W)) ss.heap.size = A at hD hV ⊢
  have hA : ∀ q : Nat, ss.heap.size ≤ q → A q := fun q h => by rw [← hAe]; exact Or.inr h
  have hS : va_S A ss.heap ss.heap [] := va_S.rf
  have hl := lv_entry [.int (x), .int (y)] (n := 2) (Nat.le_of_ble_eq_true rfl)
  rw [lg_entry_eq]
  generalize (lg_sl [.int (x), .int (y)] ++ List.replicate (2 - (lg_sl [.int (x), .int (y)]).length) Slot.unset).toArray = ls at hl ⊢
  have hl : lv_has ls 2 [(0, .int (x)), (1, .int (y))] := hl
  refine lv_iload_n hx hb dX3_requireTwoCompanies_0 rfl (lv_at hl 0 rfl) ?_
  by_cases q_1 : inB x 0 5 = true
  · refine va_csv (W.runS (As := [.int (x)]) (rest := []) ⟨hx, hb, hml, hown, hts⟩ (c_X3_requireCompany_ok ll x q_1) (va_cwS 1 hts gX3_requireTwoCompanies_X3_requireCompany rfl rfl rfl (by decide +kernel) ⟨Nat.le_of_ble_eq_true rfl, Nat.le_of_ble_eq_true rfl⟩) ⟨PT.blind, PT.to⟩ rfl rfl hl.1 rfl (lv_room (Nat.le_of_ble_eq_true rfl)) dX3_requireTwoCompanies_1 ⟨Nat.le_of_ble_eq_true rfl, Nat.le_of_ble_eq_true rfl⟩) (fun _ => ?_)
    refine lv_iload_n hx hb dX3_requireTwoCompanies_4 rfl (lv_at hl 1 rfl) ?_
    by_cases q_2 : inB y 0 5 = true
    · refine va_csv (W.runS (As := [.int (y)]) (rest := []) ⟨hx, hb, hml, hown, hts⟩ (c_X3_requireCompany_ok ll y q_2) (va_cwS 1 hts gX3_requireTwoCompanies_X3_requireCompany rfl rfl rfl (by decide +kernel) ⟨Nat.le_of_ble_eq_true rfl, Nat.le_of_ble_eq_true rfl⟩) ⟨PT.blind, PT.to⟩ rfl rfl hl.1 rfl (lv_room (Nat.le_of_ble_eq_true rfl)) dX3_requireTwoCompanies_5 ⟨Nat.le_of_ble_eq_true rfl, Nat.le_of_ble_eq_true rfl⟩) (fun _ => ?_)
      refine lv_iload_n hx hb dX3_requireTwoCompanies_8 rfl (lv_at hl 0 rfl) ?_
      refine lv_iload_n hx hb dX3_requireTwoCompanies_9 rfl (lv_at hl 1 rfl) ?_
      refine lv_icmp_ne (tgt := 23) hx hb dX3_requireTwoCompanies_10 (by decide) (fun c_3 => ?_) (fun c_3 => ?_)
      · have n_3 := c_3
        exact absurd (prB_of q_1 q_2 n_3) hbad
      · have n_3 := c_3
        obtain ⟨sa, hstr⟩ := hE.2.2.2.2.1
        refine b_throw (S := Unit) (own := RX3) (cls := RIA) (text := "a company and itself") (ik := 155) (is := 163) (ic := 159) (sa := sa) () rfl hx hb hst hown (by decide +kernel) (hts (.classLink RX3 155 RIA) (List.mem_cons_of_mem _ (by first | exact List.mem_append_left _ (List.mem_of_getElem? (i := 0) rfl) | decide +kernel))) (hts (.initialized RIA) (List.mem_cons_of_mem _ (by first | exact List.mem_append_left _ (List.mem_of_getElem? (i := 1) rfl) | decide +kernel))) hstr (vx_hat (B := [.castable RIA RIA, .declares ⟨"java/lang/RuntimeException", "<init>", "(Ljava/lang/String;)V"⟩, .declares ⟨"java/lang/Exception", "<init>", "(Ljava/lang/String;)V"⟩, .declares ⟨"java/lang/Throwable", "<init>", "(Ljava/lang/String;)V"⟩]) (fun w h => hts w (List.mem_cons_of_mem _ (List.mem_append_right _ h))) (by decide +kernel) (vx_c (va_Nw.use rfl hE.2.1) (vx_c (va_Nw.use rfl hDC.1) (vx_c (va_Nw.use rfl hDC.2.1) (vx_c (va_Nw.use rfl hDC.2.2) vx_n))))) (by decide +kernel) hP hK hD hV hS (hl.1.trans hml.symm) dX3_requireTwoCompanies_13 dX3_requireTwoCompanies_16 dX3_requireTwoCompanies_17 dX3_requireTwoCompanies_19 dX3_requireTwoCompanies_22 hno (Nat.le_of_ble_eq_true rfl) (Nat.le_of_ble_eq_true rfl) (Nat.le_of_ble_eq_true rfl) (Nat.le_of_ble_eq_true rfl) hlocks
    · refine b_bad (S := Unit) () rfl hno hlocks hP hK hD hS hA (vx_runS (As := [.int (y)]) (rest := []) ⟨hx, hb, hml, hown, hts⟩ (c_X3_requireCompany_bad ll hst D _ y q_2) (va_cwS 1 hts gX3_requireTwoCompanies_X3_requireCompany rfl rfl rfl (by decide +kernel) ⟨Nat.le_of_ble_eq_true rfl, Nat.le_of_ble_eq_true rfl⟩) ⟨PY.blind, PY.go0 hK hE hV hDC hS hA⟩ rfl rfl hl.1 rfl (lv_room (Nat.le_of_ble_eq_true rfl)) dX3_requireTwoCompanies_5 ⟨Nat.le_of_ble_eq_true rfl, Nat.le_of_ble_eq_true rfl⟩)
  · refine b_bad (S := Unit) () rfl hno hlocks hP hK hD hS hA (vx_runS (As := [.int (x)]) (rest := []) ⟨hx, hb, hml, hown, hts⟩ (c_X3_requireCompany_bad ll hst D _ x q_1) (va_cwS 1 hts gX3_requireTwoCompanies_X3_requireCompany rfl rfl rfl (by decide +kernel) ⟨Nat.le_of_ble_eq_true rfl, Nat.le_of_ble_eq_true rfl⟩) ⟨PY.blind, PY.go0 hK hE hV hDC hS hA⟩ rfl rfl hl.1 rfl (lv_room (Nat.le_of_ble_eq_true rfl)) dX3_requireTwoCompanies_1 ⟨Nat.le_of_ble_eq_true rfl, Nat.le_of_ble_eq_true rfl⟩)
end
section
def mAm (oA oD cR : Nat → Int32) (nu de : Nat → Int64) (M c : Nat) : Int32 := if mB M c = true then scl (tr (oA c) (cR c) - tr (oD c) (cR c)) (de c - nu c) (de c) else 0
def caS (x r : Nat → Int32) (M : Nat) : Nat → Int32 | 0 => 0 | k + 1 => if mB M k = true then caS x r M k + tr (x k) (r k) else caS x r M k
def cmS (oA oD cR : Nat → Int32) (nu de : Nat → Int64) (M : Nat) : Nat → Int32 | 0 => 0 | k + 1 => cmS oA oD cR nu de M k + mAm oA oD cR nu de M k
def crS (oP aR : Nat → Int32) (nu de : Nat → Int64) (M : Nat) : Nat → Int32 | 0 => 0 | k + 1 => if mB M k = true then crS oP aR nu de M k + scl (tr (oP k) (aR k)) (nu k) (de k) else crS oP aR nu de M k
theorem inB_11 : ∀ j, j < 12 → inB (nI j) 0 11 = true := by decide
theorem rz_of {x : Int32} {z : Nat} (hz : z ≤ 12) (h : inB x 0 11 = true) (h2 : x < nI z) : inB x 0 (nI z - 1) = true := by
  refine inB_of (inB_lo h) ?_
  have h0 := Int32.not_lt.mp (inB_lo h)
  rw [Int32.le_iff_toInt_le] at h0 ⊢
  rw [Int32.lt_iff_toInt_lt, nI_toInt (by omega)] at h2
  have e0 : (0 : Int32).toInt = 0 := by decide
  rw [e0] at h0
  obtain ⟨y, rfl⟩ : ∃ y, z = y + 1 := ⟨z - 1, by omega⟩
  rw [nI_pred, nI_toInt (by omega)]
  omega
end
section
abbrev rmX3_held : Room := ({ frames := 2, cells := 0, slots := 0, locals := 43 } : Room)
set_option maxHeartbeats 4000000 in
set_option maxRecDepth 100000 in
theorem c_X3_held (ll : Launch) (D : va_G) (a : Nat → Nat) (cI cJ : ClassId) (p : Nat → Int32) (nu de eq : Nat → Int64) (am nx oA oD oE oP cR aR hR cl ad gw pr : Nat → Int32) (n : Int32) (o c : Nat) (ho : o < 6) (hc : c < 6) : Met ll yX3_held wsX3_held rmX3_held (va_Pc [.ref (a 0), .int (nI (o)), .int (nI (c))] (PR D (tyG cI cJ) (GW a cI cJ p nu de eq am nx oA oD oE oP cR aR hR cl ad gw pr n))) (vp_Si (fun rr => rr = p (6 * o + c))) 0 0 (fun _ => False) := by
  refine Met.ofW (cc := cX3_held) (maxL := 3) (ret := (some .int)) (by decide) rfl ?_
  intro pp ee ss mm ar bel mth cde s₁ B hml hv
  obtain ⟨rfl, hP, hK, hE⟩ := hv
  have hx := B.exec
  have hb := B.bytes
  have hr := B.returns
  have hts := atoms_spec (ws := wsX3_held) B.pre
  have hown : ss.vm.findClass RX3 = some mm.cls := findClass_of_methodNamed B.named
  have hlocks := B.notSynchronized
  have hin : ∀ w ∈ wsX30, w.before ([.ref (a 0), .int (nI (o)), .int (nI (c))] : List Value).toArray ss = true := fun w h => hts w ((by decide +kernel : ∀ w ∈ wsX30, w ∈ wsX3_held) w h)
  have hl := lv_entry [.ref (a 0), .int (nI (o)), .int (nI (c))] (n := 3) (Nat.le_of_ble_eq_true rfl)
  rw [lg_entry_eq]
  generalize (lg_sl [.ref (a 0), .int (nI (o)), .int (nI (c))] ++ List.replicate (3 - (lg_sl [.ref (a 0), .int (nI (o)), .int (nI (c))]).length) Slot.unset).toArray = ls at hl ⊢
  have hl : lv_has ls 3 [(0, .ref (a 0)), (1, .int (nI (o))), (2, .int (nI (c)))] := hl
  refine lv_iload_n hx hb dX3_held_0 rfl (lv_at hl 1 rfl) ?_
  refine va_csv (W.runS (As := [.int (nI (o))]) (rest := []) ⟨hx, hb, hml, hown, hts⟩ (c_X3_requireCompany_ok ll (nI (o)) (inB_c o ho)) (va_cwS 1 hts gX3_held_X3_requireCompany rfl rfl rfl (by decide +kernel) ⟨Nat.le_of_ble_eq_true rfl, Nat.le_of_ble_eq_true rfl⟩) ⟨PT.blind, PT.to⟩ rfl rfl hl.1 rfl (lv_room (Nat.le_of_ble_eq_true rfl)) dX3_held_1 ⟨Nat.le_of_ble_eq_true rfl, Nat.le_of_ble_eq_true rfl⟩) (fun _ => ?_)
  refine lv_iload_n hx hb dX3_held_4 rfl (lv_at hl 2 rfl) ?_
  refine va_csv (W.runS (As := [.int (nI (c))]) (rest := []) ⟨hx, hb, hml, hown, hts⟩ (c_X3_requireCompany_ok ll (nI (c)) (inB_c c hc)) (va_cwS 1 hts gX3_held_X3_requireCompany rfl rfl rfl (by decide +kernel) ⟨Nat.le_of_ble_eq_true rfl, Nat.le_of_ble_eq_true rfl⟩) ⟨PT.blind, PT.to⟩ rfl rfl hl.1 rfl (lv_room (Nat.le_of_ble_eq_true rfl)) dX3_held_5 ⟨Nat.le_of_ble_eq_true rfl, Nat.le_of_ble_eq_true rfl⟩) (fun _ => ?_)
  refine lv_aload_n hx hb dX3_held_8 rfl (lv_at hl 0 rfl) ?_
  refine va_get (D := D) (ci := 3) (v := .ref (a 1)) (C := RX3) (T := TX3) (N := 6) (Ts := wsX30) hx hb hin (fun _ h9 => h9) hown hK hP 0 rfl rfl 0 (by decide) (hts (.fieldLink RX3 10 "Groupbooks" "holdings" "LGroupbooks$Holdings;") (by decide +kernel)) (fun _ h9 => h9) rfl dX3_held_9 ?_
  refine lv_iload_n hx hb dX3_held_12 rfl (lv_at hl 1 rfl) ?_
  refine lv_iload_n hx hb dX3_held_13 rfl (lv_at hl 2 rfl) ?_
  refine b_csi (v := p (6 * o + c)) ((va_runVN (As := [.int (nI (o)), .int (nI (c))]) (rest := []) ⟨hx, hb, hml, hown, hts⟩ (c_X2_percentOf ll D a cI cJ p nu de eq am nx oA oD oE oP cR aR hR cl ad gw pr n o c (by omega) (by omega)) ⟨va_cnB 2 hts gX3_held_X2_percentOf_n49 rfl rfl rfl (hE.nest 15 rfl) (hts (.initialized RX2) (by decide +kernel)) (by decide +kernel) ⟨Nat.le_of_ble_eq_true rfl, Nat.le_of_ble_eq_true rfl⟩, hts (.instanceMethod yX2_percentOf) (by decide +kernel), hts (.selects RX2 yX2_percentOf yX2_percentOf) (by decide +kernel)⟩ ⟨PR.blind, va_recv hK hP (ci := 2) (q0 := 1) rfl rfl, PR.go hP hK hE⟩ rfl rfl hl.1 rfl (lv_room (Nat.le_of_ble_eq_true rfl)) dX3_held_14 ⟨Nat.le_of_ble_eq_true rfl, Nat.le_of_ble_eq_true rfl⟩).run) ?_
  exact W.iret hx hb hr (fun t ht _ => ⟨_, rfl, rfl, ht⟩) (fun _ h => nomatch h) dX3_held_17

abbrev rmX3_shareNumerator : Room := ({ frames := 2, cells := 0, slots := 0, locals := 42 } : Room)
set_option maxHeartbeats 4000000 in
set_option maxRecDepth 100000 in
theorem c_X3_shareNumerator (ll : Launch) (D : va_G) (a : Nat → Nat) (cI cJ : ClassId) (p : Nat → Int32) (nu de eq : Nat → Int64) (am nx oA oD oE oP cR aR hR cl ad gw pr : Nat → Int32) (n : Int32) (c : Nat) (hc : c < 6) : Met ll yX3_shareNumerator wsX3_shareNumerator rmX3_shareNumerator (va_Pc [.ref (a 0), .int (nI (c))] (PR D (tyG cI cJ) (GW a cI cJ p nu de eq am nx oA oD oE oP cR aR hR cl ad gw pr n))) (vp_Sl (fun rr => rr = nu c)) 0 0 (fun _ => False) := by
  refine Met.ofW (cc := cX3_shareNumerator) (maxL := 2) (ret := (some .long)) (by decide) rfl ?_
  intro pp ee ss mm ar bel mth cde s₁ B hml hv
  obtain ⟨rfl, hP, hK, hE⟩ := hv
  have hx := B.exec
  have hb := B.bytes
  have hr := B.returns
  have hts := atoms_spec (ws := wsX3_shareNumerator) B.pre
  have hown : ss.vm.findClass RX3 = some mm.cls := findClass_of_methodNamed B.named
  have hlocks := B.notSynchronized
  have hin : ∀ w ∈ wsX30, w.before ([.ref (a 0), .int (nI (c))] : List Value).toArray ss = true := fun w h => hts w ((by decide +kernel : ∀ w ∈ wsX30, w ∈ wsX3_shareNumerator) w h)
  have hl := lv_entry [.ref (a 0), .int (nI (c))] (n := 2) (Nat.le_of_ble_eq_true rfl)
  rw [lg_entry_eq]
  generalize (lg_sl [.ref (a 0), .int (nI (c))] ++ List.replicate (2 - (lg_sl [.ref (a 0), .int (nI (c))]).length) Slot.unset).toArray = ls at hl ⊢
  have hl : lv_has ls 2 [(0, .ref (a 0)), (1, .int (nI (c)))] := hl
  refine lv_iload_n hx hb dX3_shareNumerator_0 rfl (lv_at hl 1 rfl) ?_
  refine va_csv (W.runS (As := [.int (nI (c))]) (rest := []) ⟨hx, hb, hml, hown, hts⟩ (c_X3_requireCompany_ok ll (nI (c)) (inB_c c hc)) (va_cwS 1 hts gX3_shareNumerator_X3_requireCompany rfl rfl rfl (by decide +kernel) ⟨Nat.le_of_ble_eq_true rfl, Nat.le_of_ble_eq_true rfl⟩) ⟨PT.blind, PT.to⟩ rfl rfl hl.1 rfl (lv_room (Nat.le_of_ble_eq_true rfl)) dX3_shareNumerator_1 ⟨Nat.le_of_ble_eq_true rfl, Nat.le_of_ble_eq_true rfl⟩) (fun _ => ?_)
  refine lv_aload_n hx hb dX3_shareNumerator_4 rfl (lv_at hl 0 rfl) ?_
  refine va_get (D := D) (ci := 3) (v := .ref (a 1)) (C := RX3) (T := TX3) (N := 6) (Ts := wsX30) hx hb hin (fun _ h9 => h9) hown hK hP 0 rfl rfl 0 (by decide) (hts (.fieldLink RX3 10 "Groupbooks" "holdings" "LGroupbooks$Holdings;") (by decide +kernel)) (fun _ h9 => h9) rfl dX3_shareNumerator_5 ?_
  refine lv_iload_n hx hb dX3_shareNumerator_8 rfl (lv_at hl 1 rfl) ?_
  refine b_csl (v := nu (c)) ((va_runVN (As := [.int (nI (c))]) (rest := []) ⟨hx, hb, hml, hown, hts⟩ (c_X2_numeratorOf ll D a cI cJ p nu de eq am nx oA oD oE oP cR aR hR cl ad gw pr n c (by omega)) ⟨va_cnB 1 hts gX3_shareNumerator_X2_numeratorOf_n75 rfl rfl rfl (hE.nest 17 rfl) (hts (.initialized RX2) (by decide +kernel)) (by decide +kernel) ⟨Nat.le_of_ble_eq_true rfl, Nat.le_of_ble_eq_true rfl⟩, hts (.instanceMethod yX2_numeratorOf) (by decide +kernel), hts (.selects RX2 yX2_numeratorOf yX2_numeratorOf) (by decide +kernel)⟩ ⟨PR.blind, va_recv hK hP (ci := 2) (q0 := 1) rfl rfl, PR.go hP hK hE⟩ rfl rfl hl.1 rfl (lv_room (Nat.le_of_ble_eq_true rfl)) dX3_shareNumerator_9 ⟨Nat.le_of_ble_eq_true rfl, Nat.le_of_ble_eq_true rfl⟩).run) ?_
  exact W.lret hx hb hr (fun t ht _ => ⟨_, rfl, rfl, ht⟩) (fun _ h => nomatch h) dX3_shareNumerator_12

abbrev rmX3_shareDenominator : Room := ({ frames := 2, cells := 0, slots := 0, locals := 42 } : Room)
set_option maxHeartbeats 4000000 in
set_option maxRecDepth 100000 in
theorem c_X3_shareDenominator (ll : Launch) (D : va_G) (a : Nat → Nat) (cI cJ : ClassId) (p : Nat → Int32) (nu de eq : Nat → Int64) (am nx oA oD oE oP cR aR hR cl ad gw pr : Nat → Int32) (n : Int32) (c : Nat) (hc : c < 6) : Met ll yX3_shareDenominator wsX3_shareDenominator rmX3_shareDenominator (va_Pc [.ref (a 0), .int (nI (c))] (PR D (tyG cI cJ) (GW a cI cJ p nu de eq am nx oA oD oE oP cR aR hR cl ad gw pr n))) (vp_Sl (fun rr => rr = de c)) 0 0 (fun _ => False) := by
  refine Met.ofW (cc := cX3_shareDenominator) (maxL := 2) (ret := (some .long)) (by decide) rfl ?_
  intro pp ee ss mm ar bel mth cde s₁ B hml hv
  obtain ⟨rfl, hP, hK, hE⟩ := hv
  have hx := B.exec
  have hb := B.bytes
  have hr := B.returns
  have hts := atoms_spec (ws := wsX3_shareDenominator) B.pre
  have hown : ss.vm.findClass RX3 = some mm.cls := findClass_of_methodNamed B.named
  have hlocks := B.notSynchronized
  have hin : ∀ w ∈ wsX30, w.before ([.ref (a 0), .int (nI (c))] : List Value).toArray ss = true := fun w h => hts w ((by decide +kernel : ∀ w ∈ wsX30, w ∈ wsX3_shareDenominator) w h)
  have hl := lv_entry [.ref (a 0), .int (nI (c))] (n := 2) (Nat.le_of_ble_eq_true rfl)
  rw [lg_entry_eq]
  generalize (lg_sl [.ref (a 0), .int (nI (c))] ++ List.replicate (2 - (lg_sl [.ref (a 0), .int (nI (c))]).length) Slot.unset).toArray = ls at hl ⊢
  have hl : lv_has ls 2 [(0, .ref (a 0)), (1, .int (nI (c)))] := hl
  refine lv_iload_n hx hb dX3_shareDenominator_0 rfl (lv_at hl 1 rfl) ?_
  refine va_csv (W.runS (As := [.int (nI (c))]) (rest := []) ⟨hx, hb, hml, hown, hts⟩ (c_X3_requireCompany_ok ll (nI (c)) (inB_c c hc)) (va_cwS 1 hts gX3_shareDenominator_X3_requireCompany rfl rfl rfl (by decide +kernel) ⟨Nat.le_of_ble_eq_true rfl, Nat.le_of_ble_eq_true rfl⟩) ⟨PT.blind, PT.to⟩ rfl rfl hl.1 rfl (lv_room (Nat.le_of_ble_eq_true rfl)) dX3_shareDenominator_1 ⟨Nat.le_of_ble_eq_true rfl, Nat.le_of_ble_eq_true rfl⟩) (fun _ => ?_)
  refine lv_aload_n hx hb dX3_shareDenominator_4 rfl (lv_at hl 0 rfl) ?_
  refine va_get (D := D) (ci := 3) (v := .ref (a 1)) (C := RX3) (T := TX3) (N := 6) (Ts := wsX30) hx hb hin (fun _ h9 => h9) hown hK hP 0 rfl rfl 0 (by decide) (hts (.fieldLink RX3 10 "Groupbooks" "holdings" "LGroupbooks$Holdings;") (by decide +kernel)) (fun _ h9 => h9) rfl dX3_shareDenominator_5 ?_
  refine lv_iload_n hx hb dX3_shareDenominator_8 rfl (lv_at hl 1 rfl) ?_
  refine b_csl (v := de (c)) ((va_runVN (As := [.int (nI (c))]) (rest := []) ⟨hx, hb, hml, hown, hts⟩ (c_X2_denominatorOf ll D a cI cJ p nu de eq am nx oA oD oE oP cR aR hR cl ad gw pr n c (by omega)) ⟨va_cnB 1 hts gX3_shareDenominator_X2_denominatorOf_n79 rfl rfl rfl (hE.nest 18 rfl) (hts (.initialized RX2) (by decide +kernel)) (by decide +kernel) ⟨Nat.le_of_ble_eq_true rfl, Nat.le_of_ble_eq_true rfl⟩, hts (.instanceMethod yX2_denominatorOf) (by decide +kernel), hts (.selects RX2 yX2_denominatorOf yX2_denominatorOf) (by decide +kernel)⟩ ⟨PR.blind, va_recv hK hP (ci := 2) (q0 := 1) rfl rfl, PR.go hP hK hE⟩ rfl rfl hl.1 rfl (lv_room (Nat.le_of_ble_eq_true rfl)) dX3_shareDenominator_9 ⟨Nat.le_of_ble_eq_true rfl, Nat.le_of_ble_eq_true rfl⟩).run) ?_
  exact W.lret hx hb hr (fun t ht _ => ⟨_, rfl, rfl, ht⟩) (fun _ h => nomatch h) dX3_shareDenominator_12

abbrev rmX3_goodwill : Room := ({ frames := 2, cells := 0, slots := 0, locals := 42 } : Room)
set_option maxHeartbeats 4000000 in
set_option maxRecDepth 100000 in
theorem c_X3_goodwill (ll : Launch) (D : va_G) (a : Nat → Nat) (cI cJ : ClassId) (p : Nat → Int32) (nu de eq : Nat → Int64) (am nx oA oD oE oP cR aR hR cl ad gw pr : Nat → Int32) (n : Int32) (c : Nat) (hc : c < 6) : Met ll yX3_goodwill wsX3_goodwill rmX3_goodwill (va_Pc [.ref (a 0), .int (nI (c))] (PR D (tyG cI cJ) (GW a cI cJ p nu de eq am nx oA oD oE oP cR aR hR cl ad gw pr n))) (vp_Si (fun rr => rr = gw c)) 0 0 (fun _ => False) := by
  refine Met.ofW (cc := cX3_goodwill) (maxL := 2) (ret := (some .int)) (by decide) rfl ?_
  intro pp ee ss mm ar bel mth cde s₁ B hml hv
  obtain ⟨rfl, hP, hK, hE⟩ := hv
  have hx := B.exec
  have hb := B.bytes
  have hr := B.returns
  have hts := atoms_spec (ws := wsX3_goodwill) B.pre
  have hown : ss.vm.findClass RX3 = some mm.cls := findClass_of_methodNamed B.named
  have hlocks := B.notSynchronized
  have hin : ∀ w ∈ wsX30, w.before ([.ref (a 0), .int (nI (c))] : List Value).toArray ss = true := fun w h => hts w ((by decide +kernel : ∀ w ∈ wsX30, w ∈ wsX3_goodwill) w h)
  have hl := lv_entry [.ref (a 0), .int (nI (c))] (n := 2) (Nat.le_of_ble_eq_true rfl)
  rw [lg_entry_eq]
  generalize (lg_sl [.ref (a 0), .int (nI (c))] ++ List.replicate (2 - (lg_sl [.ref (a 0), .int (nI (c))]).length) Slot.unset).toArray = ls at hl ⊢
  have hl : lv_has ls 2 [(0, .ref (a 0)), (1, .int (nI (c)))] := hl
  refine lv_iload_n hx hb dX3_goodwill_0 rfl (lv_at hl 1 rfl) ?_
  refine va_csv (W.runS (As := [.int (nI (c))]) (rest := []) ⟨hx, hb, hml, hown, hts⟩ (c_X3_requireCompany_ok ll (nI (c)) (inB_c c hc)) (va_cwS 1 hts gX3_goodwill_X3_requireCompany rfl rfl rfl (by decide +kernel) ⟨Nat.le_of_ble_eq_true rfl, Nat.le_of_ble_eq_true rfl⟩) ⟨PT.blind, PT.to⟩ rfl rfl hl.1 rfl (lv_room (Nat.le_of_ble_eq_true rfl)) dX3_goodwill_1 ⟨Nat.le_of_ble_eq_true rfl, Nat.le_of_ble_eq_true rfl⟩) (fun _ => ?_)
  refine lv_aload_n hx hb dX3_goodwill_4 rfl (lv_at hl 0 rfl) ?_
  refine va_get (D := D) (ci := 3) (v := .ref (a 4)) (C := RX3) (T := TX3) (N := 6) (Ts := wsX30) hx hb hin (fun _ h9 => h9) hown hK hP 0 rfl rfl 3 (by decide) (hts (.fieldLink RX3 30 "Groupbooks" "goodwills" "[I") (by decide +kernel)) (fun _ h9 => h9) rfl dX3_goodwill_5 ?_
  refine lv_iload_n hx hb dX3_goodwill_8 rfl (lv_at hl 1 rfl) ?_
  refine b_iald hx hb hK hP 4 0 (f := gw) rfl rfl (j := c) (by omega) (by decide) dX3_goodwill_9 ?_
  exact W.iret hx hb hr (fun t ht _ => ⟨_, rfl, rfl, ht⟩) (fun _ h => nomatch h) dX3_goodwill_10

abbrev rmX3_netValue : Room := ({ frames := 4, cells := 0, slots := 0, locals := 85 } : Room)
set_option maxHeartbeats 4000000 in
set_option maxRecDepth 100000 in
theorem c_X3_netValue (ll : Launch) (D : va_G) (a : Nat → Nat) (cI cJ : ClassId) (p : Nat → Int32) (nu de eq : Nat → Int64) (am nx oA oD oE oP cR aR hR cl ad gw pr : Nat → Int32) (n : Int32) (c : Nat) (hc : c < 6) : Met ll yX3_netValue wsX3_netValue rmX3_netValue (va_Pc [.ref (a 0), .int (nI (c))] (PR D (tyG cI cJ) (GW a cI cJ p nu de eq am nx oA oD oE oP cR aR hR cl ad gw pr n))) (vp_Si (fun rr => rr = tr (oA c) (cR c) - tr (oD c) (cR c))) 0 0 (fun _ => False) := by
  refine Met.ofW (cc := cX3_netValue) (maxL := 2) (ret := (some .int)) (by decide) rfl ?_
  intro pp ee ss mm ar bel mth cde s₁ B hml hv
  obtain ⟨rfl, hP, hK, hE⟩ := hv
  have hx := B.exec
  have hb := B.bytes
  have hr := B.returns
  have hts := atoms_spec (ws := wsX3_netValue) B.pre
  have hown : ss.vm.findClass RX3 = some mm.cls := findClass_of_methodNamed B.named
  have hlocks := B.notSynchronized
  have hin : ∀ w ∈ wsX30, w.before ([.ref (a 0), .int (nI (c))] : List Value).toArray ss = true := fun w h => hts w ((by decide +kernel : ∀ w ∈ wsX30, w ∈ wsX3_netValue) w h)
  have hl := lv_entry [.ref (a 0), .int (nI (c))] (n := 2) (Nat.le_of_ble_eq_true rfl)
  rw [lg_entry_eq]
  generalize (lg_sl [.ref (a 0), .int (nI (c))] ++ List.replicate (2 - (lg_sl [.ref (a 0), .int (nI (c))]).length) Slot.unset).toArray = ls at hl ⊢
  have hl : lv_has ls 2 [(0, .ref (a 0)), (1, .int (nI (c)))] := hl
  refine lv_iload_n hx hb dX3_netValue_0 rfl (lv_at hl 1 rfl) ?_
  refine va_csv (W.runS (As := [.int (nI (c))]) (rest := []) ⟨hx, hb, hml, hown, hts⟩ (c_X3_requireCompany_ok ll (nI (c)) (inB_c c hc)) (va_cwS 1 hts gX3_netValue_X3_requireCompany rfl rfl rfl (by decide +kernel) ⟨Nat.le_of_ble_eq_true rfl, Nat.le_of_ble_eq_true rfl⟩) ⟨PT.blind, PT.to⟩ rfl rfl hl.1 rfl (lv_room (Nat.le_of_ble_eq_true rfl)) dX3_netValue_1 ⟨Nat.le_of_ble_eq_true rfl, Nat.le_of_ble_eq_true rfl⟩) (fun _ => ?_)
  refine lv_aload_n hx hb dX3_netValue_4 rfl (lv_at hl 0 rfl) ?_
  refine va_get (D := D) (ci := 3) (v := .ref (a 2)) (C := RX3) (T := TX3) (N := 6) (Ts := wsX30) hx hb hin (fun _ h9 => h9) hown hK hP 0 rfl rfl 1 (by decide) (hts (.fieldLink RX3 19 "Groupbooks" "books" "LGroupbooks$Books;") (by decide +kernel)) (fun _ h9 => h9) rfl dX3_netValue_5 ?_
  refine lv_iload_n hx hb dX3_netValue_8 rfl (lv_at hl 1 rfl) ?_
  refine b_csi (v := tr (oA c) (cR c) - tr (oD c) (cR c)) ((va_runVN (As := [.int (nI (c))]) (rest := []) ⟨hx, hb, hml, hown, hts⟩ (c_X1_netOf ll D a cI cJ p nu de eq am nx oA oD oE oP cR aR hR cl ad gw pr n c (by omega)) ⟨va_cnB 1 hts gX3_netValue_X1_netOf_n62 rfl rfl rfl (hE.nest 11 rfl) (hts (.initialized RX1) (by decide +kernel)) (by decide +kernel) ⟨Nat.le_of_ble_eq_true rfl, Nat.le_of_ble_eq_true rfl⟩, hts (.instanceMethod yX1_netOf) (by decide +kernel), hts (.selects RX1 yX1_netOf yX1_netOf) (by decide +kernel)⟩ ⟨PR.blind, va_recv hK hP (ci := 1) (q0 := 2) rfl rfl, PR.go hP hK hE⟩ rfl rfl hl.1 rfl (lv_room (Nat.le_of_ble_eq_true rfl)) dX3_netValue_9 ⟨Nat.le_of_ble_eq_true rfl, Nat.le_of_ble_eq_true rfl⟩).run) ?_
  exact W.iret hx hb hr (fun t ht _ => ⟨_, rfl, rfl, ht⟩) (fun _ h => nomatch h) dX3_netValue_12

abbrev rmX3_translatedEquity : Room := ({ frames := 3, cells := 0, slots := 0, locals := 64 } : Room)
set_option maxHeartbeats 4000000 in
set_option maxRecDepth 100000 in
theorem c_X3_translatedEquity (ll : Launch) (D : va_G) (a : Nat → Nat) (cI cJ : ClassId) (p : Nat → Int32) (nu de eq : Nat → Int64) (am nx oA oD oE oP cR aR hR cl ad gw pr : Nat → Int32) (n : Int32) (c : Nat) (hc : c < 6) : Met ll yX3_translatedEquity wsX3_translatedEquity rmX3_translatedEquity (va_Pc [.ref (a 0), .int (nI (c))] (PR D (tyG cI cJ) (GW a cI cJ p nu de eq am nx oA oD oE oP cR aR hR cl ad gw pr n))) (vp_Si (fun rr => rr = tr (oE c) (hR c))) 0 0 (fun _ => False) := by
  refine Met.ofW (cc := cX3_translatedEquity) (maxL := 2) (ret := (some .int)) (by decide) rfl ?_
  intro pp ee ss mm ar bel mth cde s₁ B hml hv
  obtain ⟨rfl, hP, hK, hE⟩ := hv
  have hx := B.exec
  have hb := B.bytes
  have hr := B.returns
  have hts := atoms_spec (ws := wsX3_translatedEquity) B.pre
  have hown : ss.vm.findClass RX3 = some mm.cls := findClass_of_methodNamed B.named
  have hlocks := B.notSynchronized
  have hin : ∀ w ∈ wsX30, w.before ([.ref (a 0), .int (nI (c))] : List Value).toArray ss = true := fun w h => hts w ((by decide +kernel : ∀ w ∈ wsX30, w ∈ wsX3_translatedEquity) w h)
  have hl := lv_entry [.ref (a 0), .int (nI (c))] (n := 2) (Nat.le_of_ble_eq_true rfl)
  rw [lg_entry_eq]
  generalize (lg_sl [.ref (a 0), .int (nI (c))] ++ List.replicate (2 - (lg_sl [.ref (a 0), .int (nI (c))]).length) Slot.unset).toArray = ls at hl ⊢
  have hl : lv_has ls 2 [(0, .ref (a 0)), (1, .int (nI (c)))] := hl
  refine lv_iload_n hx hb dX3_translatedEquity_0 rfl (lv_at hl 1 rfl) ?_
  refine va_csv (W.runS (As := [.int (nI (c))]) (rest := []) ⟨hx, hb, hml, hown, hts⟩ (c_X3_requireCompany_ok ll (nI (c)) (inB_c c hc)) (va_cwS 1 hts gX3_translatedEquity_X3_requireCompany rfl rfl rfl (by decide +kernel) ⟨Nat.le_of_ble_eq_true rfl, Nat.le_of_ble_eq_true rfl⟩) ⟨PT.blind, PT.to⟩ rfl rfl hl.1 rfl (lv_room (Nat.le_of_ble_eq_true rfl)) dX3_translatedEquity_1 ⟨Nat.le_of_ble_eq_true rfl, Nat.le_of_ble_eq_true rfl⟩) (fun _ => ?_)
  refine lv_aload_n hx hb dX3_translatedEquity_4 rfl (lv_at hl 0 rfl) ?_
  refine va_get (D := D) (ci := 3) (v := .ref (a 2)) (C := RX3) (T := TX3) (N := 6) (Ts := wsX30) hx hb hin (fun _ h9 => h9) hown hK hP 0 rfl rfl 1 (by decide) (hts (.fieldLink RX3 19 "Groupbooks" "books" "LGroupbooks$Books;") (by decide +kernel)) (fun _ h9 => h9) rfl dX3_translatedEquity_5 ?_
  refine lv_iload_n hx hb dX3_translatedEquity_8 rfl (lv_at hl 1 rfl) ?_
  refine b_csi (v := tr (oE c) (hR c)) ((va_runVN (As := [.int (nI (c))]) (rest := []) ⟨hx, hb, hml, hown, hts⟩ (c_X1_equityOf ll D a cI cJ p nu de eq am nx oA oD oE oP cR aR hR cl ad gw pr n c (by omega)) ⟨va_cnB 1 hts gX3_translatedEquity_X1_equityOf_n101 rfl rfl rfl (hE.nest 22 rfl) (hts (.initialized RX1) (by decide +kernel)) (by decide +kernel) ⟨Nat.le_of_ble_eq_true rfl, Nat.le_of_ble_eq_true rfl⟩, hts (.instanceMethod yX1_equityOf) (by decide +kernel), hts (.selects RX1 yX1_equityOf yX1_equityOf) (by decide +kernel)⟩ ⟨PR.blind, va_recv hK hP (ci := 1) (q0 := 2) rfl rfl, PR.go hP hK hE⟩ rfl rfl hl.1 rfl (lv_room (Nat.le_of_ble_eq_true rfl)) dX3_translatedEquity_9 ⟨Nat.le_of_ble_eq_true rfl, Nat.le_of_ble_eq_true rfl⟩).run) ?_
  exact W.iret hx hb hr (fun t ht _ => ⟨_, rfl, rfl, ht⟩) (fun _ h => nomatch h) dX3_translatedEquity_12

abbrev rmX3_translatedResult : Room := ({ frames := 3, cells := 0, slots := 0, locals := 64 } : Room)
set_option maxHeartbeats 4000000 in
set_option maxRecDepth 100000 in
theorem c_X3_translatedResult (ll : Launch) (D : va_G) (a : Nat → Nat) (cI cJ : ClassId) (p : Nat → Int32) (nu de eq : Nat → Int64) (am nx oA oD oE oP cR aR hR cl ad gw pr : Nat → Int32) (n : Int32) (c : Nat) (hc : c < 6) : Met ll yX3_translatedResult wsX3_translatedResult rmX3_translatedResult (va_Pc [.ref (a 0), .int (nI (c))] (PR D (tyG cI cJ) (GW a cI cJ p nu de eq am nx oA oD oE oP cR aR hR cl ad gw pr n))) (vp_Si (fun rr => rr = tr (oP c) (aR c))) 0 0 (fun _ => False) := by
  refine Met.ofW (cc := cX3_translatedResult) (maxL := 2) (ret := (some .int)) (by decide) rfl ?_
  intro pp ee ss mm ar bel mth cde s₁ B hml hv
  obtain ⟨rfl, hP, hK, hE⟩ := hv
  have hx := B.exec
  have hb := B.bytes
  have hr := B.returns
  have hts := atoms_spec (ws := wsX3_translatedResult) B.pre
  have hown : ss.vm.findClass RX3 = some mm.cls := findClass_of_methodNamed B.named
  have hlocks := B.notSynchronized
  have hin : ∀ w ∈ wsX30, w.before ([.ref (a 0), .int (nI (c))] : List Value).toArray ss = true := fun w h => hts w ((by decide +kernel : ∀ w ∈ wsX30, w ∈ wsX3_translatedResult) w h)
  have hl := lv_entry [.ref (a 0), .int (nI (c))] (n := 2) (Nat.le_of_ble_eq_true rfl)
  rw [lg_entry_eq]
  generalize (lg_sl [.ref (a 0), .int (nI (c))] ++ List.replicate (2 - (lg_sl [.ref (a 0), .int (nI (c))]).length) Slot.unset).toArray = ls at hl ⊢
  have hl : lv_has ls 2 [(0, .ref (a 0)), (1, .int (nI (c)))] := hl
  refine lv_iload_n hx hb dX3_translatedResult_0 rfl (lv_at hl 1 rfl) ?_
  refine va_csv (W.runS (As := [.int (nI (c))]) (rest := []) ⟨hx, hb, hml, hown, hts⟩ (c_X3_requireCompany_ok ll (nI (c)) (inB_c c hc)) (va_cwS 1 hts gX3_translatedResult_X3_requireCompany rfl rfl rfl (by decide +kernel) ⟨Nat.le_of_ble_eq_true rfl, Nat.le_of_ble_eq_true rfl⟩) ⟨PT.blind, PT.to⟩ rfl rfl hl.1 rfl (lv_room (Nat.le_of_ble_eq_true rfl)) dX3_translatedResult_1 ⟨Nat.le_of_ble_eq_true rfl, Nat.le_of_ble_eq_true rfl⟩) (fun _ => ?_)
  refine lv_aload_n hx hb dX3_translatedResult_4 rfl (lv_at hl 0 rfl) ?_
  refine va_get (D := D) (ci := 3) (v := .ref (a 2)) (C := RX3) (T := TX3) (N := 6) (Ts := wsX30) hx hb hin (fun _ h9 => h9) hown hK hP 0 rfl rfl 1 (by decide) (hts (.fieldLink RX3 19 "Groupbooks" "books" "LGroupbooks$Books;") (by decide +kernel)) (fun _ h9 => h9) rfl dX3_translatedResult_5 ?_
  refine lv_iload_n hx hb dX3_translatedResult_8 rfl (lv_at hl 1 rfl) ?_
  refine b_csi (v := tr (oP c) (aR c)) ((va_runVN (As := [.int (nI (c))]) (rest := []) ⟨hx, hb, hml, hown, hts⟩ (c_X1_profitOf ll D a cI cJ p nu de eq am nx oA oD oE oP cR aR hR cl ad gw pr n c (by omega)) ⟨va_cnB 1 hts gX3_translatedResult_X1_profitOf_n104 rfl rfl rfl (hE.nest 13 rfl) (hts (.initialized RX1) (by decide +kernel)) (by decide +kernel) ⟨Nat.le_of_ble_eq_true rfl, Nat.le_of_ble_eq_true rfl⟩, hts (.instanceMethod yX1_profitOf) (by decide +kernel), hts (.selects RX1 yX1_profitOf yX1_profitOf) (by decide +kernel)⟩ ⟨PR.blind, va_recv hK hP (ci := 1) (q0 := 2) rfl rfl, PR.go hP hK hE⟩ rfl rfl hl.1 rfl (lv_room (Nat.le_of_ble_eq_true rfl)) dX3_translatedResult_9 ⟨Nat.le_of_ble_eq_true rfl, Nat.le_of_ble_eq_true rfl⟩).run) ?_
  exact W.iret hx hb hr (fun t ht _ => ⟨_, rfl, rfl, ht⟩) (fun _ h => nomatch h) dX3_translatedResult_12

abbrev rmX3_reserve : Room := ({ frames := 4, cells := 0, slots := 0, locals := 85 } : Room)
set_option maxHeartbeats 4000000 in
set_option maxRecDepth 100000 in
theorem c_X3_reserve (ll : Launch) (D : va_G) (a : Nat → Nat) (cI cJ : ClassId) (p : Nat → Int32) (nu de eq : Nat → Int64) (am nx oA oD oE oP cR aR hR cl ad gw pr : Nat → Int32) (n : Int32) (c : Nat) (hc : c < 6) : Met ll yX3_reserve wsX3_reserve rmX3_reserve (va_Pc [.ref (a 0), .int (nI (c))] (PR D (tyG cI cJ) (GW a cI cJ p nu de eq am nx oA oD oE oP cR aR hR cl ad gw pr n))) (vp_Si (fun rr => rr = tr (oA c) (cR c) - tr (oD c) (cR c) - tr (oE c) (hR c) - tr (oP c) (aR c))) 0 0 (fun _ => False) := by
  refine Met.ofW (cc := cX3_reserve) (maxL := 2) (ret := (some .int)) (by decide) rfl ?_
  intro pp ee ss mm ar bel mth cde s₁ B hml hv
  obtain ⟨rfl, hP, hK, hE⟩ := hv
  have hx := B.exec
  have hb := B.bytes
  have hr := B.returns
  have hts := atoms_spec (ws := wsX3_reserve) B.pre
  have hown : ss.vm.findClass RX3 = some mm.cls := findClass_of_methodNamed B.named
  have hlocks := B.notSynchronized
  have hin : ∀ w ∈ wsX30, w.before ([.ref (a 0), .int (nI (c))] : List Value).toArray ss = true := fun w h => hts w ((by decide +kernel : ∀ w ∈ wsX30, w ∈ wsX3_reserve) w h)
  have hl := lv_entry [.ref (a 0), .int (nI (c))] (n := 2) (Nat.le_of_ble_eq_true rfl)
  rw [lg_entry_eq]
  generalize (lg_sl [.ref (a 0), .int (nI (c))] ++ List.replicate (2 - (lg_sl [.ref (a 0), .int (nI (c))]).length) Slot.unset).toArray = ls at hl ⊢
  have hl : lv_has ls 2 [(0, .ref (a 0)), (1, .int (nI (c)))] := hl
  refine lv_iload_n hx hb dX3_reserve_0 rfl (lv_at hl 1 rfl) ?_
  refine va_csv (W.runS (As := [.int (nI (c))]) (rest := []) ⟨hx, hb, hml, hown, hts⟩ (c_X3_requireCompany_ok ll (nI (c)) (inB_c c hc)) (va_cwS 1 hts gX3_reserve_X3_requireCompany rfl rfl rfl (by decide +kernel) ⟨Nat.le_of_ble_eq_true rfl, Nat.le_of_ble_eq_true rfl⟩) ⟨PT.blind, PT.to⟩ rfl rfl hl.1 rfl (lv_room (Nat.le_of_ble_eq_true rfl)) dX3_reserve_1 ⟨Nat.le_of_ble_eq_true rfl, Nat.le_of_ble_eq_true rfl⟩) (fun _ => ?_)
  refine lv_aload_n hx hb dX3_reserve_4 rfl (lv_at hl 0 rfl) ?_
  refine va_get (D := D) (ci := 3) (v := .ref (a 2)) (C := RX3) (T := TX3) (N := 6) (Ts := wsX30) hx hb hin (fun _ h9 => h9) hown hK hP 0 rfl rfl 1 (by decide) (hts (.fieldLink RX3 19 "Groupbooks" "books" "LGroupbooks$Books;") (by decide +kernel)) (fun _ h9 => h9) rfl dX3_reserve_5 ?_
  refine lv_iload_n hx hb dX3_reserve_8 rfl (lv_at hl 1 rfl) ?_
  refine b_csi (v := tr (oA c) (cR c) - tr (oD c) (cR c)) ((va_runVN (As := [.int (nI (c))]) (rest := []) ⟨hx, hb, hml, hown, hts⟩ (c_X1_netOf ll D a cI cJ p nu de eq am nx oA oD oE oP cR aR hR cl ad gw pr n c (by omega)) ⟨va_cnB 1 hts gX3_reserve_X1_netOf_n62 rfl rfl rfl (hE.nest 11 rfl) (hts (.initialized RX1) (by decide +kernel)) (by decide +kernel) ⟨Nat.le_of_ble_eq_true rfl, Nat.le_of_ble_eq_true rfl⟩, hts (.instanceMethod yX1_netOf) (by decide +kernel), hts (.selects RX1 yX1_netOf yX1_netOf) (by decide +kernel)⟩ ⟨PR.blind, va_recv hK hP (ci := 1) (q0 := 2) rfl rfl, PR.go hP hK hE⟩ rfl rfl hl.1 rfl (lv_room (Nat.le_of_ble_eq_true rfl)) dX3_reserve_9 ⟨Nat.le_of_ble_eq_true rfl, Nat.le_of_ble_eq_true rfl⟩).run) ?_
  refine lv_aload_n hx hb dX3_reserve_12 rfl (lv_at hl 0 rfl) ?_
  refine va_get (D := D) (ci := 3) (v := .ref (a 2)) (C := RX3) (T := TX3) (N := 6) (Ts := wsX30) hx hb hin (fun _ h9 => h9) hown hK hP 0 rfl rfl 1 (by decide) (hts (.fieldLink RX3 19 "Groupbooks" "books" "LGroupbooks$Books;") (by decide +kernel)) (fun _ h9 => h9) rfl dX3_reserve_13 ?_
  refine lv_iload_n hx hb dX3_reserve_16 rfl (lv_at hl 1 rfl) ?_
  refine b_csi (v := tr (oE c) (hR c)) ((va_runVN (As := [.int (nI (c))]) (rest := [.int (tr (oA c) (cR c) - tr (oD c) (cR c))]) ⟨hx, hb, hml, hown, hts⟩ (c_X1_equityOf ll D a cI cJ p nu de eq am nx oA oD oE oP cR aR hR cl ad gw pr n c (by omega)) ⟨va_cnB 1 hts gX3_reserve_X1_equityOf_n101 rfl rfl rfl (hE.nest 22 rfl) (hts (.initialized RX1) (by decide +kernel)) (by decide +kernel) ⟨Nat.le_of_ble_eq_true rfl, Nat.le_of_ble_eq_true rfl⟩, hts (.instanceMethod yX1_equityOf) (by decide +kernel), hts (.selects RX1 yX1_equityOf yX1_equityOf) (by decide +kernel)⟩ ⟨PR.blind, va_recv hK hP (ci := 1) (q0 := 2) rfl rfl, PR.go hP hK hE⟩ rfl rfl hl.1 rfl (lv_room (Nat.le_of_ble_eq_true rfl)) dX3_reserve_17 ⟨Nat.le_of_ble_eq_true rfl, Nat.le_of_ble_eq_true rfl⟩).run) ?_
  refine lv_isub hx hb dX3_reserve_20 ?_
  refine lv_aload_n hx hb dX3_reserve_21 rfl (lv_at hl 0 rfl) ?_
  refine va_get (D := D) (ci := 3) (v := .ref (a 2)) (C := RX3) (T := TX3) (N := 6) (Ts := wsX30) hx hb hin (fun _ h9 => h9) hown hK hP 0 rfl rfl 1 (by decide) (hts (.fieldLink RX3 19 "Groupbooks" "books" "LGroupbooks$Books;") (by decide +kernel)) (fun _ h9 => h9) rfl dX3_reserve_22 ?_
  refine lv_iload_n hx hb dX3_reserve_25 rfl (lv_at hl 1 rfl) ?_
  refine b_csi (v := tr (oP c) (aR c)) ((va_runVN (As := [.int (nI (c))]) (rest := [.int ((tr (oA c) (cR c) - tr (oD c) (cR c)) - (tr (oE c) (hR c)))]) ⟨hx, hb, hml, hown, hts⟩ (c_X1_profitOf ll D a cI cJ p nu de eq am nx oA oD oE oP cR aR hR cl ad gw pr n c (by omega)) ⟨va_cnB 1 hts gX3_reserve_X1_profitOf_n104 rfl rfl rfl (hE.nest 13 rfl) (hts (.initialized RX1) (by decide +kernel)) (by decide +kernel) ⟨Nat.le_of_ble_eq_true rfl, Nat.le_of_ble_eq_true rfl⟩, hts (.instanceMethod yX1_profitOf) (by decide +kernel), hts (.selects RX1 yX1_profitOf yX1_profitOf) (by decide +kernel)⟩ ⟨PR.blind, va_recv hK hP (ci := 1) (q0 := 2) rfl rfl, PR.go hP hK hE⟩ rfl rfl hl.1 rfl (lv_room (Nat.le_of_ble_eq_true rfl)) dX3_reserve_26 ⟨Nat.le_of_ble_eq_true rfl, Nat.le_of_ble_eq_true rfl⟩).run) ?_
  refine lv_isub hx hb dX3_reserve_29 ?_
  exact W.iret hx hb hr (fun t ht _ => ⟨_, rfl, rfl, ht⟩) (fun _ h => nomatch h) dX3_reserve_30
end
section
abbrev rmX3_shareByRounds : Room := ({ frames := 3, cells := 0, slots := 0, locals := 67 } : Room)
set_option maxHeartbeats 4000000 in
set_option maxRecDepth 100000 in
theorem c_X3_shareByRounds (ll : Launch) (D : va_G) (a : Nat → Nat) (cI cJ : ClassId) (sz : Nat) (p : Nat → Int32) (nu de eq : Nat → Int64) (am nx oA oD oE oP cR aR hR cl ad gw pr : Nat → Int32) (n : Int32) (c nr : Nat) (hc : c < 6) (hn : nr ≤ 200) (hqn : inB (nI nr) 0 200 = true) : Met ll yX3_shareByRounds wsX3_shareByRounds rmX3_shareByRounds (va_Pc [.ref (a 0), .int (nI (c)), .int (nI (nr))] (PW D (tyG cI cJ) (GW a cI cJ p nu de eq am nx oA oD oE oP cR aR hR cl ad gw pr n) sz)) (va_Qi (fun (rr : Int32) (u : Unit) => rr = (mr p am nx nr).1 c) (fun (u : Unit) t => AW D (tyG cI cJ) (va_A (GW a cI cJ p nu de eq am nx oA oD oE oP cR aR hR cl ad gw pr n) sz) (GW a cI cJ p nu de eq ((mr p am nx nr).1) ((mr p am nx nr).2) oA oD oE oP cR aR hR cl ad gw pr n) t) (va_A (GW a cI cJ p nu de eq am nx oA oD oE oP cR aR hR cl ad gw pr n) sz)) 0 0 (va_A (GW a cI cJ p nu de eq am nx oA oD oE oP cR aR hR cl ad gw pr n) sz) := by
  refine Met.ofW (cc := cX3_shareByRounds) (maxL := 3) (ret := (some .int)) (by decide) rfl ?_
  intro pp ee ss mm ar bel mth cde s₁ B hml hv
  obtain ⟨rfl, hsz, hP, hK, hD0, hE⟩ := hv
  have hx := B.exec
  have hb := B.bytes
  have hr := B.returns
  have hts := atoms_spec (ws := wsX3_shareByRounds) B.pre
  have hown : ss.vm.findClass RX3 = some mm.cls := findClass_of_methodNamed B.named
  have hlocks := B.notSynchronized
  subst hsz
  have hD := hD0.self (sz := ss.heap.size)
  generalize hAe : va_A (GW a cI cJ p nu de eq am nx oA oD oE oP cR aR hR cl ad gw pr n) ss.heap.size = A at hD ⊢
  have hA : ∀ q : Nat, ss.heap.size ≤ q → A q := fun q h => by rw [← hAe]; exact Or.inr h
  have hS : va_S A ss.heap ss.heap [] := va_S.rf
  have hin : ∀ w ∈ wsX30, w.before ([.ref (a 0), .int (nI (c)), .int (nI (nr))] : List Value).toArray ss = true := fun w h => hts w ((by decide +kernel : ∀ w ∈ wsX30, w ∈ wsX3_shareByRounds) w h)
  have hl := lv_entry [.ref (a 0), .int (nI (c)), .int (nI (nr))] (n := 3) (Nat.le_of_ble_eq_true rfl)
  rw [lg_entry_eq]
  generalize (lg_sl [.ref (a 0), .int (nI (c)), .int (nI (nr))] ++ List.replicate (3 - (lg_sl [.ref (a 0), .int (nI (c)), .int (nI (nr))]).length) Slot.unset).toArray = ls at hl ⊢
  have hl : lv_has ls 3 [(0, .ref (a 0)), (1, .int (nI (c))), (2, .int (nI (nr)))] := hl
  refine lv_iload_n hx hb dX3_shareByRounds_0 rfl (lv_at hl 1 rfl) ?_
  refine va_csv (W.runS (As := [.int (nI (c))]) (rest := []) ⟨hx, hb, hml, hown, hts⟩ (c_X3_requireCompany_ok ll (nI (c)) (inB_c c hc)) (va_cwS 1 hts gX3_shareByRounds_X3_requireCompany rfl rfl rfl (by decide +kernel) ⟨Nat.le_of_ble_eq_true rfl, Nat.le_of_ble_eq_true rfl⟩) ⟨PT.blind, PT.to⟩ rfl rfl hl.1 rfl (lv_room (Nat.le_of_ble_eq_true rfl)) dX3_shareByRounds_1 ⟨Nat.le_of_ble_eq_true rfl, Nat.le_of_ble_eq_true rfl⟩) (fun _ => ?_)
  refine lv_iload_n hx hb dX3_shareByRounds_4 rfl (lv_at hl 2 rfl) ?_
  refine lv_iconst (v := 0) hx hb dX3_shareByRounds_5 (by decide) ?_
  refine lv_sipush (v := 200) hx hb dX3_shareByRounds_6 (by decide) ?_
  refine va_csv (W.runS (As := [.int (nI (nr)), .int (0), .int (200)]) (rest := []) ⟨hx, hb, hml, hown, hts⟩ (c_X3_requireRange_ok ll (nI (nr)) 0 200 hqn) (va_cwS 3 hts gX3_shareByRounds_X3_requireRange rfl rfl rfl (by decide +kernel) ⟨Nat.le_of_ble_eq_true rfl, Nat.le_of_ble_eq_true rfl⟩) ⟨PT.blind, PT.to⟩ rfl rfl hl.1 rfl (lv_room (Nat.le_of_ble_eq_true rfl)) dX3_shareByRounds_9 ⟨Nat.le_of_ble_eq_true rfl, Nat.le_of_ble_eq_true rfl⟩) (fun _ => ?_)
  refine lv_aload_n hx hb dX3_shareByRounds_12 rfl (lv_at hl 0 rfl) ?_
  refine va_get (D := D) (ci := 3) (v := .ref (a 1)) (C := RX3) (T := TX3) (N := 6) (Ts := wsX30) hx hb hin (fun _ h9 => h9) hown hK hP 0 rfl rfl 0 (by decide) (hts (.fieldLink RX3 10 "Groupbooks" "holdings" "LGroupbooks$Holdings;") (by decide +kernel)) (fun _ h9 => h9) rfl dX3_shareByRounds_13 ?_
  refine lv_iload_n hx hb dX3_shareByRounds_16 rfl (lv_at hl 2 rfl) ?_
  refine lv_iload_n hx hb dX3_shareByRounds_17 rfl (lv_at hl 1 rfl) ?_
  refine b_calli0 (S := Unit) (w' := fun u => GW a cI cJ p nu de eq ((mr p am nx nr).1) ((mr p am nx nr).2) oA oD oE oP cR aR hR cl ad gw pr n) hP hD hS hA (va_runVN (As := [.int (nI (nr)), .int (nI (c))]) (rest := []) ⟨hx, hb, hml, hown, hts⟩ (c_X2_millionthsAfter ll D a cI cJ _ p nu de eq am nx oA oD oE oP cR aR hR cl ad gw pr n nr c (by omega) (by omega)) ⟨va_cnB 2 hts gX3_shareByRounds_X2_millionthsAfter_n82 rfl rfl rfl (hE.nest 19 rfl) (hts (.initialized RX2) (by decide +kernel)) (by decide +kernel) ⟨Nat.le_of_ble_eq_true rfl, Nat.le_of_ble_eq_true rfl⟩, hts (.instanceMethod yX2_millionthsAfter) (by decide +kernel), hts (.selects RX2 yX2_millionthsAfter yX2_millionthsAfter) (by decide +kernel)⟩ ⟨PW.blind, va_recv hK hP (ci := 2) (q0 := 1) rfl rfl, PW.go hP hK hD hE⟩ rfl rfl hl.1 rfl (lv_room (Nat.le_of_ble_eq_true rfl)) dX3_shareByRounds_18 ⟨Nat.le_of_ble_eq_true rfl, Nat.le_of_ble_eq_true rfl⟩) (fun r_2 u H locs h_1 hP hD hS => ?_)
  have h_1 : r_2 = (mr p am nx nr).1 c := h_1
  subst h_1
  exact W.iret hx hb hr (fun t ht hW => ⟨⟨_, (), rfl, rfl, (by rw [ht]; exact hP), va_K.moved hW.alike hK, hD⟩, hS.F ht⟩) hS.2.2 dX3_shareByRounds_21

abbrev rmX3_group : Room := ({ frames := 4, cells := 0, slots := 0, locals := 90 } : Room)
set_option maxHeartbeats 4000000 in
set_option maxRecDepth 100000 in
theorem c_X3_group (ll : Launch) (D : va_G) (a : Nat → Nat) (cI cJ : ClassId) (p : Nat → Int32) (nu de eq : Nat → Int64) (am nx oA oD oE oP cR aR hR cl ad gw pr : Nat → Int32) (n : Int32)   : Met ll yX3_group wsX3_group rmX3_group (va_Pc [.ref (a 0)] (PR D (tyG cI cJ) (GW a cI cJ p nu de eq am nx oA oD oE oP cR aR hR cl ad gw pr n))) (vp_Si (fun rr => rr = nI (mem p 5))) 0 0 (fun _ => False) := by
  refine Met.ofW (cc := cX3_group) (maxL := 1) (ret := (some .int)) (by decide) rfl ?_
  intro pp ee ss mm ar bel mth cde s₁ B hml hv
  obtain ⟨rfl, hP, hK, hE⟩ := hv
  have hx := B.exec
  have hb := B.bytes
  have hr := B.returns
  have hts := atoms_spec (ws := wsX3_group) B.pre
  have hown : ss.vm.findClass RX3 = some mm.cls := findClass_of_methodNamed B.named
  have hlocks := B.notSynchronized
  have hin : ∀ w ∈ wsX30, w.before ([.ref (a 0)] : List Value).toArray ss = true := fun w h => hts w ((by decide +kernel : ∀ w ∈ wsX30, w ∈ wsX3_group) w h)
  have hl := lv_entry [.ref (a 0)] (n := 1) (Nat.le_of_ble_eq_true rfl)
  rw [lg_entry_eq]
  generalize (lg_sl [.ref (a 0)] ++ List.replicate (1 - (lg_sl [.ref (a 0)]).length) Slot.unset).toArray = ls at hl ⊢
  have hl : lv_has ls 1 [(0, .ref (a 0))] := hl
  refine lv_aload_n hx hb dX3_group_0 rfl (lv_at hl 0 rfl) ?_
  refine va_get (D := D) (ci := 3) (v := .ref (a 1)) (C := RX3) (T := TX3) (N := 6) (Ts := wsX30) hx hb hin (fun _ h9 => h9) hown hK hP 0 rfl rfl 0 (by decide) (hts (.fieldLink RX3 10 "Groupbooks" "holdings" "LGroupbooks$Holdings;") (by decide +kernel)) (fun _ h9 => h9) rfl dX3_group_1 ?_
  refine b_csi (v := nI (mem p 5)) ((va_runVN (As := []) (rest := []) ⟨hx, hb, hml, hown, hts⟩ (c_X2_members ll D a cI cJ p nu de eq am nx oA oD oE oP cR aR hR cl ad gw pr n  ) ⟨va_cnB 0 hts gX3_group_X2_members_n85 rfl rfl rfl (hE.nest 3 rfl) (hts (.initialized RX2) (by decide +kernel)) (by decide +kernel) ⟨Nat.le_of_ble_eq_true rfl, Nat.le_of_ble_eq_true rfl⟩, hts (.instanceMethod yX2_members) (by decide +kernel), hts (.selects RX2 yX2_members yX2_members) (by decide +kernel)⟩ ⟨PR.blind, va_recv hK hP (ci := 2) (q0 := 1) rfl rfl, PR.go hP hK hE⟩ rfl rfl hl.1 rfl (lv_room (Nat.le_of_ble_eq_true rfl)) dX3_group_4 ⟨Nat.le_of_ble_eq_true rfl, Nat.le_of_ble_eq_true rfl⟩).run) ?_
  exact W.iret hx hb hr (fun t ht _ => ⟨_, rfl, rfl, ht⟩) (fun _ h => nomatch h) dX3_group_7

abbrev rmX3_difference : Room := ({ frames := 3, cells := 0, slots := 0, locals := 63 } : Room)
set_option maxHeartbeats 4000000 in
set_option maxRecDepth 100000 in
theorem c_X3_difference (ll : Launch) (D : va_G) (a : Nat → Nat) (cI cJ : ClassId) (p : Nat → Int32) (nu de eq : Nat → Int64) (am nx oA oD oE oP cR aR hR cl ad gw pr : Nat → Int32) (n : Int32) (o c : Nat) (ho : o < 6) (hc : c < 6) (hpr : prB (nI o) (nI c) = true) : Met ll yX3_difference wsX3_difference rmX3_difference (va_Pc [.ref (a 0), .int (nI (o)), .int (nI (c))] (PR D (tyG cI cJ) (GW a cI cJ p nu de eq am nx oA oD oE oP cR aR hR cl ad gw pr n))) (vp_Si (fun rr => rr = cl (6 * o + c) - ad (6 * o + c))) 0 0 (fun _ => False) := by
  refine Met.ofW (cc := cX3_difference) (maxL := 3) (ret := (some .int)) (by decide) rfl ?_
  intro pp ee ss mm ar bel mth cde s₁ B hml hv
  obtain ⟨rfl, hP, hK, hE⟩ := hv
  have hx := B.exec
  have hb := B.bytes
  have hr := B.returns
  have hts := atoms_spec (ws := wsX3_difference) B.pre
  have hown : ss.vm.findClass RX3 = some mm.cls := findClass_of_methodNamed B.named
  have hlocks := B.notSynchronized
  have hin : ∀ w ∈ wsX30, w.before ([.ref (a 0), .int (nI (o)), .int (nI (c))] : List Value).toArray ss = true := fun w h => hts w ((by decide +kernel : ∀ w ∈ wsX30, w ∈ wsX3_difference) w h)
  have hl := lv_entry [.ref (a 0), .int (nI (o)), .int (nI (c))] (n := 3) (Nat.le_of_ble_eq_true rfl)
  rw [lg_entry_eq]
  generalize (lg_sl [.ref (a 0), .int (nI (o)), .int (nI (c))] ++ List.replicate (3 - (lg_sl [.ref (a 0), .int (nI (o)), .int (nI (c))]).length) Slot.unset).toArray = ls at hl ⊢
  have hl : lv_has ls 3 [(0, .ref (a 0)), (1, .int (nI (o))), (2, .int (nI (c)))] := hl
  refine lv_iload_n hx hb dX3_difference_0 rfl (lv_at hl 1 rfl) ?_
  refine lv_iload_n hx hb dX3_difference_1 rfl (lv_at hl 2 rfl) ?_
  refine va_csv (W.runS (As := [.int (nI (o)), .int (nI (c))]) (rest := []) ⟨hx, hb, hml, hown, hts⟩ (c_X3_requireTwoCompanies_ok ll (nI (o)) (nI (c)) hpr) (va_cwS 2 hts gX3_difference_X3_requireTwoCompanies rfl rfl rfl (by decide +kernel) ⟨Nat.le_of_ble_eq_true rfl, Nat.le_of_ble_eq_true rfl⟩) ⟨PT.blind, PT.to⟩ rfl rfl hl.1 rfl (lv_room (Nat.le_of_ble_eq_true rfl)) dX3_difference_2 ⟨Nat.le_of_ble_eq_true rfl, Nat.le_of_ble_eq_true rfl⟩) (fun _ => ?_)
  refine lv_aload_n hx hb dX3_difference_5 rfl (lv_at hl 0 rfl) ?_
  refine va_get (D := D) (ci := 3) (v := .ref (a 3)) (C := RX3) (T := TX3) (N := 6) (Ts := wsX30) hx hb hin (fun _ h9 => h9) hown hK hP 0 rfl rfl 2 (by decide) (hts (.fieldLink RX3 26 "Groupbooks" "balances" "LGroupbooks$Balances;") (by decide +kernel)) (fun _ h9 => h9) rfl dX3_difference_6 ?_
  refine lv_iload_n hx hb dX3_difference_9 rfl (lv_at hl 1 rfl) ?_
  refine lv_iload_n hx hb dX3_difference_10 rfl (lv_at hl 2 rfl) ?_
  refine b_csi (v := cl (6 * o + c) - ad (6 * o + c)) ((va_runVN (As := [.int (nI (o)), .int (nI (c))]) (rest := []) ⟨hx, hb, hml, hown, hts⟩ (c_X0_disputed ll D a cI cJ p nu de eq am nx oA oD oE oP cR aR hR cl ad gw pr n o c (by omega) (by omega)) ⟨va_cnB 2 hts gX3_difference_X0_disputed_n114 rfl rfl rfl (hE.nest 25 rfl) (hts (.initialized RX0) (by decide +kernel)) (by decide +kernel) ⟨Nat.le_of_ble_eq_true rfl, Nat.le_of_ble_eq_true rfl⟩, hts (.instanceMethod yX0_disputed) (by decide +kernel), hts (.selects RX0 yX0_disputed yX0_disputed) (by decide +kernel)⟩ ⟨PR.blind, va_recv hK hP (ci := 0) (q0 := 3) rfl rfl, PR.go hP hK hE⟩ rfl rfl hl.1 rfl (lv_room (Nat.le_of_ble_eq_true rfl)) dX3_difference_11 ⟨Nat.le_of_ble_eq_true rfl, Nat.le_of_ble_eq_true rfl⟩).run) ?_
  exact W.iret hx hb hr (fun t ht _ => ⟨_, rfl, rfl, ht⟩) (fun _ h => nomatch h) dX3_difference_14
end
section
abbrev rmX3_eliminated : Room := ({ frames := 4, cells := 0, slots := 0, locals := 90 } : Room)
set_option maxHeartbeats 4000000 in
set_option maxRecDepth 100000 in
theorem c_X3_eliminated (ll : Launch) (D : va_G) (a : Nat → Nat) (cI cJ : ClassId) (p : Nat → Int32) (nu de eq : Nat → Int64) (am nx oA oD oE oP cR aR hR cl ad gw pr : Nat → Int32) (n : Int32)   : Met ll yX3_eliminated wsX3_eliminated rmX3_eliminated (va_Pc [.ref (a 0)] (PR D (tyG cI cJ) (GW a cI cJ p nu de eq am nx oA oD oE oP cR aR hR cl ad gw pr n))) (vp_Si (fun rr => rr = agO cl ad (mem p 5) 6)) 0 0 (fun _ => False) := by
  refine Met.ofW (cc := cX3_eliminated) (maxL := 1) (ret := (some .int)) (by decide) rfl ?_
  intro pp ee ss mm ar bel mth cde s₁ B hml hv
  obtain ⟨rfl, hP, hK, hE⟩ := hv
  have hx := B.exec
  have hb := B.bytes
  have hr := B.returns
  have hts := atoms_spec (ws := wsX3_eliminated) B.pre
  have hown : ss.vm.findClass RX3 = some mm.cls := findClass_of_methodNamed B.named
  have hlocks := B.notSynchronized
  have hin : ∀ w ∈ wsX30, w.before ([.ref (a 0)] : List Value).toArray ss = true := fun w h => hts w ((by decide +kernel : ∀ w ∈ wsX30, w ∈ wsX3_eliminated) w h)
  have hl := lv_entry [.ref (a 0)] (n := 1) (Nat.le_of_ble_eq_true rfl)
  rw [lg_entry_eq]
  generalize (lg_sl [.ref (a 0)] ++ List.replicate (1 - (lg_sl [.ref (a 0)]).length) Slot.unset).toArray = ls at hl ⊢
  have hl : lv_has ls 1 [(0, .ref (a 0))] := hl
  refine lv_aload_n hx hb dX3_eliminated_0 rfl (lv_at hl 0 rfl) ?_
  refine va_get (D := D) (ci := 3) (v := .ref (a 3)) (C := RX3) (T := TX3) (N := 6) (Ts := wsX30) hx hb hin (fun _ h9 => h9) hown hK hP 0 rfl rfl 2 (by decide) (hts (.fieldLink RX3 26 "Groupbooks" "balances" "LGroupbooks$Balances;") (by decide +kernel)) (fun _ h9 => h9) rfl dX3_eliminated_1 ?_
  refine lv_aload_n hx hb dX3_eliminated_4 rfl (lv_at hl 0 rfl) ?_
  refine va_get (D := D) (ci := 3) (v := .ref (a 1)) (C := RX3) (T := TX3) (N := 6) (Ts := wsX30) hx hb hin (fun _ h9 => h9) hown hK hP 0 rfl rfl 0 (by decide) (hts (.fieldLink RX3 10 "Groupbooks" "holdings" "LGroupbooks$Holdings;") (by decide +kernel)) (fun _ h9 => h9) rfl dX3_eliminated_5 ?_
  refine b_csi (v := nI (mem p 5)) ((va_runVN (As := []) (rest := [.ref (a 3)]) ⟨hx, hb, hml, hown, hts⟩ (c_X2_members ll D a cI cJ p nu de eq am nx oA oD oE oP cR aR hR cl ad gw pr n  ) ⟨va_cnB 0 hts gX3_eliminated_X2_members_n85 rfl rfl rfl (hE.nest 3 rfl) (hts (.initialized RX2) (by decide +kernel)) (by decide +kernel) ⟨Nat.le_of_ble_eq_true rfl, Nat.le_of_ble_eq_true rfl⟩, hts (.instanceMethod yX2_members) (by decide +kernel), hts (.selects RX2 yX2_members yX2_members) (by decide +kernel)⟩ ⟨PR.blind, va_recv hK hP (ci := 2) (q0 := 1) rfl rfl, PR.go hP hK hE⟩ rfl rfl hl.1 rfl (lv_room (Nat.le_of_ble_eq_true rfl)) dX3_eliminated_8 ⟨Nat.le_of_ble_eq_true rfl, Nat.le_of_ble_eq_true rfl⟩).run) ?_
  refine b_csi (v := agO cl ad (mem p 5) 6) ((va_runVN (As := [.int (nI (mem p 5))]) (rest := []) ⟨hx, hb, hml, hown, hts⟩ (c_X0_agreedAmong ll D a cI cJ p nu de eq am nx oA oD oE oP cR aR hR cl ad gw pr n (mem p 5) (lt31 (mem_lt _ _))) ⟨va_cnB 1 hts gX3_eliminated_X0_agreedAmong_n117 rfl rfl rfl (hE.nest 6 rfl) (hts (.initialized RX0) (by decide +kernel)) (by decide +kernel) ⟨Nat.le_of_ble_eq_true rfl, Nat.le_of_ble_eq_true rfl⟩, hts (.instanceMethod yX0_agreedAmong) (by decide +kernel), hts (.selects RX0 yX0_agreedAmong yX0_agreedAmong) (by decide +kernel)⟩ ⟨PR.blind, va_recv hK hP (ci := 0) (q0 := 3) rfl rfl, PR.go hP hK hE⟩ rfl rfl hl.1 rfl (lv_room (Nat.le_of_ble_eq_true rfl)) dX3_eliminated_11 ⟨Nat.le_of_ble_eq_true rfl, Nat.le_of_ble_eq_true rfl⟩).run) ?_
  exact W.iret hx hb hr (fun t ht _ => ⟨_, rfl, rfl, ht⟩) (fun _ h => nomatch h) dX3_eliminated_14

abbrev rmX3_assets : Room := ({ frames := 4, cells := 0, slots := 0, locals := 90 } : Room)
set_option maxHeartbeats 4000000 in
set_option maxRecDepth 100000 in
theorem c_X3_assets (ll : Launch) (D : va_G) (a : Nat → Nat) (cI cJ : ClassId) (p : Nat → Int32) (nu de eq : Nat → Int64) (am nx oA oD oE oP cR aR hR cl ad gw pr : Nat → Int32) (n : Int32)   : Met ll yX3_assets wsX3_assets rmX3_assets (va_Pc [.ref (a 0)] (PR D (tyG cI cJ) (GW a cI cJ p nu de eq am nx oA oD oE oP cR aR hR cl ad gw pr n))) (vp_Si (fun rr => rr = caS oA cR (mem p 5) 6 - agO cl ad (mem p 5) 6)) 0 0 (fun _ => False) := by
  refine Met.ofW (cc := cX3_assets) (maxL := 4) (ret := (some .int)) (by decide) rfl ?_
  intro pp ee ss mm ar bel mth cde s₁ B hml hv
  obtain ⟨rfl, hP, hK, hE⟩ := hv
  have hx := B.exec
  have hb := B.bytes
  have hr := B.returns
  have hts := atoms_spec (ws := wsX3_assets) B.pre
  have hown : ss.vm.findClass RX3 = some mm.cls := findClass_of_methodNamed B.named
  have hlocks := B.notSynchronized
  have hin : ∀ w ∈ wsX30, w.before ([.ref (a 0)] : List Value).toArray ss = true := fun w h => hts w ((by decide +kernel : ∀ w ∈ wsX30, w ∈ wsX3_assets) w h)
  have hl := lv_entry [.ref (a 0)] (n := 4) (Nat.le_of_ble_eq_true rfl)
  rw [lg_entry_eq]
  generalize (lg_sl [.ref (a 0)] ++ List.replicate (4 - (lg_sl [.ref (a 0)]).length) Slot.unset).toArray = ls at hl ⊢
  have hl : lv_has ls 4 [(0, .ref (a 0))] := hl
  generalize hZ : MQ bel _ _ ss _ _ _ = Z
  refine lv_aload_n hx hb dX3_assets_0 rfl (lv_at hl 0 rfl) ?_
  refine va_get (D := D) (ci := 3) (v := .ref (a 1)) (C := RX3) (T := TX3) (N := 6) (Ts := wsX30) hx hb hin (fun _ h9 => h9) hown hK hP 0 rfl rfl 0 (by decide) (hts (.fieldLink RX3 10 "Groupbooks" "holdings" "LGroupbooks$Holdings;") (by decide +kernel)) (fun _ h9 => h9) rfl dX3_assets_1 ?_
  refine b_csi (v := nI (mem p 5)) ((va_runVN (As := []) (rest := []) ⟨hx, hb, hml, hown, hts⟩ (c_X2_members ll D a cI cJ p nu de eq am nx oA oD oE oP cR aR hR cl ad gw pr n  ) ⟨va_cnB 0 hts gX3_assets_X2_members_n85 rfl rfl rfl (hE.nest 3 rfl) (hts (.initialized RX2) (by decide +kernel)) (by decide +kernel) ⟨Nat.le_of_ble_eq_true rfl, Nat.le_of_ble_eq_true rfl⟩, hts (.instanceMethod yX2_members) (by decide +kernel), hts (.selects RX2 yX2_members yX2_members) (by decide +kernel)⟩ ⟨PR.blind, va_recv hK hP (ci := 2) (q0 := 1) rfl rfl, PR.go hP hK hE⟩ rfl rfl hl.1 rfl (lv_room (Nat.le_of_ble_eq_true rfl)) dX3_assets_4 ⟨Nat.le_of_ble_eq_true rfl, Nat.le_of_ble_eq_true rfl⟩).run) ?_
  refine lv_istore_n (lv' := [(1, .int (nI (mem p 5))), (0, .ref (a 0))]) hx hb dX3_assets_7 rfl hl (by decide) rfl (fun ls hl => ?_)
  refine lv_iconst (v := 0) hx hb dX3_assets_8 (by decide) ?_
  refine lv_istore_n (lv' := [(2, .int (0)), (1, .int (nI (mem p 5))), (0, .ref (a 0))]) hx hb dX3_assets_9 rfl hl (by decide) rfl (fun ls hl => ?_)
  refine lv_iconst (v := 0) hx hb dX3_assets_10 (by decide) ?_
  refine lv_istore_n (lv' := [(3, .int (0)), (2, .int (0)), (1, .int (nI (mem p 5))), (0, .ref (a 0))]) hx hb dX3_assets_11 rfl hl (by decide) rfl (fun ls hl => ?_)
  have L1 : ∀ (n1 k1 : Nat), k1 + n1 = 6 → ∀ (ls : Array Slot), lv_has ls 4 [(3, .int (nI (k1))), (2, .int (caS oA cR (mem p 5) (k1))), (1, .int (nI (mem p 5))), (0, .ref (a 0))] → W pp ll ee rmX3_assets ss mm (([.ref (a 0)] : List Value).toArray) bel mth cde ss.heap [] 0 0 Z (F0 mm 12 ls []) := by
    intro n1
    induction n1 with
    | zero =>
      intro k1 hk1  ls hl
      have hk1b : 6 = k1 := by omega
      subst hk1b
      refine lv_iload_n hx hb dX3_assets_12 rfl (lv_at hl 0 rfl) ?_
      refine lv_bipush (v := 6) hx hb dX3_assets_13 (by decide) ?_
      refine lv_icmp_ge (tgt := 43) hx hb dX3_assets_15 (by decide) (fun c_1 => ?_) (fun c_1 => ?_)
      · have n_1 : (6) ≤ (6) := (nI_leI (a := 6) (b := 6) (by omega) (by omega)).mp c_1
        refine lv_iload_n hx hb dX3_assets_43 rfl (lv_at hl 1 rfl) ?_
        refine lv_aload_n hx hb dX3_assets_44 rfl (lv_at hl 3 rfl) ?_
        refine va_get (D := D) (ci := 3) (v := .ref (a 3)) (C := RX3) (T := TX3) (N := 6) (Ts := wsX30) hx hb hin (fun _ h9 => h9) hown hK hP 0 rfl rfl 2 (by decide) (hts (.fieldLink RX3 26 "Groupbooks" "balances" "LGroupbooks$Balances;") (by decide +kernel)) (fun _ h9 => h9) rfl dX3_assets_45 ?_
        refine lv_iload_n hx hb dX3_assets_48 rfl (lv_at hl 2 rfl) ?_
        refine b_csi (v := agO cl ad (mem p 5) 6) ((va_runVN (As := [.int (nI (mem p 5))]) (rest := [.int (caS oA cR (mem p 5) (6))]) ⟨hx, hb, hml, hown, hts⟩ (c_X0_agreedAmong ll D a cI cJ p nu de eq am nx oA oD oE oP cR aR hR cl ad gw pr n (mem p 5) (lt31 (mem_lt _ _))) ⟨va_cnB 1 hts gX3_assets_X0_agreedAmong_n117 rfl rfl rfl (hE.nest 6 rfl) (hts (.initialized RX0) (by decide +kernel)) (by decide +kernel) ⟨Nat.le_of_ble_eq_true rfl, Nat.le_of_ble_eq_true rfl⟩, hts (.instanceMethod yX0_agreedAmong) (by decide +kernel), hts (.selects RX0 yX0_agreedAmong yX0_agreedAmong) (by decide +kernel)⟩ ⟨PR.blind, va_recv hK hP (ci := 0) (q0 := 3) rfl rfl, PR.go hP hK hE⟩ rfl rfl hl.1 rfl (lv_room (Nat.le_of_ble_eq_true rfl)) dX3_assets_49 ⟨Nat.le_of_ble_eq_true rfl, Nat.le_of_ble_eq_true rfl⟩).run) ?_
        refine lv_isub hx hb dX3_assets_52 ?_
        subst hZ; exact W.iret hx hb hr (fun t ht _ => ⟨_, rfl, rfl, ht⟩) (fun _ h => nomatch h) dX3_assets_53
      · have n_1 : ¬ ((6) ≤ (6)) := fun h => c_1 ((nI_leI (a := 6) (b := 6) (by omega) (by omega)).mpr h)
        exfalso; omega
    | succ n1 ih1 =>
      intro k1 hk1  ls hl
      have hk1b : k1 < 6 := by omega
      refine lv_iload_n hx hb dX3_assets_12 rfl (lv_at hl 0 rfl) ?_
      refine lv_bipush (v := 6) hx hb dX3_assets_13 (by decide) ?_
      refine lv_icmp_ge (tgt := 43) hx hb dX3_assets_15 (by decide) (fun c_2 => ?_) (fun c_2 => ?_)
      · have n_2 : (6) ≤ (k1) := (nI_leI (a := 6) (b := k1) (by omega) (by omega)).mp c_2
        exfalso; omega
      · have n_2 : ¬ ((6) ≤ (k1)) := fun h => c_2 ((nI_leI (a := 6) (b := k1) (by omega) (by omega)).mpr h)
        refine lv_iload_n hx hb dX3_assets_18 rfl (lv_at hl 2 rfl) ?_
        refine lv_iload_n hx hb dX3_assets_19 rfl (lv_at hl 0 rfl) ?_
        refine b_csi (v := bI (mB (mem p 5) k1)) (W.runS (As := [.int (nI (mem p 5)), .int (nI (k1))]) (rest := []) ⟨hx, hb, hml, hown, hts⟩ (c_X3_isMember ll (mem p 5) k1 (lt31 (mem_lt _ _)) (by omega)) (va_cwS 2 hts gX3_assets_X3_isMember rfl rfl rfl (by decide +kernel) ⟨Nat.le_of_ble_eq_true rfl, Nat.le_of_ble_eq_true rfl⟩) ⟨PT.blind, PT.to⟩ rfl rfl hl.1 rfl (lv_room (Nat.le_of_ble_eq_true rfl)) dX3_assets_20 ⟨Nat.le_of_ble_eq_true rfl, Nat.le_of_ble_eq_true rfl⟩) ?_
        refine lv_if_eq (tgt := 37) hx hb dX3_assets_23 (by decide) (fun c_3 => ?_) (fun c_3 => ?_)
        · have n_3 : ¬ (mB (mem p 5) k1) = true := bI0 c_3
          refine lv_iinc (v := nI (k1 + 1)) (lv' := [(3, .int (nI (k1 + 1))), (2, .int (caS oA cR (mem p 5) (k1))), (1, .int (nI (mem p 5))), (0, .ref (a 0))]) hx hb dX3_assets_37 hl (k := 0) rfl (nI_1 (k1)) (by decide) rfl (fun ls hl => ?_)
          refine lv_goto (tgt := 12) hx hb dX3_assets_40 (by decide) ?_
          have e_4 : (caS oA cR (mem p 5) (k1 + 1)) = (caS oA cR (mem p 5) (k1)) := by first | rfl | exact if_pos (by assumption) | exact if_neg (by assumption) | (simp only [caS, n_2, n_3, Bool.false_eq_true, ↓reduceIte])
          exact ih1 (k1 + 1) (by omega) ls (by rw [e_4]; exact lv_sub hl [0, 1, 2, 3] rfl)
        · have n_3 : (mB (mem p 5) k1) = true := bI1 c_3
          refine lv_iload_n hx hb dX3_assets_26 rfl (lv_at hl 1 rfl) ?_
          refine lv_aload_n hx hb dX3_assets_27 rfl (lv_at hl 3 rfl) ?_
          refine va_get (D := D) (ci := 3) (v := .ref (a 2)) (C := RX3) (T := TX3) (N := 6) (Ts := wsX30) hx hb hin (fun _ h9 => h9) hown hK hP 0 rfl rfl 1 (by decide) (hts (.fieldLink RX3 19 "Groupbooks" "books" "LGroupbooks$Books;") (by decide +kernel)) (fun _ h9 => h9) rfl dX3_assets_28 ?_
          refine lv_iload_n hx hb dX3_assets_31 rfl (lv_at hl 0 rfl) ?_
          refine b_csi (v := tr (oA k1) (cR k1)) ((va_runVN (As := [.int (nI (k1))]) (rest := [.int (caS oA cR (mem p 5) (k1))]) ⟨hx, hb, hml, hown, hts⟩ (c_X1_assetsOf ll D a cI cJ p nu de eq am nx oA oD oE oP cR aR hR cl ad gw pr n k1 (by omega)) ⟨va_cnB 1 hts gX3_assets_X1_assetsOf_n124 rfl rfl rfl (hE.nest 9 rfl) (hts (.initialized RX1) (by decide +kernel)) (by decide +kernel) ⟨Nat.le_of_ble_eq_true rfl, Nat.le_of_ble_eq_true rfl⟩, hts (.instanceMethod yX1_assetsOf) (by decide +kernel), hts (.selects RX1 yX1_assetsOf yX1_assetsOf) (by decide +kernel)⟩ ⟨PR.blind, va_recv hK hP (ci := 1) (q0 := 2) rfl rfl, PR.go hP hK hE⟩ rfl rfl hl.1 rfl (lv_room (Nat.le_of_ble_eq_true rfl)) dX3_assets_32 ⟨Nat.le_of_ble_eq_true rfl, Nat.le_of_ble_eq_true rfl⟩).run) ?_
          refine lv_iadd hx hb dX3_assets_35 ?_
          refine lv_istore_n (lv' := [(2, .int ((caS oA cR (mem p 5) (k1)) + (tr (oA k1) (cR k1)))), (3, .int (nI (k1))), (1, .int (nI (mem p 5))), (0, .ref (a 0))]) hx hb dX3_assets_36 rfl hl (by decide) rfl (fun ls hl => ?_)
          refine lv_iinc (v := nI (k1 + 1)) (lv' := [(3, .int (nI (k1 + 1))), (2, .int ((caS oA cR (mem p 5) (k1)) + (tr (oA k1) (cR k1)))), (1, .int (nI (mem p 5))), (0, .ref (a 0))]) hx hb dX3_assets_37 hl (k := 1) rfl (nI_1 (k1)) (by decide) rfl (fun ls hl => ?_)
          refine lv_goto (tgt := 12) hx hb dX3_assets_40 (by decide) ?_
          have e_5 : (caS oA cR (mem p 5) (k1 + 1)) = ((caS oA cR (mem p 5) (k1)) + (tr (oA k1) (cR k1))) := by first | rfl | exact if_pos (by assumption) | exact if_neg (by assumption) | (simp only [caS, n_2, n_3, Bool.false_eq_true, ↓reduceIte])
          exact ih1 (k1 + 1) (by omega) ls (by rw [e_5]; exact lv_sub hl [0, 1, 2, 3] rfl)
  exact L1 (6) 0 (by omega) ls (lv_sub hl [0, 1, 2, 3] rfl)

abbrev rmX3_debts : Room := ({ frames := 4, cells := 0, slots := 0, locals := 90 } : Room)
set_option maxHeartbeats 4000000 in
set_option maxRecDepth 100000 in
theorem c_X3_debts (ll : Launch) (D : va_G) (a : Nat → Nat) (cI cJ : ClassId) (p : Nat → Int32) (nu de eq : Nat → Int64) (am nx oA oD oE oP cR aR hR cl ad gw pr : Nat → Int32) (n : Int32)   : Met ll yX3_debts wsX3_debts rmX3_debts (va_Pc [.ref (a 0)] (PR D (tyG cI cJ) (GW a cI cJ p nu de eq am nx oA oD oE oP cR aR hR cl ad gw pr n))) (vp_Si (fun rr => rr = caS oD cR (mem p 5) 6 - agO cl ad (mem p 5) 6)) 0 0 (fun _ => False) := by
  refine Met.ofW (cc := cX3_debts) (maxL := 4) (ret := (some .int)) (by decide) rfl ?_
  intro pp ee ss mm ar bel mth cde s₁ B hml hv
  obtain ⟨rfl, hP, hK, hE⟩ := hv
  have hx := B.exec
  have hb := B.bytes
  have hr := B.returns
  have hts := atoms_spec (ws := wsX3_debts) B.pre
  have hown : ss.vm.findClass RX3 = some mm.cls := findClass_of_methodNamed B.named
  have hlocks := B.notSynchronized
  have hin : ∀ w ∈ wsX30, w.before ([.ref (a 0)] : List Value).toArray ss = true := fun w h => hts w ((by decide +kernel : ∀ w ∈ wsX30, w ∈ wsX3_debts) w h)
  have hl := lv_entry [.ref (a 0)] (n := 4) (Nat.le_of_ble_eq_true rfl)
  rw [lg_entry_eq]
  generalize (lg_sl [.ref (a 0)] ++ List.replicate (4 - (lg_sl [.ref (a 0)]).length) Slot.unset).toArray = ls at hl ⊢
  have hl : lv_has ls 4 [(0, .ref (a 0))] := hl
  generalize hZ : MQ bel _ _ ss _ _ _ = Z
  refine lv_aload_n hx hb dX3_debts_0 rfl (lv_at hl 0 rfl) ?_
  refine va_get (D := D) (ci := 3) (v := .ref (a 1)) (C := RX3) (T := TX3) (N := 6) (Ts := wsX30) hx hb hin (fun _ h9 => h9) hown hK hP 0 rfl rfl 0 (by decide) (hts (.fieldLink RX3 10 "Groupbooks" "holdings" "LGroupbooks$Holdings;") (by decide +kernel)) (fun _ h9 => h9) rfl dX3_debts_1 ?_
  refine b_csi (v := nI (mem p 5)) ((va_runVN (As := []) (rest := []) ⟨hx, hb, hml, hown, hts⟩ (c_X2_members ll D a cI cJ p nu de eq am nx oA oD oE oP cR aR hR cl ad gw pr n  ) ⟨va_cnB 0 hts gX3_debts_X2_members_n85 rfl rfl rfl (hE.nest 3 rfl) (hts (.initialized RX2) (by decide +kernel)) (by decide +kernel) ⟨Nat.le_of_ble_eq_true rfl, Nat.le_of_ble_eq_true rfl⟩, hts (.instanceMethod yX2_members) (by decide +kernel), hts (.selects RX2 yX2_members yX2_members) (by decide +kernel)⟩ ⟨PR.blind, va_recv hK hP (ci := 2) (q0 := 1) rfl rfl, PR.go hP hK hE⟩ rfl rfl hl.1 rfl (lv_room (Nat.le_of_ble_eq_true rfl)) dX3_debts_4 ⟨Nat.le_of_ble_eq_true rfl, Nat.le_of_ble_eq_true rfl⟩).run) ?_
  refine lv_istore_n (lv' := [(1, .int (nI (mem p 5))), (0, .ref (a 0))]) hx hb dX3_debts_7 rfl hl (by decide) rfl (fun ls hl => ?_)
  refine lv_iconst (v := 0) hx hb dX3_debts_8 (by decide) ?_
  refine lv_istore_n (lv' := [(2, .int (0)), (1, .int (nI (mem p 5))), (0, .ref (a 0))]) hx hb dX3_debts_9 rfl hl (by decide) rfl (fun ls hl => ?_)
  refine lv_iconst (v := 0) hx hb dX3_debts_10 (by decide) ?_
  refine lv_istore_n (lv' := [(3, .int (0)), (2, .int (0)), (1, .int (nI (mem p 5))), (0, .ref (a 0))]) hx hb dX3_debts_11 rfl hl (by decide) rfl (fun ls hl => ?_)
  have L1 : ∀ (n1 k1 : Nat), k1 + n1 = 6 → ∀ (ls : Array Slot), lv_has ls 4 [(3, .int (nI (k1))), (2, .int (caS oD cR (mem p 5) (k1))), (1, .int (nI (mem p 5))), (0, .ref (a 0))] → W pp ll ee rmX3_debts ss mm (([.ref (a 0)] : List Value).toArray) bel mth cde ss.heap [] 0 0 Z (F0 mm 12 ls []) := by
    intro n1
    induction n1 with
    | zero =>
      intro k1 hk1  ls hl
      have hk1b : 6 = k1 := by omega
      subst hk1b
      refine lv_iload_n hx hb dX3_debts_12 rfl (lv_at hl 0 rfl) ?_
      refine lv_bipush (v := 6) hx hb dX3_debts_13 (by decide) ?_
      refine lv_icmp_ge (tgt := 43) hx hb dX3_debts_15 (by decide) (fun c_1 => ?_) (fun c_1 => ?_)
      · have n_1 : (6) ≤ (6) := (nI_leI (a := 6) (b := 6) (by omega) (by omega)).mp c_1
        refine lv_iload_n hx hb dX3_debts_43 rfl (lv_at hl 1 rfl) ?_
        refine lv_aload_n hx hb dX3_debts_44 rfl (lv_at hl 3 rfl) ?_
        refine va_get (D := D) (ci := 3) (v := .ref (a 3)) (C := RX3) (T := TX3) (N := 6) (Ts := wsX30) hx hb hin (fun _ h9 => h9) hown hK hP 0 rfl rfl 2 (by decide) (hts (.fieldLink RX3 26 "Groupbooks" "balances" "LGroupbooks$Balances;") (by decide +kernel)) (fun _ h9 => h9) rfl dX3_debts_45 ?_
        refine lv_iload_n hx hb dX3_debts_48 rfl (lv_at hl 2 rfl) ?_
        refine b_csi (v := agO cl ad (mem p 5) 6) ((va_runVN (As := [.int (nI (mem p 5))]) (rest := [.int (caS oD cR (mem p 5) (6))]) ⟨hx, hb, hml, hown, hts⟩ (c_X0_agreedAmong ll D a cI cJ p nu de eq am nx oA oD oE oP cR aR hR cl ad gw pr n (mem p 5) (lt31 (mem_lt _ _))) ⟨va_cnB 1 hts gX3_debts_X0_agreedAmong_n117 rfl rfl rfl (hE.nest 6 rfl) (hts (.initialized RX0) (by decide +kernel)) (by decide +kernel) ⟨Nat.le_of_ble_eq_true rfl, Nat.le_of_ble_eq_true rfl⟩, hts (.instanceMethod yX0_agreedAmong) (by decide +kernel), hts (.selects RX0 yX0_agreedAmong yX0_agreedAmong) (by decide +kernel)⟩ ⟨PR.blind, va_recv hK hP (ci := 0) (q0 := 3) rfl rfl, PR.go hP hK hE⟩ rfl rfl hl.1 rfl (lv_room (Nat.le_of_ble_eq_true rfl)) dX3_debts_49 ⟨Nat.le_of_ble_eq_true rfl, Nat.le_of_ble_eq_true rfl⟩).run) ?_
        refine lv_isub hx hb dX3_debts_52 ?_
        subst hZ; exact W.iret hx hb hr (fun t ht _ => ⟨_, rfl, rfl, ht⟩) (fun _ h => nomatch h) dX3_debts_53
      · have n_1 : ¬ ((6) ≤ (6)) := fun h => c_1 ((nI_leI (a := 6) (b := 6) (by omega) (by omega)).mpr h)
        exfalso; omega
    | succ n1 ih1 =>
      intro k1 hk1  ls hl
      have hk1b : k1 < 6 := by omega
      refine lv_iload_n hx hb dX3_debts_12 rfl (lv_at hl 0 rfl) ?_
      refine lv_bipush (v := 6) hx hb dX3_debts_13 (by decide) ?_
      refine lv_icmp_ge (tgt := 43) hx hb dX3_debts_15 (by decide) (fun c_2 => ?_) (fun c_2 => ?_)
      · have n_2 : (6) ≤ (k1) := (nI_leI (a := 6) (b := k1) (by omega) (by omega)).mp c_2
        exfalso; omega
      · have n_2 : ¬ ((6) ≤ (k1)) := fun h => c_2 ((nI_leI (a := 6) (b := k1) (by omega) (by omega)).mpr h)
        refine lv_iload_n hx hb dX3_debts_18 rfl (lv_at hl 2 rfl) ?_
        refine lv_iload_n hx hb dX3_debts_19 rfl (lv_at hl 0 rfl) ?_
        refine b_csi (v := bI (mB (mem p 5) k1)) (W.runS (As := [.int (nI (mem p 5)), .int (nI (k1))]) (rest := []) ⟨hx, hb, hml, hown, hts⟩ (c_X3_isMember ll (mem p 5) k1 (lt31 (mem_lt _ _)) (by omega)) (va_cwS 2 hts gX3_debts_X3_isMember rfl rfl rfl (by decide +kernel) ⟨Nat.le_of_ble_eq_true rfl, Nat.le_of_ble_eq_true rfl⟩) ⟨PT.blind, PT.to⟩ rfl rfl hl.1 rfl (lv_room (Nat.le_of_ble_eq_true rfl)) dX3_debts_20 ⟨Nat.le_of_ble_eq_true rfl, Nat.le_of_ble_eq_true rfl⟩) ?_
        refine lv_if_eq (tgt := 37) hx hb dX3_debts_23 (by decide) (fun c_3 => ?_) (fun c_3 => ?_)
        · have n_3 : ¬ (mB (mem p 5) k1) = true := bI0 c_3
          refine lv_iinc (v := nI (k1 + 1)) (lv' := [(3, .int (nI (k1 + 1))), (2, .int (caS oD cR (mem p 5) (k1))), (1, .int (nI (mem p 5))), (0, .ref (a 0))]) hx hb dX3_debts_37 hl (k := 0) rfl (nI_1 (k1)) (by decide) rfl (fun ls hl => ?_)
          refine lv_goto (tgt := 12) hx hb dX3_debts_40 (by decide) ?_
          have e_4 : (caS oD cR (mem p 5) (k1 + 1)) = (caS oD cR (mem p 5) (k1)) := by first | rfl | exact if_pos (by assumption) | exact if_neg (by assumption) | (simp only [caS, n_2, n_3, Bool.false_eq_true, ↓reduceIte])
          exact ih1 (k1 + 1) (by omega) ls (by rw [e_4]; exact lv_sub hl [0, 1, 2, 3] rfl)
        · have n_3 : (mB (mem p 5) k1) = true := bI1 c_3
          refine lv_iload_n hx hb dX3_debts_26 rfl (lv_at hl 1 rfl) ?_
          refine lv_aload_n hx hb dX3_debts_27 rfl (lv_at hl 3 rfl) ?_
          refine va_get (D := D) (ci := 3) (v := .ref (a 2)) (C := RX3) (T := TX3) (N := 6) (Ts := wsX30) hx hb hin (fun _ h9 => h9) hown hK hP 0 rfl rfl 1 (by decide) (hts (.fieldLink RX3 19 "Groupbooks" "books" "LGroupbooks$Books;") (by decide +kernel)) (fun _ h9 => h9) rfl dX3_debts_28 ?_
          refine lv_iload_n hx hb dX3_debts_31 rfl (lv_at hl 0 rfl) ?_
          refine b_csi (v := tr (oD k1) (cR k1)) ((va_runVN (As := [.int (nI (k1))]) (rest := [.int (caS oD cR (mem p 5) (k1))]) ⟨hx, hb, hml, hown, hts⟩ (c_X1_debtsOf ll D a cI cJ p nu de eq am nx oA oD oE oP cR aR hR cl ad gw pr n k1 (by omega)) ⟨va_cnB 1 hts gX3_debts_X1_debtsOf_n127 rfl rfl rfl (hE.nest 10 rfl) (hts (.initialized RX1) (by decide +kernel)) (by decide +kernel) ⟨Nat.le_of_ble_eq_true rfl, Nat.le_of_ble_eq_true rfl⟩, hts (.instanceMethod yX1_debtsOf) (by decide +kernel), hts (.selects RX1 yX1_debtsOf yX1_debtsOf) (by decide +kernel)⟩ ⟨PR.blind, va_recv hK hP (ci := 1) (q0 := 2) rfl rfl, PR.go hP hK hE⟩ rfl rfl hl.1 rfl (lv_room (Nat.le_of_ble_eq_true rfl)) dX3_debts_32 ⟨Nat.le_of_ble_eq_true rfl, Nat.le_of_ble_eq_true rfl⟩).run) ?_
          refine lv_iadd hx hb dX3_debts_35 ?_
          refine lv_istore_n (lv' := [(2, .int ((caS oD cR (mem p 5) (k1)) + (tr (oD k1) (cR k1)))), (3, .int (nI (k1))), (1, .int (nI (mem p 5))), (0, .ref (a 0))]) hx hb dX3_debts_36 rfl hl (by decide) rfl (fun ls hl => ?_)
          refine lv_iinc (v := nI (k1 + 1)) (lv' := [(3, .int (nI (k1 + 1))), (2, .int ((caS oD cR (mem p 5) (k1)) + (tr (oD k1) (cR k1)))), (1, .int (nI (mem p 5))), (0, .ref (a 0))]) hx hb dX3_debts_37 hl (k := 1) rfl (nI_1 (k1)) (by decide) rfl (fun ls hl => ?_)
          refine lv_goto (tgt := 12) hx hb dX3_debts_40 (by decide) ?_
          have e_5 : (caS oD cR (mem p 5) (k1 + 1)) = ((caS oD cR (mem p 5) (k1)) + (tr (oD k1) (cR k1))) := by first | rfl | exact if_pos (by assumption) | exact if_neg (by assumption) | (simp only [caS, n_2, n_3, Bool.false_eq_true, ↓reduceIte])
          exact ih1 (k1 + 1) (by omega) ls (by rw [e_5]; exact lv_sub hl [0, 1, 2, 3] rfl)
  exact L1 (6) 0 (by omega) ls (lv_sub hl [0, 1, 2, 3] rfl)

abbrev rmX3_minorityAmong : Room := ({ frames := 4, cells := 0, slots := 0, locals := 85 } : Room)
set_option maxHeartbeats 4000000 in
set_option maxRecDepth 100000 in
theorem c_X3_minorityAmong (ll : Launch) (D : va_G) (a : Nat → Nat) (cI cJ : ClassId) (p : Nat → Int32) (nu de eq : Nat → Int64) (am nx oA oD oE oP cR aR hR cl ad gw pr : Nat → Int32) (n : Int32) (M c : Nat) (hM : M < 2 ^ 31) (hc : c < 6) : Met ll yX3_minorityAmong wsX3_minorityAmong rmX3_minorityAmong (va_Pc [.ref (a 0), .int (nI (M)), .int (nI (c))] (PR D (tyG cI cJ) (GW a cI cJ p nu de eq am nx oA oD oE oP cR aR hR cl ad gw pr n))) (vp_Si (fun rr => rr = mAm oA oD cR nu de M c)) 0 0 (fun _ => False) := by
  refine Met.ofW (cc := cX3_minorityAmong) (maxL := 3) (ret := (some .int)) (by decide) rfl ?_
  intro pp ee ss mm ar bel mth cde s₁ B hml hv
  obtain ⟨rfl, hP, hK, hE⟩ := hv
  have hx := B.exec
  have hb := B.bytes
  have hr := B.returns
  have hts := atoms_spec (ws := wsX3_minorityAmong) B.pre
  have hown : ss.vm.findClass RX3 = some mm.cls := findClass_of_methodNamed B.named
  have hlocks := B.notSynchronized
  have hin : ∀ w ∈ wsX30, w.before ([.ref (a 0), .int (nI (M)), .int (nI (c))] : List Value).toArray ss = true := fun w h => hts w ((by decide +kernel : ∀ w ∈ wsX30, w ∈ wsX3_minorityAmong) w h)
  have hl := lv_entry [.ref (a 0), .int (nI (M)), .int (nI (c))] (n := 3) (Nat.le_of_ble_eq_true rfl)
  rw [lg_entry_eq]
  generalize (lg_sl [.ref (a 0), .int (nI (M)), .int (nI (c))] ++ List.replicate (3 - (lg_sl [.ref (a 0), .int (nI (M)), .int (nI (c))]).length) Slot.unset).toArray = ls at hl ⊢
  have hl : lv_has ls 3 [(0, .ref (a 0)), (1, .int (nI (M))), (2, .int (nI (c)))] := hl
  refine lv_iload_n hx hb dX3_minorityAmong_0 rfl (lv_at hl 1 rfl) ?_
  refine lv_iload_n hx hb dX3_minorityAmong_1 rfl (lv_at hl 2 rfl) ?_
  refine b_csi (v := bI (mB M c)) (W.runS (As := [.int (nI (M)), .int (nI (c))]) (rest := []) ⟨hx, hb, hml, hown, hts⟩ (c_X3_isMember ll M c hM (by omega)) (va_cwS 2 hts gX3_minorityAmong_X3_isMember rfl rfl rfl (by decide +kernel) ⟨Nat.le_of_ble_eq_true rfl, Nat.le_of_ble_eq_true rfl⟩) ⟨PT.blind, PT.to⟩ rfl rfl hl.1 rfl (lv_room (Nat.le_of_ble_eq_true rfl)) dX3_minorityAmong_2 ⟨Nat.le_of_ble_eq_true rfl, Nat.le_of_ble_eq_true rfl⟩) ?_
  refine lv_if_eq (tgt := 27) hx hb dX3_minorityAmong_5 (by decide) (fun c_1 => ?_) (fun c_1 => ?_)
  · have n_1 : ¬ (mB M c) = true := bI0 c_1
    refine lv_iconst (v := 0) hx hb dX3_minorityAmong_27 (by decide) ?_
    exact W.iret hx hb hr (fun t ht _ => ⟨_, rfl, (by simp only [mAm, n_1, Bool.false_eq_true, ↓reduceIte]), ht⟩) (fun _ h => nomatch h) dX3_minorityAmong_28
  · have n_1 : (mB M c) = true := bI1 c_1
    refine lv_aload_n hx hb dX3_minorityAmong_8 rfl (lv_at hl 0 rfl) ?_
    refine va_get (D := D) (ci := 3) (v := .ref (a 1)) (C := RX3) (T := TX3) (N := 6) (Ts := wsX30) hx hb hin (fun _ h9 => h9) hown hK hP 0 rfl rfl 0 (by decide) (hts (.fieldLink RX3 10 "Groupbooks" "holdings" "LGroupbooks$Holdings;") (by decide +kernel)) (fun _ h9 => h9) rfl dX3_minorityAmong_9 ?_
    refine lv_iload_n hx hb dX3_minorityAmong_12 rfl (lv_at hl 2 rfl) ?_
    refine lv_aload_n hx hb dX3_minorityAmong_13 rfl (lv_at hl 0 rfl) ?_
    refine va_get (D := D) (ci := 3) (v := .ref (a 2)) (C := RX3) (T := TX3) (N := 6) (Ts := wsX30) hx hb hin (fun _ h9 => h9) hown hK hP 0 rfl rfl 1 (by decide) (hts (.fieldLink RX3 19 "Groupbooks" "books" "LGroupbooks$Books;") (by decide +kernel)) (fun _ h9 => h9) rfl dX3_minorityAmong_14 ?_
    refine lv_iload_n hx hb dX3_minorityAmong_17 rfl (lv_at hl 2 rfl) ?_
    refine b_csi (v := tr (oA c) (cR c) - tr (oD c) (cR c)) ((va_runVN (As := [.int (nI (c))]) (rest := [.int (nI (c)), .ref (a 1)]) ⟨hx, hb, hml, hown, hts⟩ (c_X1_netOf ll D a cI cJ p nu de eq am nx oA oD oE oP cR aR hR cl ad gw pr n c (by omega)) ⟨va_cnB 1 hts gX3_minorityAmong_X1_netOf_n62 rfl rfl rfl (hE.nest 11 rfl) (hts (.initialized RX1) (by decide +kernel)) (by decide +kernel) ⟨Nat.le_of_ble_eq_true rfl, Nat.le_of_ble_eq_true rfl⟩, hts (.instanceMethod yX1_netOf) (by decide +kernel), hts (.selects RX1 yX1_netOf yX1_netOf) (by decide +kernel)⟩ ⟨PR.blind, va_recv hK hP (ci := 1) (q0 := 2) rfl rfl, PR.go hP hK hE⟩ rfl rfl hl.1 rfl (lv_room (Nat.le_of_ble_eq_true rfl)) dX3_minorityAmong_18 ⟨Nat.le_of_ble_eq_true rfl, Nat.le_of_ble_eq_true rfl⟩).run) ?_
    refine b_csi (v := scl (tr (oA c) (cR c) - tr (oD c) (cR c)) (de c - nu c) (de c)) ((va_runVN (As := [.int (nI (c)), .int (tr (oA c) (cR c) - tr (oD c) (cR c))]) (rest := []) ⟨hx, hb, hml, hown, hts⟩ (c_X2_partOfOthers ll D a cI cJ p nu de eq am nx oA oD oE oP cR aR hR cl ad gw pr n c (tr (oA c) (cR c) - tr (oD c) (cR c)) (by omega)) ⟨va_cnB 2 hts gX3_minorityAmong_X2_partOfOthers_n160 rfl rfl rfl (hE.nest 12 rfl) (hts (.initialized RX2) (by decide +kernel)) (by decide +kernel) ⟨Nat.le_of_ble_eq_true rfl, Nat.le_of_ble_eq_true rfl⟩, hts (.instanceMethod yX2_partOfOthers) (by decide +kernel), hts (.selects RX2 yX2_partOfOthers yX2_partOfOthers) (by decide +kernel)⟩ ⟨PR.blind, va_recv hK hP (ci := 2) (q0 := 1) rfl rfl, PR.go hP hK hE⟩ rfl rfl hl.1 rfl (lv_room (Nat.le_of_ble_eq_true rfl)) dX3_minorityAmong_21 ⟨Nat.le_of_ble_eq_true rfl, Nat.le_of_ble_eq_true rfl⟩).run) ?_
    refine lv_goto (tgt := 28) hx hb dX3_minorityAmong_24 (by decide) ?_
    exact W.iret hx hb hr (fun t ht _ => ⟨_, rfl, (by simp only [mAm, n_1, Bool.false_eq_true, ↓reduceIte]), ht⟩) (fun _ h => nomatch h) dX3_minorityAmong_28

abbrev rmX3_minority : Room := ({ frames := 5, cells := 0, slots := 0, locals := 107 } : Room)
set_option maxHeartbeats 4000000 in
set_option maxRecDepth 100000 in
theorem c_X3_minority (ll : Launch) (D : va_G) (a : Nat → Nat) (cI cJ : ClassId) (p : Nat → Int32) (nu de eq : Nat → Int64) (am nx oA oD oE oP cR aR hR cl ad gw pr : Nat → Int32) (n : Int32) (c : Nat) (hc : c < 6) : Met ll yX3_minority wsX3_minority rmX3_minority (va_Pc [.ref (a 0), .int (nI (c))] (PR D (tyG cI cJ) (GW a cI cJ p nu de eq am nx oA oD oE oP cR aR hR cl ad gw pr n))) (vp_Si (fun rr => rr = mAm oA oD cR nu de (mem p 5) c)) 0 0 (fun _ => False) := by
  refine Met.ofW (cc := cX3_minority) (maxL := 2) (ret := (some .int)) (by decide) rfl ?_
  intro pp ee ss mm ar bel mth cde s₁ B hml hv
  obtain ⟨rfl, hP, hK, hE⟩ := hv
  have hx := B.exec
  have hb := B.bytes
  have hr := B.returns
  have hts := atoms_spec (ws := wsX3_minority) B.pre
  have hown : ss.vm.findClass RX3 = some mm.cls := findClass_of_methodNamed B.named
  have hlocks := B.notSynchronized
  have hin : ∀ w ∈ wsX30, w.before ([.ref (a 0), .int (nI (c))] : List Value).toArray ss = true := fun w h => hts w ((by decide +kernel : ∀ w ∈ wsX30, w ∈ wsX3_minority) w h)
  have hl := lv_entry [.ref (a 0), .int (nI (c))] (n := 2) (Nat.le_of_ble_eq_true rfl)
  rw [lg_entry_eq]
  generalize (lg_sl [.ref (a 0), .int (nI (c))] ++ List.replicate (2 - (lg_sl [.ref (a 0), .int (nI (c))]).length) Slot.unset).toArray = ls at hl ⊢
  have hl : lv_has ls 2 [(0, .ref (a 0)), (1, .int (nI (c)))] := hl
  refine lv_iload_n hx hb dX3_minority_0 rfl (lv_at hl 1 rfl) ?_
  refine va_csv (W.runS (As := [.int (nI (c))]) (rest := []) ⟨hx, hb, hml, hown, hts⟩ (c_X3_requireCompany_ok ll (nI (c)) (inB_c c hc)) (va_cwS 1 hts gX3_minority_X3_requireCompany rfl rfl rfl (by decide +kernel) ⟨Nat.le_of_ble_eq_true rfl, Nat.le_of_ble_eq_true rfl⟩) ⟨PT.blind, PT.to⟩ rfl rfl hl.1 rfl (lv_room (Nat.le_of_ble_eq_true rfl)) dX3_minority_1 ⟨Nat.le_of_ble_eq_true rfl, Nat.le_of_ble_eq_true rfl⟩) (fun _ => ?_)
  refine lv_aload_n hx hb dX3_minority_4 rfl (lv_at hl 0 rfl) ?_
  refine lv_aload_n hx hb dX3_minority_5 rfl (lv_at hl 0 rfl) ?_
  refine va_get (D := D) (ci := 3) (v := .ref (a 1)) (C := RX3) (T := TX3) (N := 6) (Ts := wsX30) hx hb hin (fun _ h9 => h9) hown hK hP 0 rfl rfl 0 (by decide) (hts (.fieldLink RX3 10 "Groupbooks" "holdings" "LGroupbooks$Holdings;") (by decide +kernel)) (fun _ h9 => h9) rfl dX3_minority_6 ?_
  refine b_csi (v := nI (mem p 5)) ((va_runVN (As := []) (rest := [.ref (a 0)]) ⟨hx, hb, hml, hown, hts⟩ (c_X2_members ll D a cI cJ p nu de eq am nx oA oD oE oP cR aR hR cl ad gw pr n  ) ⟨va_cnB 0 hts gX3_minority_X2_members_n85 rfl rfl rfl (hE.nest 3 rfl) (hts (.initialized RX2) (by decide +kernel)) (by decide +kernel) ⟨Nat.le_of_ble_eq_true rfl, Nat.le_of_ble_eq_true rfl⟩, hts (.instanceMethod yX2_members) (by decide +kernel), hts (.selects RX2 yX2_members yX2_members) (by decide +kernel)⟩ ⟨PR.blind, va_recv hK hP (ci := 2) (q0 := 1) rfl rfl, PR.go hP hK hE⟩ rfl rfl hl.1 rfl (lv_room (Nat.le_of_ble_eq_true rfl)) dX3_minority_9 ⟨Nat.le_of_ble_eq_true rfl, Nat.le_of_ble_eq_true rfl⟩).run) ?_
  refine lv_iload_n hx hb dX3_minority_12 rfl (lv_at hl 1 rfl) ?_
  refine b_csi (v := mAm oA oD cR nu de (mem p 5) c) (W.runV (As := [.int (nI (mem p 5)), .int (nI (c))]) (rest := []) ⟨hx, hb, hml, hown, hts⟩ (c_X3_minorityAmong ll D a cI cJ p nu de eq am nx oA oD oE oP cR aR hR cl ad gw pr n (mem p 5) c (lt31 (mem_lt _ _)) hc) (cwV 2 hts gX3_minority_X3_minorityAmong rfl rfl rfl (by decide +kernel) ⟨Nat.le_of_ble_eq_true rfl, Nat.le_of_ble_eq_true rfl⟩) ⟨PR.blind, va_recv hK hP (ci := 3) (q0 := 0) rfl rfl, PR.go hP hK hE⟩ rfl rfl hl.1 rfl (lv_room (Nat.le_of_ble_eq_true rfl)) dX3_minority_13 ⟨Nat.le_of_ble_eq_true rfl, Nat.le_of_ble_eq_true rfl⟩) ?_
  exact W.iret hx hb hr (fun t ht _ => ⟨_, rfl, rfl, ht⟩) (fun _ h => nomatch h) dX3_minority_16

abbrev rmX3_equity : Room := ({ frames := 5, cells := 0, slots := 0, locals := 113 } : Room)
set_option maxHeartbeats 4000000 in
set_option maxRecDepth 100000 in
theorem c_X3_equity (ll : Launch) (D : va_G) (a : Nat → Nat) (cI cJ : ClassId) (p : Nat → Int32) (nu de eq : Nat → Int64) (am nx oA oD oE oP cR aR hR cl ad gw pr : Nat → Int32) (n : Int32)   : Met ll yX3_equity wsX3_equity rmX3_equity (va_Pc [.ref (a 0)] (PR D (tyG cI cJ) (GW a cI cJ p nu de eq am nx oA oD oE oP cR aR hR cl ad gw pr n))) (vp_Si (fun rr => rr = caS oA cR (mem p 5) 6 - agO cl ad (mem p 5) 6 - (caS oD cR (mem p 5) 6 - agO cl ad (mem p 5) 6) - cmS oA oD cR nu de (mem p 5) 6)) 0 0 (fun _ => False) := by
  refine Met.ofW (cc := cX3_equity) (maxL := 4) (ret := (some .int)) (by decide) rfl ?_
  intro pp ee ss mm ar bel mth cde s₁ B hml hv
  obtain ⟨rfl, hP, hK, hE⟩ := hv
  have hx := B.exec
  have hb := B.bytes
  have hr := B.returns
  have hts := atoms_spec (ws := wsX3_equity) B.pre
  have hown : ss.vm.findClass RX3 = some mm.cls := findClass_of_methodNamed B.named
  have hlocks := B.notSynchronized
  have hin : ∀ w ∈ wsX30, w.before ([.ref (a 0)] : List Value).toArray ss = true := fun w h => hts w ((by decide +kernel : ∀ w ∈ wsX30, w ∈ wsX3_equity) w h)
  have hl := lv_entry [.ref (a 0)] (n := 4) (Nat.le_of_ble_eq_true rfl)
  rw [lg_entry_eq]
  generalize (lg_sl [.ref (a 0)] ++ List.replicate (4 - (lg_sl [.ref (a 0)]).length) Slot.unset).toArray = ls at hl ⊢
  have hl : lv_has ls 4 [(0, .ref (a 0))] := hl
  generalize hZ : MQ bel _ _ ss _ _ _ = Z
  refine lv_aload_n hx hb dX3_equity_0 rfl (lv_at hl 0 rfl) ?_
  refine va_get (D := D) (ci := 3) (v := .ref (a 1)) (C := RX3) (T := TX3) (N := 6) (Ts := wsX30) hx hb hin (fun _ h9 => h9) hown hK hP 0 rfl rfl 0 (by decide) (hts (.fieldLink RX3 10 "Groupbooks" "holdings" "LGroupbooks$Holdings;") (by decide +kernel)) (fun _ h9 => h9) rfl dX3_equity_1 ?_
  refine b_csi (v := nI (mem p 5)) ((va_runVN (As := []) (rest := []) ⟨hx, hb, hml, hown, hts⟩ (c_X2_members ll D a cI cJ p nu de eq am nx oA oD oE oP cR aR hR cl ad gw pr n  ) ⟨va_cnB 0 hts gX3_equity_X2_members_n85 rfl rfl rfl (hE.nest 3 rfl) (hts (.initialized RX2) (by decide +kernel)) (by decide +kernel) ⟨Nat.le_of_ble_eq_true rfl, Nat.le_of_ble_eq_true rfl⟩, hts (.instanceMethod yX2_members) (by decide +kernel), hts (.selects RX2 yX2_members yX2_members) (by decide +kernel)⟩ ⟨PR.blind, va_recv hK hP (ci := 2) (q0 := 1) rfl rfl, PR.go hP hK hE⟩ rfl rfl hl.1 rfl (lv_room (Nat.le_of_ble_eq_true rfl)) dX3_equity_4 ⟨Nat.le_of_ble_eq_true rfl, Nat.le_of_ble_eq_true rfl⟩).run) ?_
  refine lv_istore_n (lv' := [(1, .int (nI (mem p 5))), (0, .ref (a 0))]) hx hb dX3_equity_7 rfl hl (by decide) rfl (fun ls hl => ?_)
  refine lv_iconst (v := 0) hx hb dX3_equity_8 (by decide) ?_
  refine lv_istore_n (lv' := [(2, .int (0)), (1, .int (nI (mem p 5))), (0, .ref (a 0))]) hx hb dX3_equity_9 rfl hl (by decide) rfl (fun ls hl => ?_)
  refine lv_iconst (v := 0) hx hb dX3_equity_10 (by decide) ?_
  refine lv_istore_n (lv' := [(3, .int (0)), (2, .int (0)), (1, .int (nI (mem p 5))), (0, .ref (a 0))]) hx hb dX3_equity_11 rfl hl (by decide) rfl (fun ls hl => ?_)
  have L1 : ∀ (n1 k1 : Nat), k1 + n1 = 6 → ∀ (ls : Array Slot), lv_has ls 4 [(3, .int (nI (k1))), (2, .int (cmS oA oD cR nu de (mem p 5) (k1))), (1, .int (nI (mem p 5))), (0, .ref (a 0))] → W pp ll ee rmX3_equity ss mm (([.ref (a 0)] : List Value).toArray) bel mth cde ss.heap [] 0 0 Z (F0 mm 12 ls []) := by
    intro n1
    induction n1 with
    | zero =>
      intro k1 hk1  ls hl
      have hk1b : 6 = k1 := by omega
      subst hk1b
      refine lv_iload_n hx hb dX3_equity_12 rfl (lv_at hl 0 rfl) ?_
      refine lv_bipush (v := 6) hx hb dX3_equity_13 (by decide) ?_
      refine lv_icmp_ge (tgt := 33) hx hb dX3_equity_15 (by decide) (fun c_1 => ?_) (fun c_1 => ?_)
      · have n_1 : (6) ≤ (6) := (nI_leI (a := 6) (b := 6) (by omega) (by omega)).mp c_1
        refine lv_aload_n hx hb dX3_equity_33 rfl (lv_at hl 3 rfl) ?_
        refine b_csi (v := caS oA cR (mem p 5) 6 - agO cl ad (mem p 5) 6) (W.runV (As := []) (rest := []) ⟨hx, hb, hml, hown, hts⟩ (c_X3_assets ll D a cI cJ p nu de eq am nx oA oD oE oP cR aR hR cl ad gw pr n  ) (cwV 0 hts gX3_equity_X3_assets rfl rfl rfl (by decide +kernel) ⟨Nat.le_of_ble_eq_true rfl, Nat.le_of_ble_eq_true rfl⟩) ⟨PR.blind, va_recv hK hP (ci := 3) (q0 := 0) rfl rfl, PR.go hP hK hE⟩ rfl rfl hl.1 rfl (lv_room (Nat.le_of_ble_eq_true rfl)) dX3_equity_34 ⟨Nat.le_of_ble_eq_true rfl, Nat.le_of_ble_eq_true rfl⟩) ?_
        refine lv_aload_n hx hb dX3_equity_37 rfl (lv_at hl 3 rfl) ?_
        refine b_csi (v := caS oD cR (mem p 5) 6 - agO cl ad (mem p 5) 6) (W.runV (As := []) (rest := [.int (caS oA cR (mem p 5) 6 - agO cl ad (mem p 5) 6)]) ⟨hx, hb, hml, hown, hts⟩ (c_X3_debts ll D a cI cJ p nu de eq am nx oA oD oE oP cR aR hR cl ad gw pr n  ) (cwV 0 hts gX3_equity_X3_debts rfl rfl rfl (by decide +kernel) ⟨Nat.le_of_ble_eq_true rfl, Nat.le_of_ble_eq_true rfl⟩) ⟨PR.blind, va_recv hK hP (ci := 3) (q0 := 0) rfl rfl, PR.go hP hK hE⟩ rfl rfl hl.1 rfl (lv_room (Nat.le_of_ble_eq_true rfl)) dX3_equity_38 ⟨Nat.le_of_ble_eq_true rfl, Nat.le_of_ble_eq_true rfl⟩) ?_
        refine lv_isub hx hb dX3_equity_41 ?_
        refine lv_iload_n hx hb dX3_equity_42 rfl (lv_at hl 1 rfl) ?_
        refine lv_isub hx hb dX3_equity_43 ?_
        subst hZ; exact W.iret hx hb hr (fun t ht _ => ⟨_, rfl, rfl, ht⟩) (fun _ h => nomatch h) dX3_equity_44
      · have n_1 : ¬ ((6) ≤ (6)) := fun h => c_1 ((nI_leI (a := 6) (b := 6) (by omega) (by omega)).mpr h)
        exfalso; omega
    | succ n1 ih1 =>
      intro k1 hk1  ls hl
      have hk1b : k1 < 6 := by omega
      refine lv_iload_n hx hb dX3_equity_12 rfl (lv_at hl 0 rfl) ?_
      refine lv_bipush (v := 6) hx hb dX3_equity_13 (by decide) ?_
      refine lv_icmp_ge (tgt := 33) hx hb dX3_equity_15 (by decide) (fun c_2 => ?_) (fun c_2 => ?_)
      · have n_2 : (6) ≤ (k1) := (nI_leI (a := 6) (b := k1) (by omega) (by omega)).mp c_2
        exfalso; omega
      · have n_2 : ¬ ((6) ≤ (k1)) := fun h => c_2 ((nI_leI (a := 6) (b := k1) (by omega) (by omega)).mpr h)
        refine lv_iload_n hx hb dX3_equity_18 rfl (lv_at hl 1 rfl) ?_
        refine lv_aload_n hx hb dX3_equity_19 rfl (lv_at hl 3 rfl) ?_
        refine lv_iload_n hx hb dX3_equity_20 rfl (lv_at hl 2 rfl) ?_
        refine lv_iload_n hx hb dX3_equity_21 rfl (lv_at hl 0 rfl) ?_
        refine b_csi (v := mAm oA oD cR nu de (mem p 5) k1) (W.runV (As := [.int (nI (mem p 5)), .int (nI (k1))]) (rest := [.int (cmS oA oD cR nu de (mem p 5) (k1))]) ⟨hx, hb, hml, hown, hts⟩ (c_X3_minorityAmong ll D a cI cJ p nu de eq am nx oA oD oE oP cR aR hR cl ad gw pr n (mem p 5) k1 (lt31 (mem_lt _ _)) (by omega)) (cwV 2 hts gX3_equity_X3_minorityAmong rfl rfl rfl (by decide +kernel) ⟨Nat.le_of_ble_eq_true rfl, Nat.le_of_ble_eq_true rfl⟩) ⟨PR.blind, va_recv hK hP (ci := 3) (q0 := 0) rfl rfl, PR.go hP hK hE⟩ rfl rfl hl.1 rfl (lv_room (Nat.le_of_ble_eq_true rfl)) dX3_equity_22 ⟨Nat.le_of_ble_eq_true rfl, Nat.le_of_ble_eq_true rfl⟩) ?_
        refine lv_iadd hx hb dX3_equity_25 ?_
        refine lv_istore_n (lv' := [(2, .int ((cmS oA oD cR nu de (mem p 5) (k1)) + (mAm oA oD cR nu de (mem p 5) k1))), (3, .int (nI (k1))), (1, .int (nI (mem p 5))), (0, .ref (a 0))]) hx hb dX3_equity_26 rfl hl (by decide) rfl (fun ls hl => ?_)
        refine lv_iinc (v := nI (k1 + 1)) (lv' := [(3, .int (nI (k1 + 1))), (2, .int ((cmS oA oD cR nu de (mem p 5) (k1)) + (mAm oA oD cR nu de (mem p 5) k1))), (1, .int (nI (mem p 5))), (0, .ref (a 0))]) hx hb dX3_equity_27 hl (k := 1) rfl (nI_1 (k1)) (by decide) rfl (fun ls hl => ?_)
        refine lv_goto (tgt := 12) hx hb dX3_equity_30 (by decide) ?_
        have e_3 : (cmS oA oD cR nu de (mem p 5) (k1 + 1)) = ((cmS oA oD cR nu de (mem p 5) (k1)) + (mAm oA oD cR nu de (mem p 5) k1)) := by first | rfl | exact if_pos (by assumption) | exact if_neg (by assumption) | (simp only [n_2, Bool.false_eq_true, ↓reduceIte])
        exact ih1 (k1 + 1) (by omega) ls (by rw [e_3]; exact lv_sub hl [0, 1, 2, 3] rfl)
  exact L1 (6) 0 (by omega) ls (lv_sub hl [0, 1, 2, 3] rfl)

abbrev rmX3_result : Room := ({ frames := 4, cells := 0, slots := 0, locals := 90 } : Room)
set_option maxHeartbeats 4000000 in
set_option maxRecDepth 100000 in
theorem c_X3_result (ll : Launch) (D : va_G) (a : Nat → Nat) (cI cJ : ClassId) (p : Nat → Int32) (nu de eq : Nat → Int64) (am nx oA oD oE oP cR aR hR cl ad gw pr : Nat → Int32) (n : Int32)   : Met ll yX3_result wsX3_result rmX3_result (va_Pc [.ref (a 0)] (PR D (tyG cI cJ) (GW a cI cJ p nu de eq am nx oA oD oE oP cR aR hR cl ad gw pr n))) (vp_Si (fun rr => rr = crS oP aR nu de (mem p 5) 6)) 0 0 (fun _ => False) := by
  refine Met.ofW (cc := cX3_result) (maxL := 4) (ret := (some .int)) (by decide) rfl ?_
  intro pp ee ss mm ar bel mth cde s₁ B hml hv
  obtain ⟨rfl, hP, hK, hE⟩ := hv
  have hx := B.exec
  have hb := B.bytes
  have hr := B.returns
  have hts := atoms_spec (ws := wsX3_result) B.pre
  have hown : ss.vm.findClass RX3 = some mm.cls := findClass_of_methodNamed B.named
  have hlocks := B.notSynchronized
  have hin : ∀ w ∈ wsX30, w.before ([.ref (a 0)] : List Value).toArray ss = true := fun w h => hts w ((by decide +kernel : ∀ w ∈ wsX30, w ∈ wsX3_result) w h)
  have hl := lv_entry [.ref (a 0)] (n := 4) (Nat.le_of_ble_eq_true rfl)
  rw [lg_entry_eq]
  generalize (lg_sl [.ref (a 0)] ++ List.replicate (4 - (lg_sl [.ref (a 0)]).length) Slot.unset).toArray = ls at hl ⊢
  have hl : lv_has ls 4 [(0, .ref (a 0))] := hl
  generalize hZ : MQ bel _ _ ss _ _ _ = Z
  refine lv_aload_n hx hb dX3_result_0 rfl (lv_at hl 0 rfl) ?_
  refine va_get (D := D) (ci := 3) (v := .ref (a 1)) (C := RX3) (T := TX3) (N := 6) (Ts := wsX30) hx hb hin (fun _ h9 => h9) hown hK hP 0 rfl rfl 0 (by decide) (hts (.fieldLink RX3 10 "Groupbooks" "holdings" "LGroupbooks$Holdings;") (by decide +kernel)) (fun _ h9 => h9) rfl dX3_result_1 ?_
  refine b_csi (v := nI (mem p 5)) ((va_runVN (As := []) (rest := []) ⟨hx, hb, hml, hown, hts⟩ (c_X2_members ll D a cI cJ p nu de eq am nx oA oD oE oP cR aR hR cl ad gw pr n  ) ⟨va_cnB 0 hts gX3_result_X2_members_n85 rfl rfl rfl (hE.nest 3 rfl) (hts (.initialized RX2) (by decide +kernel)) (by decide +kernel) ⟨Nat.le_of_ble_eq_true rfl, Nat.le_of_ble_eq_true rfl⟩, hts (.instanceMethod yX2_members) (by decide +kernel), hts (.selects RX2 yX2_members yX2_members) (by decide +kernel)⟩ ⟨PR.blind, va_recv hK hP (ci := 2) (q0 := 1) rfl rfl, PR.go hP hK hE⟩ rfl rfl hl.1 rfl (lv_room (Nat.le_of_ble_eq_true rfl)) dX3_result_4 ⟨Nat.le_of_ble_eq_true rfl, Nat.le_of_ble_eq_true rfl⟩).run) ?_
  refine lv_istore_n (lv' := [(1, .int (nI (mem p 5))), (0, .ref (a 0))]) hx hb dX3_result_7 rfl hl (by decide) rfl (fun ls hl => ?_)
  refine lv_iconst (v := 0) hx hb dX3_result_8 (by decide) ?_
  refine lv_istore_n (lv' := [(2, .int (0)), (1, .int (nI (mem p 5))), (0, .ref (a 0))]) hx hb dX3_result_9 rfl hl (by decide) rfl (fun ls hl => ?_)
  refine lv_iconst (v := 0) hx hb dX3_result_10 (by decide) ?_
  refine lv_istore_n (lv' := [(3, .int (0)), (2, .int (0)), (1, .int (nI (mem p 5))), (0, .ref (a 0))]) hx hb dX3_result_11 rfl hl (by decide) rfl (fun ls hl => ?_)
  have L1 : ∀ (n1 k1 : Nat), k1 + n1 = 6 → ∀ (ls : Array Slot), lv_has ls 4 [(3, .int (nI (k1))), (2, .int (crS oP aR nu de (mem p 5) (k1))), (1, .int (nI (mem p 5))), (0, .ref (a 0))] → W pp ll ee rmX3_result ss mm (([.ref (a 0)] : List Value).toArray) bel mth cde ss.heap [] 0 0 Z (F0 mm 12 ls []) := by
    intro n1
    induction n1 with
    | zero =>
      intro k1 hk1  ls hl
      have hk1b : 6 = k1 := by omega
      subst hk1b
      refine lv_iload_n hx hb dX3_result_12 rfl (lv_at hl 0 rfl) ?_
      refine lv_bipush (v := 6) hx hb dX3_result_13 (by decide) ?_
      refine lv_icmp_ge (tgt := 51) hx hb dX3_result_15 (by decide) (fun c_1 => ?_) (fun c_1 => ?_)
      · have n_1 : (6) ≤ (6) := (nI_leI (a := 6) (b := 6) (by omega) (by omega)).mp c_1
        refine lv_iload_n hx hb dX3_result_51 rfl (lv_at hl 1 rfl) ?_
        subst hZ; exact W.iret hx hb hr (fun t ht _ => ⟨_, rfl, (by first | rfl | assumption), ht⟩) (fun _ h => nomatch h) dX3_result_52
      · have n_1 : ¬ ((6) ≤ (6)) := fun h => c_1 ((nI_leI (a := 6) (b := 6) (by omega) (by omega)).mpr h)
        exfalso; omega
    | succ n1 ih1 =>
      intro k1 hk1  ls hl
      have hk1b : k1 < 6 := by omega
      refine lv_iload_n hx hb dX3_result_12 rfl (lv_at hl 0 rfl) ?_
      refine lv_bipush (v := 6) hx hb dX3_result_13 (by decide) ?_
      refine lv_icmp_ge (tgt := 51) hx hb dX3_result_15 (by decide) (fun c_2 => ?_) (fun c_2 => ?_)
      · have n_2 : (6) ≤ (k1) := (nI_leI (a := 6) (b := k1) (by omega) (by omega)).mp c_2
        exfalso; omega
      · have n_2 : ¬ ((6) ≤ (k1)) := fun h => c_2 ((nI_leI (a := 6) (b := k1) (by omega) (by omega)).mpr h)
        refine lv_iload_n hx hb dX3_result_18 rfl (lv_at hl 2 rfl) ?_
        refine lv_iload_n hx hb dX3_result_19 rfl (lv_at hl 0 rfl) ?_
        refine b_csi (v := bI (mB (mem p 5) k1)) (W.runS (As := [.int (nI (mem p 5)), .int (nI (k1))]) (rest := []) ⟨hx, hb, hml, hown, hts⟩ (c_X3_isMember ll (mem p 5) k1 (lt31 (mem_lt _ _)) (by omega)) (va_cwS 2 hts gX3_result_X3_isMember rfl rfl rfl (by decide +kernel) ⟨Nat.le_of_ble_eq_true rfl, Nat.le_of_ble_eq_true rfl⟩) ⟨PT.blind, PT.to⟩ rfl rfl hl.1 rfl (lv_room (Nat.le_of_ble_eq_true rfl)) dX3_result_20 ⟨Nat.le_of_ble_eq_true rfl, Nat.le_of_ble_eq_true rfl⟩) ?_
        refine lv_if_eq (tgt := 45) hx hb dX3_result_23 (by decide) (fun c_3 => ?_) (fun c_3 => ?_)
        · have n_3 : ¬ (mB (mem p 5) k1) = true := bI0 c_3
          refine lv_iinc (v := nI (k1 + 1)) (lv' := [(3, .int (nI (k1 + 1))), (2, .int (crS oP aR nu de (mem p 5) (k1))), (1, .int (nI (mem p 5))), (0, .ref (a 0))]) hx hb dX3_result_45 hl (k := 0) rfl (nI_1 (k1)) (by decide) rfl (fun ls hl => ?_)
          refine lv_goto (tgt := 12) hx hb dX3_result_48 (by decide) ?_
          have e_4 : (crS oP aR nu de (mem p 5) (k1 + 1)) = (crS oP aR nu de (mem p 5) (k1)) := by first | rfl | exact if_pos (by assumption) | exact if_neg (by assumption) | (simp only [crS, n_2, n_3, Bool.false_eq_true, ↓reduceIte])
          exact ih1 (k1 + 1) (by omega) ls (by rw [e_4]; exact lv_sub hl [0, 1, 2, 3] rfl)
        · have n_3 : (mB (mem p 5) k1) = true := bI1 c_3
          refine lv_iload_n hx hb dX3_result_26 rfl (lv_at hl 1 rfl) ?_
          refine lv_aload_n hx hb dX3_result_27 rfl (lv_at hl 3 rfl) ?_
          refine va_get (D := D) (ci := 3) (v := .ref (a 1)) (C := RX3) (T := TX3) (N := 6) (Ts := wsX30) hx hb hin (fun _ h9 => h9) hown hK hP 0 rfl rfl 0 (by decide) (hts (.fieldLink RX3 10 "Groupbooks" "holdings" "LGroupbooks$Holdings;") (by decide +kernel)) (fun _ h9 => h9) rfl dX3_result_28 ?_
          refine lv_iload_n hx hb dX3_result_31 rfl (lv_at hl 0 rfl) ?_
          refine lv_aload_n hx hb dX3_result_32 rfl (lv_at hl 3 rfl) ?_
          refine va_get (D := D) (ci := 3) (v := .ref (a 2)) (C := RX3) (T := TX3) (N := 6) (Ts := wsX30) hx hb hin (fun _ h9 => h9) hown hK hP 0 rfl rfl 1 (by decide) (hts (.fieldLink RX3 19 "Groupbooks" "books" "LGroupbooks$Books;") (by decide +kernel)) (fun _ h9 => h9) rfl dX3_result_33 ?_
          refine lv_iload_n hx hb dX3_result_36 rfl (lv_at hl 0 rfl) ?_
          refine b_csi (v := tr (oP k1) (aR k1)) ((va_runVN (As := [.int (nI (k1))]) (rest := [.int (nI (k1)), .ref (a 1), .int (crS oP aR nu de (mem p 5) (k1))]) ⟨hx, hb, hml, hown, hts⟩ (c_X1_profitOf ll D a cI cJ p nu de eq am nx oA oD oE oP cR aR hR cl ad gw pr n k1 (by omega)) ⟨va_cnB 1 hts gX3_result_X1_profitOf_n104 rfl rfl rfl (hE.nest 13 rfl) (hts (.initialized RX1) (by decide +kernel)) (by decide +kernel) ⟨Nat.le_of_ble_eq_true rfl, Nat.le_of_ble_eq_true rfl⟩, hts (.instanceMethod yX1_profitOf) (by decide +kernel), hts (.selects RX1 yX1_profitOf yX1_profitOf) (by decide +kernel)⟩ ⟨PR.blind, va_recv hK hP (ci := 1) (q0 := 2) rfl rfl, PR.go hP hK hE⟩ rfl rfl hl.1 rfl (lv_room (Nat.le_of_ble_eq_true rfl)) dX3_result_37 ⟨Nat.le_of_ble_eq_true rfl, Nat.le_of_ble_eq_true rfl⟩).run) ?_
          refine b_csi (v := scl (tr (oP k1) (aR k1)) (nu k1) (de k1)) ((va_runVN (As := [.int (nI (k1)), .int (tr (oP k1) (aR k1))]) (rest := [.int (crS oP aR nu de (mem p 5) (k1))]) ⟨hx, hb, hml, hown, hts⟩ (c_X2_partOfParent ll D a cI cJ p nu de eq am nx oA oD oE oP cR aR hR cl ad gw pr n k1 (tr (oP k1) (aR k1)) (by omega)) ⟨va_cnB 2 hts gX3_result_X2_partOfParent_n139 rfl rfl rfl (hE.nest 14 rfl) (hts (.initialized RX2) (by decide +kernel)) (by decide +kernel) ⟨Nat.le_of_ble_eq_true rfl, Nat.le_of_ble_eq_true rfl⟩, hts (.instanceMethod yX2_partOfParent) (by decide +kernel), hts (.selects RX2 yX2_partOfParent yX2_partOfParent) (by decide +kernel)⟩ ⟨PR.blind, va_recv hK hP (ci := 2) (q0 := 1) rfl rfl, PR.go hP hK hE⟩ rfl rfl hl.1 rfl (lv_room (Nat.le_of_ble_eq_true rfl)) dX3_result_40 ⟨Nat.le_of_ble_eq_true rfl, Nat.le_of_ble_eq_true rfl⟩).run) ?_
          refine lv_iadd hx hb dX3_result_43 ?_
          refine lv_istore_n (lv' := [(2, .int ((crS oP aR nu de (mem p 5) (k1)) + (scl (tr (oP k1) (aR k1)) (nu k1) (de k1)))), (3, .int (nI (k1))), (1, .int (nI (mem p 5))), (0, .ref (a 0))]) hx hb dX3_result_44 rfl hl (by decide) rfl (fun ls hl => ?_)
          refine lv_iinc (v := nI (k1 + 1)) (lv' := [(3, .int (nI (k1 + 1))), (2, .int ((crS oP aR nu de (mem p 5) (k1)) + (scl (tr (oP k1) (aR k1)) (nu k1) (de k1)))), (1, .int (nI (mem p 5))), (0, .ref (a 0))]) hx hb dX3_result_45 hl (k := 1) rfl (nI_1 (k1)) (by decide) rfl (fun ls hl => ?_)
          refine lv_goto (tgt := 12) hx hb dX3_result_48 (by decide) ?_
          have e_5 : (crS oP aR nu de (mem p 5) (k1 + 1)) = ((crS oP aR nu de (mem p 5) (k1)) + (scl (tr (oP k1) (aR k1)) (nu k1) (de k1))) := by first | rfl | exact if_pos (by assumption) | exact if_neg (by assumption) | (simp only [crS, n_2, n_3, Bool.false_eq_true, ↓reduceIte])
          exact ih1 (k1 + 1) (by omega) ls (by rw [e_5]; exact lv_sub hl [0, 1, 2, 3] rfl)
  exact L1 (6) 0 (by omega) ls (lv_sub hl [0, 1, 2, 3] rfl)
end
section
abbrev rmX3_hold_bad : Room := ({ frames := 9, cells := 1, slots := 6, locals := 145 } : Room)
set_option maxHeartbeats 4000000 in
set_option maxRecDepth 100000 in
theorem c_X3_hold_bad (ll : Launch) (hst : ll.stackTraces = false) (D : va_G) (a : Nat → Nat) (cI cJ : ClassId) (sz : Nat) (p : Nat → Int32) (nu de eq : Nat → Int64) (am nx oA oD oE oP cR aR hR cl ad gw pr : Nat → Int32) (n : Int32) (x0 x1 x : Int32) (hbad : ¬ (prB x0 x1 = true ∧ inB x 0 100 = true)) : vx_Met ll yX3_hold wsX3_hold rmX3_hold_bad (va_Pc [.ref (a 0), .int (x0), .int (x1), .int (x)] (PY D (tyG cI cJ) (GW a cI cJ p nu de eq am nx oA oD oE oP cR aR hR cl ad gw pr n) sz)) (va_Qi (fun (_ : Int32) (_ : Unit) => False) (fun _ _ => True) (va_A (GW a cI cJ p nu de eq am nx oA oD oE oP cR aR hR cl ad gw pr n) sz)) (XEA D (tyG cI cJ) (va_A (GW a cI cJ p nu de eq am nx oA oD oE oP cR aR hR cl ad gw pr n) sz) (fun u : Unit => GW a cI cJ p nu de eq am nx oA oD oE oP cR aR hR cl ad gw pr n) RIA) 1 6 (va_A (GW a cI cJ p nu de eq am nx oA oD oE oP cR aR hR cl ad gw pr n) sz) := by
  refine vx_ofW (cc := cX3_hold) (maxL := 5) (ret := (some .int)) (by decide) rfl ?_
  intro pp ee ss mm ar bel mth cde s₁ B hml hno hv
  obtain ⟨rfl, ⟨hsz, hP, hK, hD0, hE, hV⟩, hDC⟩ := hv
  have hx := B.exec
  have hb := B.bytes
  have hr := B.returns
  have hts := atoms_spec (ws := wsX3_hold) B.pre
  have hown : ss.vm.findClass RX3 = some mm.cls := findClass_of_methodNamed B.named
  have hlocks := B.notSynchronized
  subst hsz
  have hD := hD0.self (sz := ss.heap.size)
  generalize hAe : va_A (GW a cI cJ p nu de eq am nx oA oD oE oP cR aR hR cl ad gw pr n) ss.heap.size = A at hD hV ⊢
  have hA : ∀ q : Nat, ss.heap.size ≤ q → A q := fun q h => by rw [← hAe]; exact Or.inr h
  have hS : va_S A ss.heap ss.heap [] := va_S.rf
  have hin : ∀ w ∈ wsX30, w.before ([.ref (a 0), .int (x0), .int (x1), .int (x)] : List Value).toArray ss = true := fun w h => hts w ((by decide +kernel : ∀ w ∈ wsX30, w ∈ wsX3_hold) w h)
  have hl := lv_entry [.ref (a 0), .int (x0), .int (x1), .int (x)] (n := 5) (Nat.le_of_ble_eq_true rfl)
  rw [lg_entry_eq]
  generalize (lg_sl [.ref (a 0), .int (x0), .int (x1), .int (x)] ++ List.replicate (5 - (lg_sl [.ref (a 0), .int (x0), .int (x1), .int (x)]).length) Slot.unset).toArray = ls at hl ⊢
  have hl : lv_has ls 5 [(0, .ref (a 0)), (1, .int (x0)), (2, .int (x1)), (3, .int (x))] := hl
  refine lv_iload_n hx hb dX3_hold_0 rfl (lv_at hl 1 rfl) ?_
  refine lv_iload_n hx hb dX3_hold_1 rfl (lv_at hl 2 rfl) ?_
  by_cases q_1 : prB x0 x1 = true
  · refine va_csv (W.runS (As := [.int (x0), .int (x1)]) (rest := []) ⟨hx, hb, hml, hown, hts⟩ (c_X3_requireTwoCompanies_ok ll x0 x1 q_1) (va_cwS 2 hts gX3_hold_X3_requireTwoCompanies rfl rfl rfl (by decide +kernel) ⟨Nat.le_of_ble_eq_true rfl, Nat.le_of_ble_eq_true rfl⟩) ⟨PT.blind, PT.to⟩ rfl rfl hl.1 rfl (lv_room (Nat.le_of_ble_eq_true rfl)) dX3_hold_2 ⟨Nat.le_of_ble_eq_true rfl, Nat.le_of_ble_eq_true rfl⟩) (fun _ => ?_)
    refine lv_iload_n hx hb dX3_hold_5 rfl (lv_at hl 3 rfl) ?_
    refine lv_iconst (v := 0) hx hb dX3_hold_6 (by decide) ?_
    refine lv_bipush (v := 100) hx hb dX3_hold_7 (by decide) ?_
    by_cases q_2 : inB x 0 100 = true
    · refine va_csv (W.runS (As := [.int (x), .int (0), .int (100)]) (rest := []) ⟨hx, hb, hml, hown, hts⟩ (c_X3_requireRange_ok ll x 0 100 q_2) (va_cwS 3 hts gX3_hold_X3_requireRange rfl rfl rfl (by decide +kernel) ⟨Nat.le_of_ble_eq_true rfl, Nat.le_of_ble_eq_true rfl⟩) ⟨PT.blind, PT.to⟩ rfl rfl hl.1 rfl (lv_room (Nat.le_of_ble_eq_true rfl)) dX3_hold_9 ⟨Nat.le_of_ble_eq_true rfl, Nat.le_of_ble_eq_true rfl⟩) (fun _ => ?_)
      exact absurd ⟨q_1, q_2⟩ hbad
    · refine b_bad (S := Unit) () rfl hno hlocks hP hK hD hS hA (vx_runS (As := [.int (x), .int (0), .int (100)]) (rest := []) ⟨hx, hb, hml, hown, hts⟩ (c_X3_requireRange_bad ll hst D _ x 0 100 q_2) (va_cwS 3 hts gX3_hold_X3_requireRange rfl rfl rfl (by decide +kernel) ⟨Nat.le_of_ble_eq_true rfl, Nat.le_of_ble_eq_true rfl⟩) ⟨PY.blind, PY.go0 hK hE hV hDC hS hA⟩ rfl rfl hl.1 rfl (lv_room (Nat.le_of_ble_eq_true rfl)) dX3_hold_9 ⟨Nat.le_of_ble_eq_true rfl, Nat.le_of_ble_eq_true rfl⟩)
  · refine b_bad (S := Unit) () rfl hno hlocks hP hK hD hS hA (vx_runS (As := [.int (x0), .int (x1)]) (rest := []) ⟨hx, hb, hml, hown, hts⟩ (c_X3_requireTwoCompanies_bad ll hst D _ x0 x1 q_1) (va_cwS 2 hts gX3_hold_X3_requireTwoCompanies rfl rfl rfl (by decide +kernel) ⟨Nat.le_of_ble_eq_true rfl, Nat.le_of_ble_eq_true rfl⟩) ⟨PY.blind, PY.go0 hK hE hV hDC hS hA⟩ rfl rfl hl.1 rfl (lv_room (Nat.le_of_ble_eq_true rfl)) dX3_hold_2 ⟨Nat.le_of_ble_eq_true rfl, Nat.le_of_ble_eq_true rfl⟩)
end
section
abbrev z32 : Nat → Int32 := fun _ => 0
abbrev z64 : Nat → Int64 := fun _ => 0
def rtI : Nat → Nat → Int32 | 0 => z32 | k + 1 => upd (rtI k) k 100
def nuI : Nat → Nat → Int64 | 0 => z64 | k + 1 => vp_updL (nuI k) k (if k = 0 then 1 else 0)
def dnmI : Nat → Nat → Int64 | 0 => z64 | k + 1 => vp_updL (dnmI k) k 1
abbrev IW0 (a : Nat → Nat) (cI cJ : ClassId) (cl ad : Nat → Int32) : va_W := [(a 0, .inr (0, [.ref (a 1), .ref (a 2)])), (a 1, eI cI 36 cl), (a 2, eI cI 36 ad)]
abbrev IW1 (a : Nat → Nat) (cI cJ : ClassId) (oA oD oE oP cR aR hR : Nat → Int32) : va_W := [(a 0, .inr (1, [.ref (a 1), .ref (a 2), .ref (a 3), .ref (a 4), .ref (a 5), .ref (a 6), .ref (a 7)])), (a 1, eI cI 6 oA), (a 2, eI cI 6 oD), (a 3, eI cI 6 oE), (a 4, eI cI 6 oP), (a 5, eI cI 6 cR), (a 6, eI cI 6 aR), (a 7, eI cI 6 hR)]
abbrev IW2 (a : Nat → Nat) (cI cJ : ClassId) (p : Nat → Int32) (nu de eq : Nat → Int64) (am nx : Nat → Int32) : va_W := [(a 0, .inr (2, [.ref (a 1), .ref (a 2), .ref (a 3), .ref (a 4), .ref (a 5), .ref (a 6)])), (a 1, eI cI 36 p), (a 2, eJ cJ 6 nu), (a 3, eJ cJ 6 de), (a 4, eJ cJ 36 eq), (a 5, eI cI 6 am), (a 6, eI cI 6 nx)]
section GI
variable {p : Program} {l : Launch} {e : Env} {R : Room} {s : State} {m : MethodId} {args : Array Value} {below : List Frame} {meth : Method} {c : Code} {H : Heap} {locs : List Loc} {cells slots : Nat} {Q : State → Prop}
variable {cc : ByteArray} {pc : Nat} {ls : Array Slot} {rest : List Value} {D : va_G} {cl : List vw_C} {A : Nat → Prop} {ws : va_W} {H0 : Heap} {cI cJ : ClassId}
theorem b_newI (hexec : p.tables.exec = Jvm.exec) (hb : c.code = cc) (harr : (Cond.arrayClass .int).before args s = true) (hK : va_K D cl (tyG cI cJ) s) (hP : va_P D cl ws H) (hD : va_D A ws) (hS : va_S A H0 H locs) (hA : ∀ q, H0.size ≤ q → A q)
    {n : Int32} {N : Nat} (hn : ¬ n < 0) (hN : n.toNatClampNeg = N) (hbytes : N * componentBytes .int ≤ 536870912) (hcells : cells + 1 ≤ R.cells) (hslots : slots + N ≤ R.slots) (hdg : decode cc pc = .ok (.newarray .int, 2))
    (kk : ∀ (q : Nat) (H1 : Heap), va_P D cl (ws ++ [(q, eI cI N z32)]) H1 → va_D A (ws ++ [(q, eI cI N z32)]) → va_S A H0 H1 locs →
      W p l e R s m args below meth c H1 locs (cells + 1) (slots + N) Q (F0 m (pc + 2) ls (.ref q :: rest))) : W p l e R s m args below meth c H locs cells slots Q (F0 m pc ls (.int n :: rest)) := by
  refine va_newa (atype := .int) (a0 := (N, .inl z32)) hexec hb harr rfl hK hP hD hS hA (fun _ => rfl) hn hN hbytes hcells hslots hdg (fun q cA H1 hK1 hP1 hD1 hS1 => ?_)
  have e1 := va_nm_int ((hK1.2 2 (cA, .int) rfl).2)
  have e2 := va_nm_int ((hK.2 0 (cI, .int) rfl).2)
  obtain rfl : cA = cI := Option.some.inj (e1.symm.trans e2)
  exact kk q H1 hP1 hD1 hS1
theorem b_newJ (hexec : p.tables.exec = Jvm.exec) (hb : c.code = cc) (harr : (Cond.arrayClass .long).before args s = true) (hK : va_K D cl (tyG cI cJ) s) (hP : va_P D cl ws H) (hD : va_D A ws) (hS : va_S A H0 H locs) (hA : ∀ q, H0.size ≤ q → A q)
    {n : Int32} {N : Nat} (hn : ¬ n < 0) (hN : n.toNatClampNeg = N) (hbytes : N * componentBytes .long ≤ 536870912) (hcells : cells + 1 ≤ R.cells) (hslots : slots + N ≤ R.slots) (hdg : decode cc pc = .ok (.newarray .long, 2))
    (kk : ∀ (q : Nat) (H1 : Heap), va_P D cl (ws ++ [(q, eJ cJ N z64)]) H1 → va_D A (ws ++ [(q, eJ cJ N z64)]) → va_S A H0 H1 locs →
      W p l e R s m args below meth c H1 locs (cells + 1) (slots + N) Q (F0 m (pc + 2) ls (.ref q :: rest))) : W p l e R s m args below meth c H locs cells slots Q (F0 m pc ls (.int n :: rest)) := by
  refine va_newa (atype := .long) (a0 := (N, .inr (.inl z64))) hexec hb harr rfl hK hP hD hS hA (fun _ => rfl) hn hN hbytes hcells hslots hdg (fun q cA H1 hK1 hP1 hD1 hS1 => ?_)
  have e1 := va_nm_long ((hK1.2 2 (cA, .long) rfl).2)
  have e2 := va_nm_long ((hK.2 1 (cJ, .long) rfl).2)
  obtain rfl : cA = cJ := Option.some.inj (e1.symm.trans e2)
  exact kk q H1 hP1 hD1 hS1
end GI
end
section
abbrev rmX0_init : Room := ({ frames := 1, cells := 2, slots := 72, locals := 40 } : Room)
set_option maxHeartbeats 4000000 in
set_option maxRecDepth 100000 in
theorem c_X0_init (ll : Launch) (D : va_G) (cI cJ : ClassId) (sz : Nat) (b0 : Nat) : Met ll yX0_init wsX0_init rmX0_init (va_Pc [.ref (b0)] (PW D (tyG cI cJ) [(b0, .inr (0, [.null, .null]))] sz)) (va_Qv (fun (u : Nat → Nat) => u 0 = b0) (fun (u : Nat → Nat) t => AW D (tyG cI cJ) (va_A [(b0, .inr (0, [.null, .null]))] sz) (IW0 u cI cJ z32 z32) t) (va_A [(b0, .inr (0, [.null, .null]))] sz)) 2 72 (va_A [(b0, .inr (0, [.null, .null]))] sz) := by
  refine Met.ofW (cc := cX0_init) (maxL := 1) (ret := none) (by decide) rfl ?_
  intro pp ee ss mm ar bel mth cde s₁ B hml hv
  obtain ⟨rfl, hsz, hP, hK, hD0, hE⟩ := hv
  have hx := B.exec
  have hb := B.bytes
  have hr := B.returns
  have hts := atoms_spec (ws := wsX0_init) B.pre
  have hown : ss.vm.findClass RX0 = some mm.cls := findClass_of_methodNamed B.named
  have hlocks := B.notSynchronized
  have hini : mth.name = "<init>" := (name_of_methodNamed B.named B.method).1
  subst hsz
  have hD := hD0.self (sz := ss.heap.size)
  generalize hAe : va_A [(b0, .inr (0, [.null, .null]))] ss.heap.size = A at hD ⊢
  have hA : ∀ q : Nat, ss.heap.size ≤ q → A q := fun q h => by rw [← hAe]; exact Or.inr h
  have hS : va_S A ss.heap ss.heap [] := va_S.rf
  have hP : va_P D vwCl [(b0, .inr (0, [.null, .null]))] ss.heap := hP
  have hin : ∀ w ∈ wsX00, w.before ([.ref b0] : List Value).toArray ss = true := fun w h => hts w ((by decide +kernel : ∀ w ∈ wsX00, w ∈ wsX0_init) w h)
  have hl := lv_entry [.ref b0] (n := 1) (Nat.le_of_ble_eq_true rfl)
  rw [lg_entry_eq]
  generalize (lg_sl [.ref b0] ++ List.replicate (1 - (lg_sl [.ref b0]).length) Slot.unset).toArray = ls at hl ⊢
  have hl : lv_has ls 1 [(0, .ref b0)] := hl
  refine lv_aload_n hx hb dX0_init_0 rfl (lv_at hl 0 rfl) ?_
  refine W.objInit hx hb hown (hts (.methodLink RX0 3 objectInit) (by decide +kernel)) (hts (.instanceMethod objectInit) (by decide +kernel)) (hts _ (List.mem_of_getElem? (i := 3) rfl)) rfl (by rw [hml]; exact hl.1) rfl dX0_init_1 (Nat.le_of_ble_eq_true rfl) (Nat.le_of_ble_eq_true rfl) ?_
  refine W.eq (g2 := F0 mm 4 ls []) rfl ?_
  refine lv_aload_n hx hb dX0_init_4 rfl (lv_at hl 0 rfl) ?_
  refine lv_bipush (v := 36) hx hb dX0_init_5 (by decide) ?_
  refine b_newI (N := 36) hx hb (hts (.arrayClass .int) (by decide +kernel)) hK hP hD hS hA (by decide) (by decide) (by decide) (Nat.le_of_ble_eq_true rfl) (Nat.le_of_ble_eq_true rfl) dX0_init_7 (fun q1 H hP hD hS => ?_)
  have hP : va_P D vwCl [(b0, .inr (0, [.null, .null])), (q1, eI cI 36 z32)] H := hP
  have hD : va_D A [(b0, .inr (0, [.null, .null])), (q1, eI cI 36 z32)] := hD
  refine W.widen (k := 1) (n := 36) (Nat.le_of_ble_eq_true rfl) (Nat.le_of_ble_eq_true rfl) ?_
  refine va_putF (D := D) (ci := 0) (v := .ref q1) (ty := .array .int) (C := RX0) (T := TX0) (N := 2) (Ts := wsX00) hx hb hin (fun _ h9 => h9) tyX0 tyX0_ok nmX0 hown hK hP hD hS 0 rfl rfl 0 (by decide) (hts (.fieldLink RX0 9 "Groupbooks$Balances" "claims" "[I") (by decide +kernel)) (fun _ h9 => h9) rfl hini rfl (by decide +kernel) rfl rfl (Nat.le_of_ble_eq_true rfl) dX0_init_9 (fun H locs hP hD hS => ?_)
  have hP : va_P D vwCl [(b0, .inr (0, [.ref q1, .null])), (q1, eI cI 36 z32)] H := hP
  have hD : va_D A [(b0, .inr (0, [.ref q1, .null])), (q1, eI cI 36 z32)] := hD
  refine lv_aload_n hx hb dX0_init_12 rfl (lv_at hl 0 rfl) ?_
  refine lv_bipush (v := 36) hx hb dX0_init_13 (by decide) ?_
  refine b_newI (N := 36) hx hb (hts (.arrayClass .int) (by decide +kernel)) hK hP hD hS hA (by decide) (by decide) (by decide) (Nat.le_of_ble_eq_true rfl) (Nat.le_of_ble_eq_true rfl) dX0_init_15 (fun q2 H hP hD hS => ?_)
  have hP : va_P D vwCl [(b0, .inr (0, [.ref q1, .null])), (q1, eI cI 36 z32), (q2, eI cI 36 z32)] H := hP
  have hD : va_D A [(b0, .inr (0, [.ref q1, .null])), (q1, eI cI 36 z32), (q2, eI cI 36 z32)] := hD
  refine W.widen (k := 2) (n := 72) (Nat.le_of_ble_eq_true rfl) (Nat.le_of_ble_eq_true rfl) ?_
  refine va_putF (D := D) (ci := 0) (v := .ref q2) (ty := .array .int) (C := RX0) (T := TX0) (N := 2) (Ts := wsX00) hx hb hin (fun _ h9 => h9) tyX0 tyX0_ok nmX0 hown hK hP hD hS 0 rfl rfl 1 (by decide) (hts (.fieldLink RX0 15 "Groupbooks$Balances" "admissions" "[I") (by decide +kernel)) (fun _ h9 => h9) rfl hini rfl (by decide +kernel) rfl rfl (Nat.le_of_ble_eq_true rfl) dX0_init_17 (fun H locs hP hD hS => ?_)
  have hP : va_P D vwCl [(b0, .inr (0, [.ref q1, .ref q2])), (q1, eI cI 36 z32), (q2, eI cI 36 z32)] H := hP
  have hD : va_D A [(b0, .inr (0, [.ref q1, .ref q2])), (q1, eI cI 36 z32), (q2, eI cI 36 z32)] := hD
  obtain ⟨a, ha⟩ : ∃ a : Nat → Nat, a = fun k => ([b0, q1, q2].getD k 0) := ⟨_, rfl⟩
  have hP : va_P D vwCl (IW0 a cI cJ z32 z32) H := by rw [ha]; exact hP
  have hD : va_D A (IW0 a cI cJ z32 z32) := by rw [ha]; exact hD
  have hE0 : a 0 = b0 := by rw [ha]; rfl
  have hl : lv_has ls 1 [(0, .ref (a 0))] := by rw [hE0]; exact hl
  exact W.vret hx hb hr (fun t ht hW => ⟨⟨a, rfl, hE0, (by rw [ht]; exact hP), va_K.moved hW.alike hK, hD⟩, hS.F ht⟩) hS.2.2 dX0_init_20

abbrev rmX1_init : Room := ({ frames := 1, cells := 7, slots := 42, locals := 40 } : Room)
set_option maxHeartbeats 4000000 in
set_option maxRecDepth 100000 in
theorem c_X1_init (ll : Launch) (D : va_G) (cI cJ : ClassId) (sz : Nat) (b0 : Nat) : Met ll yX1_init wsX1_init rmX1_init (va_Pc [.ref (b0)] (PW D (tyG cI cJ) [(b0, .inr (1, [.null, .null, .null, .null, .null, .null, .null]))] sz)) (va_Qv (fun (u : Nat → Nat) => u 0 = b0) (fun (u : Nat → Nat) t => AW D (tyG cI cJ) (va_A [(b0, .inr (1, [.null, .null, .null, .null, .null, .null, .null]))] sz) (IW1 u cI cJ z32 z32 z32 z32 (rtI 6) (rtI 6) (rtI 6)) t) (va_A [(b0, .inr (1, [.null, .null, .null, .null, .null, .null, .null]))] sz)) 7 42 (va_A [(b0, .inr (1, [.null, .null, .null, .null, .null, .null, .null]))] sz) := by
  refine Met.ofW (cc := cX1_init) (maxL := 2) (ret := none) (by decide) rfl ?_
  intro pp ee ss mm ar bel mth cde s₁ B hml hv
  obtain ⟨rfl, hsz, hP, hK, hD0, hE⟩ := hv
  have hx := B.exec
  have hb := B.bytes
  have hr := B.returns
  have hts := atoms_spec (ws := wsX1_init) B.pre
  have hown : ss.vm.findClass RX1 = some mm.cls := findClass_of_methodNamed B.named
  have hlocks := B.notSynchronized
  have hini : mth.name = "<init>" := (name_of_methodNamed B.named B.method).1
  subst hsz
  have hD := hD0.self (sz := ss.heap.size)
  generalize hAe : va_A [(b0, .inr (1, [.null, .null, .null, .null, .null, .null, .null]))] ss.heap.size = A at hD ⊢
  have hA : ∀ q : Nat, ss.heap.size ≤ q → A q := fun q h => by rw [← hAe]; exact Or.inr h
  have hS : va_S A ss.heap ss.heap [] := va_S.rf
  have hP : va_P D vwCl [(b0, .inr (1, [.null, .null, .null, .null, .null, .null, .null]))] ss.heap := hP
  have hin : ∀ w ∈ wsX10, w.before ([.ref b0] : List Value).toArray ss = true := fun w h => hts w ((by decide +kernel : ∀ w ∈ wsX10, w ∈ wsX1_init) w h)
  have hl := lv_entry [.ref b0] (n := 2) (Nat.le_of_ble_eq_true rfl)
  rw [lg_entry_eq]
  generalize (lg_sl [.ref b0] ++ List.replicate (2 - (lg_sl [.ref b0]).length) Slot.unset).toArray = ls at hl ⊢
  have hl : lv_has ls 2 [(0, .ref b0)] := hl
  generalize hZ : MQ bel _ _ ss _ _ _ = Z
  refine lv_aload_n hx hb dX1_init_0 rfl (lv_at hl 0 rfl) ?_
  refine W.objInit hx hb hown (hts (.methodLink RX1 3 objectInit) (by decide +kernel)) (hts (.instanceMethod objectInit) (by decide +kernel)) (hts _ (List.mem_of_getElem? (i := 3) rfl)) rfl (by rw [hml]; exact hl.1) rfl dX1_init_1 (Nat.le_of_ble_eq_true rfl) (Nat.le_of_ble_eq_true rfl) ?_
  refine W.eq (g2 := F0 mm 4 ls []) rfl ?_
  refine lv_aload_n hx hb dX1_init_4 rfl (lv_at hl 0 rfl) ?_
  refine lv_bipush (v := 6) hx hb dX1_init_5 (by decide) ?_
  refine b_newI (N := 6) hx hb (hts (.arrayClass .int) (by decide +kernel)) hK hP hD hS hA (by decide) (by decide) (by decide) (Nat.le_of_ble_eq_true rfl) (Nat.le_of_ble_eq_true rfl) dX1_init_7 (fun q1 H hP hD hS => ?_)
  have hP : va_P D vwCl [(b0, .inr (1, [.null, .null, .null, .null, .null, .null, .null])), (q1, eI cI 6 z32)] H := hP
  have hD : va_D A [(b0, .inr (1, [.null, .null, .null, .null, .null, .null, .null])), (q1, eI cI 6 z32)] := hD
  refine W.widen (k := 1) (n := 6) (Nat.le_of_ble_eq_true rfl) (Nat.le_of_ble_eq_true rfl) ?_
  refine va_putF (D := D) (ci := 1) (v := .ref q1) (ty := .array .int) (C := RX1) (T := TX1) (N := 7) (Ts := wsX10) hx hb hin (fun _ h9 => h9) tyX1 tyX1_ok nmX1 hown hK hP hD hS 0 rfl rfl 0 (by decide) (hts (.fieldLink RX1 9 "Groupbooks$Books" "ownAssets" "[I") (by decide +kernel)) (fun _ h9 => h9) rfl hini rfl (by decide +kernel) rfl rfl (Nat.le_of_ble_eq_true rfl) dX1_init_9 (fun H locs hP hD hS => ?_)
  have hP : va_P D vwCl [(b0, .inr (1, [.ref q1, .null, .null, .null, .null, .null, .null])), (q1, eI cI 6 z32)] H := hP
  have hD : va_D A [(b0, .inr (1, [.ref q1, .null, .null, .null, .null, .null, .null])), (q1, eI cI 6 z32)] := hD
  refine lv_aload_n hx hb dX1_init_12 rfl (lv_at hl 0 rfl) ?_
  refine lv_bipush (v := 6) hx hb dX1_init_13 (by decide) ?_
  refine b_newI (N := 6) hx hb (hts (.arrayClass .int) (by decide +kernel)) hK hP hD hS hA (by decide) (by decide) (by decide) (Nat.le_of_ble_eq_true rfl) (Nat.le_of_ble_eq_true rfl) dX1_init_15 (fun q2 H hP hD hS => ?_)
  have hP : va_P D vwCl [(b0, .inr (1, [.ref q1, .null, .null, .null, .null, .null, .null])), (q1, eI cI 6 z32), (q2, eI cI 6 z32)] H := hP
  have hD : va_D A [(b0, .inr (1, [.ref q1, .null, .null, .null, .null, .null, .null])), (q1, eI cI 6 z32), (q2, eI cI 6 z32)] := hD
  refine W.widen (k := 2) (n := 12) (Nat.le_of_ble_eq_true rfl) (Nat.le_of_ble_eq_true rfl) ?_
  refine va_putF (D := D) (ci := 1) (v := .ref q2) (ty := .array .int) (C := RX1) (T := TX1) (N := 7) (Ts := wsX10) hx hb hin (fun _ h9 => h9) tyX1 tyX1_ok nmX1 hown hK hP hD hS 0 rfl rfl 1 (by decide) (hts (.fieldLink RX1 15 "Groupbooks$Books" "ownDebts" "[I") (by decide +kernel)) (fun _ h9 => h9) rfl hini rfl (by decide +kernel) rfl rfl (Nat.le_of_ble_eq_true rfl) dX1_init_17 (fun H locs hP hD hS => ?_)
  have hP : va_P D vwCl [(b0, .inr (1, [.ref q1, .ref q2, .null, .null, .null, .null, .null])), (q1, eI cI 6 z32), (q2, eI cI 6 z32)] H := hP
  have hD : va_D A [(b0, .inr (1, [.ref q1, .ref q2, .null, .null, .null, .null, .null])), (q1, eI cI 6 z32), (q2, eI cI 6 z32)] := hD
  refine lv_aload_n hx hb dX1_init_20 rfl (lv_at hl 0 rfl) ?_
  refine lv_bipush (v := 6) hx hb dX1_init_21 (by decide) ?_
  refine b_newI (N := 6) hx hb (hts (.arrayClass .int) (by decide +kernel)) hK hP hD hS hA (by decide) (by decide) (by decide) (Nat.le_of_ble_eq_true rfl) (Nat.le_of_ble_eq_true rfl) dX1_init_23 (fun q3 H hP hD hS => ?_)
  have hP : va_P D vwCl [(b0, .inr (1, [.ref q1, .ref q2, .null, .null, .null, .null, .null])), (q1, eI cI 6 z32), (q2, eI cI 6 z32), (q3, eI cI 6 z32)] H := hP
  have hD : va_D A [(b0, .inr (1, [.ref q1, .ref q2, .null, .null, .null, .null, .null])), (q1, eI cI 6 z32), (q2, eI cI 6 z32), (q3, eI cI 6 z32)] := hD
  refine W.widen (k := 3) (n := 18) (Nat.le_of_ble_eq_true rfl) (Nat.le_of_ble_eq_true rfl) ?_
  refine va_putF (D := D) (ci := 1) (v := .ref q3) (ty := .array .int) (C := RX1) (T := TX1) (N := 7) (Ts := wsX10) hx hb hin (fun _ h9 => h9) tyX1 tyX1_ok nmX1 hown hK hP hD hS 0 rfl rfl 2 (by decide) (hts (.fieldLink RX1 18 "Groupbooks$Books" "ownEquities" "[I") (by decide +kernel)) (fun _ h9 => h9) rfl hini rfl (by decide +kernel) rfl rfl (Nat.le_of_ble_eq_true rfl) dX1_init_25 (fun H locs hP hD hS => ?_)
  have hP : va_P D vwCl [(b0, .inr (1, [.ref q1, .ref q2, .ref q3, .null, .null, .null, .null])), (q1, eI cI 6 z32), (q2, eI cI 6 z32), (q3, eI cI 6 z32)] H := hP
  have hD : va_D A [(b0, .inr (1, [.ref q1, .ref q2, .ref q3, .null, .null, .null, .null])), (q1, eI cI 6 z32), (q2, eI cI 6 z32), (q3, eI cI 6 z32)] := hD
  refine lv_aload_n hx hb dX1_init_28 rfl (lv_at hl 0 rfl) ?_
  refine lv_bipush (v := 6) hx hb dX1_init_29 (by decide) ?_
  refine b_newI (N := 6) hx hb (hts (.arrayClass .int) (by decide +kernel)) hK hP hD hS hA (by decide) (by decide) (by decide) (Nat.le_of_ble_eq_true rfl) (Nat.le_of_ble_eq_true rfl) dX1_init_31 (fun q4 H hP hD hS => ?_)
  have hP : va_P D vwCl [(b0, .inr (1, [.ref q1, .ref q2, .ref q3, .null, .null, .null, .null])), (q1, eI cI 6 z32), (q2, eI cI 6 z32), (q3, eI cI 6 z32), (q4, eI cI 6 z32)] H := hP
  have hD : va_D A [(b0, .inr (1, [.ref q1, .ref q2, .ref q3, .null, .null, .null, .null])), (q1, eI cI 6 z32), (q2, eI cI 6 z32), (q3, eI cI 6 z32), (q4, eI cI 6 z32)] := hD
  refine W.widen (k := 4) (n := 24) (Nat.le_of_ble_eq_true rfl) (Nat.le_of_ble_eq_true rfl) ?_
  refine va_putF (D := D) (ci := 1) (v := .ref q4) (ty := .array .int) (C := RX1) (T := TX1) (N := 7) (Ts := wsX10) hx hb hin (fun _ h9 => h9) tyX1 tyX1_ok nmX1 hown hK hP hD hS 0 rfl rfl 3 (by decide) (hts (.fieldLink RX1 21 "Groupbooks$Books" "ownProfits" "[I") (by decide +kernel)) (fun _ h9 => h9) rfl hini rfl (by decide +kernel) rfl rfl (Nat.le_of_ble_eq_true rfl) dX1_init_33 (fun H locs hP hD hS => ?_)
  have hP : va_P D vwCl [(b0, .inr (1, [.ref q1, .ref q2, .ref q3, .ref q4, .null, .null, .null])), (q1, eI cI 6 z32), (q2, eI cI 6 z32), (q3, eI cI 6 z32), (q4, eI cI 6 z32)] H := hP
  have hD : va_D A [(b0, .inr (1, [.ref q1, .ref q2, .ref q3, .ref q4, .null, .null, .null])), (q1, eI cI 6 z32), (q2, eI cI 6 z32), (q3, eI cI 6 z32), (q4, eI cI 6 z32)] := hD
  refine lv_aload_n hx hb dX1_init_36 rfl (lv_at hl 0 rfl) ?_
  refine lv_bipush (v := 6) hx hb dX1_init_37 (by decide) ?_
  refine b_newI (N := 6) hx hb (hts (.arrayClass .int) (by decide +kernel)) hK hP hD hS hA (by decide) (by decide) (by decide) (Nat.le_of_ble_eq_true rfl) (Nat.le_of_ble_eq_true rfl) dX1_init_39 (fun q5 H hP hD hS => ?_)
  have hP : va_P D vwCl [(b0, .inr (1, [.ref q1, .ref q2, .ref q3, .ref q4, .null, .null, .null])), (q1, eI cI 6 z32), (q2, eI cI 6 z32), (q3, eI cI 6 z32), (q4, eI cI 6 z32), (q5, eI cI 6 z32)] H := hP
  have hD : va_D A [(b0, .inr (1, [.ref q1, .ref q2, .ref q3, .ref q4, .null, .null, .null])), (q1, eI cI 6 z32), (q2, eI cI 6 z32), (q3, eI cI 6 z32), (q4, eI cI 6 z32), (q5, eI cI 6 z32)] := hD
  refine W.widen (k := 5) (n := 30) (Nat.le_of_ble_eq_true rfl) (Nat.le_of_ble_eq_true rfl) ?_
  refine va_putF (D := D) (ci := 1) (v := .ref q5) (ty := .array .int) (C := RX1) (T := TX1) (N := 7) (Ts := wsX10) hx hb hin (fun _ h9 => h9) tyX1 tyX1_ok nmX1 hown hK hP hD hS 0 rfl rfl 4 (by decide) (hts (.fieldLink RX1 24 "Groupbooks$Books" "closingRates" "[I") (by decide +kernel)) (fun _ h9 => h9) rfl hini rfl (by decide +kernel) rfl rfl (Nat.le_of_ble_eq_true rfl) dX1_init_41 (fun H locs hP hD hS => ?_)
  have hP : va_P D vwCl [(b0, .inr (1, [.ref q1, .ref q2, .ref q3, .ref q4, .ref q5, .null, .null])), (q1, eI cI 6 z32), (q2, eI cI 6 z32), (q3, eI cI 6 z32), (q4, eI cI 6 z32), (q5, eI cI 6 z32)] H := hP
  have hD : va_D A [(b0, .inr (1, [.ref q1, .ref q2, .ref q3, .ref q4, .ref q5, .null, .null])), (q1, eI cI 6 z32), (q2, eI cI 6 z32), (q3, eI cI 6 z32), (q4, eI cI 6 z32), (q5, eI cI 6 z32)] := hD
  refine lv_aload_n hx hb dX1_init_44 rfl (lv_at hl 0 rfl) ?_
  refine lv_bipush (v := 6) hx hb dX1_init_45 (by decide) ?_
  refine b_newI (N := 6) hx hb (hts (.arrayClass .int) (by decide +kernel)) hK hP hD hS hA (by decide) (by decide) (by decide) (Nat.le_of_ble_eq_true rfl) (Nat.le_of_ble_eq_true rfl) dX1_init_47 (fun q6 H hP hD hS => ?_)
  have hP : va_P D vwCl [(b0, .inr (1, [.ref q1, .ref q2, .ref q3, .ref q4, .ref q5, .null, .null])), (q1, eI cI 6 z32), (q2, eI cI 6 z32), (q3, eI cI 6 z32), (q4, eI cI 6 z32), (q5, eI cI 6 z32), (q6, eI cI 6 z32)] H := hP
  have hD : va_D A [(b0, .inr (1, [.ref q1, .ref q2, .ref q3, .ref q4, .ref q5, .null, .null])), (q1, eI cI 6 z32), (q2, eI cI 6 z32), (q3, eI cI 6 z32), (q4, eI cI 6 z32), (q5, eI cI 6 z32), (q6, eI cI 6 z32)] := hD
  refine W.widen (k := 6) (n := 36) (Nat.le_of_ble_eq_true rfl) (Nat.le_of_ble_eq_true rfl) ?_
  refine va_putF (D := D) (ci := 1) (v := .ref q6) (ty := .array .int) (C := RX1) (T := TX1) (N := 7) (Ts := wsX10) hx hb hin (fun _ h9 => h9) tyX1 tyX1_ok nmX1 hown hK hP hD hS 0 rfl rfl 5 (by decide) (hts (.fieldLink RX1 27 "Groupbooks$Books" "averageRates" "[I") (by decide +kernel)) (fun _ h9 => h9) rfl hini rfl (by decide +kernel) rfl rfl (Nat.le_of_ble_eq_true rfl) dX1_init_49 (fun H locs hP hD hS => ?_)
  have hP : va_P D vwCl [(b0, .inr (1, [.ref q1, .ref q2, .ref q3, .ref q4, .ref q5, .ref q6, .null])), (q1, eI cI 6 z32), (q2, eI cI 6 z32), (q3, eI cI 6 z32), (q4, eI cI 6 z32), (q5, eI cI 6 z32), (q6, eI cI 6 z32)] H := hP
  have hD : va_D A [(b0, .inr (1, [.ref q1, .ref q2, .ref q3, .ref q4, .ref q5, .ref q6, .null])), (q1, eI cI 6 z32), (q2, eI cI 6 z32), (q3, eI cI 6 z32), (q4, eI cI 6 z32), (q5, eI cI 6 z32), (q6, eI cI 6 z32)] := hD
  refine lv_aload_n hx hb dX1_init_52 rfl (lv_at hl 0 rfl) ?_
  refine lv_bipush (v := 6) hx hb dX1_init_53 (by decide) ?_
  refine b_newI (N := 6) hx hb (hts (.arrayClass .int) (by decide +kernel)) hK hP hD hS hA (by decide) (by decide) (by decide) (Nat.le_of_ble_eq_true rfl) (Nat.le_of_ble_eq_true rfl) dX1_init_55 (fun q7 H hP hD hS => ?_)
  have hP : va_P D vwCl [(b0, .inr (1, [.ref q1, .ref q2, .ref q3, .ref q4, .ref q5, .ref q6, .null])), (q1, eI cI 6 z32), (q2, eI cI 6 z32), (q3, eI cI 6 z32), (q4, eI cI 6 z32), (q5, eI cI 6 z32), (q6, eI cI 6 z32), (q7, eI cI 6 z32)] H := hP
  have hD : va_D A [(b0, .inr (1, [.ref q1, .ref q2, .ref q3, .ref q4, .ref q5, .ref q6, .null])), (q1, eI cI 6 z32), (q2, eI cI 6 z32), (q3, eI cI 6 z32), (q4, eI cI 6 z32), (q5, eI cI 6 z32), (q6, eI cI 6 z32), (q7, eI cI 6 z32)] := hD
  refine W.widen (k := 7) (n := 42) (Nat.le_of_ble_eq_true rfl) (Nat.le_of_ble_eq_true rfl) ?_
  refine va_putF (D := D) (ci := 1) (v := .ref q7) (ty := .array .int) (C := RX1) (T := TX1) (N := 7) (Ts := wsX10) hx hb hin (fun _ h9 => h9) tyX1 tyX1_ok nmX1 hown hK hP hD hS 0 rfl rfl 6 (by decide) (hts (.fieldLink RX1 30 "Groupbooks$Books" "historicalRates" "[I") (by decide +kernel)) (fun _ h9 => h9) rfl hini rfl (by decide +kernel) rfl rfl (Nat.le_of_ble_eq_true rfl) dX1_init_57 (fun H locs hP hD hS => ?_)
  have hP : va_P D vwCl [(b0, .inr (1, [.ref q1, .ref q2, .ref q3, .ref q4, .ref q5, .ref q6, .ref q7])), (q1, eI cI 6 z32), (q2, eI cI 6 z32), (q3, eI cI 6 z32), (q4, eI cI 6 z32), (q5, eI cI 6 z32), (q6, eI cI 6 z32), (q7, eI cI 6 z32)] H := hP
  have hD : va_D A [(b0, .inr (1, [.ref q1, .ref q2, .ref q3, .ref q4, .ref q5, .ref q6, .ref q7])), (q1, eI cI 6 z32), (q2, eI cI 6 z32), (q3, eI cI 6 z32), (q4, eI cI 6 z32), (q5, eI cI 6 z32), (q6, eI cI 6 z32), (q7, eI cI 6 z32)] := hD
  obtain ⟨a, ha⟩ : ∃ a : Nat → Nat, a = fun k => ([b0, q1, q2, q3, q4, q5, q6, q7].getD k 0) := ⟨_, rfl⟩
  have hP : va_P D vwCl (IW1 a cI cJ z32 z32 z32 z32 z32 z32 z32) H := by rw [ha]; exact hP
  have hD : va_D A (IW1 a cI cJ z32 z32 z32 z32 z32 z32 z32) := by rw [ha]; exact hD
  have hE0 : a 0 = b0 := by rw [ha]; rfl
  have hl : lv_has ls 2 [(0, .ref (a 0))] := by rw [hE0]; exact hl
  refine lv_iconst (v := 0) hx hb dX1_init_60 (by decide) ?_
  refine lv_istore_n (lv' := [(1, .int (0)), (0, .ref (a 0))]) hx hb dX1_init_61 rfl hl (by decide) rfl (fun ls hl => ?_)
  have L1 : ∀ (n1 k1 : Nat), k1 + n1 = 6 → ∀ (H : Heap) (locs : List Loc) (ls : Array Slot), va_P D vwCl (IW1 a cI cJ z32 z32 z32 z32 (rtI (k1)) (rtI (k1)) (rtI (k1))) H → va_D A (IW1 a cI cJ z32 z32 z32 z32 (rtI (k1)) (rtI (k1)) (rtI (k1))) → va_S A ss.heap H locs → lv_has ls 2 [(1, .int (nI (k1))), (0, .ref (a 0))] → W pp ll ee rmX1_init ss mm (([.ref b0] : List Value).toArray) bel mth cde H locs 7 42 Z (F0 mm 62 ls []) := by
    intro n1
    induction n1 with
    | zero =>
      intro k1 hk1  H locs ls hP hD hS hl
      have hk1b : 6 = k1 := by omega
      subst hk1b
      refine lv_iload_n hx hb dX1_init_62 rfl (lv_at hl 0 rfl) ?_
      refine lv_bipush (v := 6) hx hb dX1_init_63 (by decide) ?_
      refine lv_icmp_ge (tgt := 98) hx hb dX1_init_65 (by decide) (fun c_1 => ?_) (fun c_1 => ?_)
      · have n_1 : (6) ≤ (6) := (nI_leI (a := 6) (b := 6) (by omega) (by omega)).mp c_1
        subst hZ; exact W.vret hx hb hr (fun t ht hW => ⟨⟨a, rfl, hE0, (by rw [ht]; exact hP), va_K.moved hW.alike hK, hD⟩, hS.F ht⟩) hS.2.2 dX1_init_98
      · have n_1 : ¬ ((6) ≤ (6)) := fun h => c_1 ((nI_leI (a := 6) (b := 6) (by omega) (by omega)).mpr h)
        exfalso; omega
    | succ n1 ih1 =>
      intro k1 hk1  H locs ls hP hD hS hl
      have hk1b : k1 < 6 := by omega
      refine lv_iload_n hx hb dX1_init_62 rfl (lv_at hl 0 rfl) ?_
      refine lv_bipush (v := 6) hx hb dX1_init_63 (by decide) ?_
      refine lv_icmp_ge (tgt := 98) hx hb dX1_init_65 (by decide) (fun c_2 => ?_) (fun c_2 => ?_)
      · have n_2 : (6) ≤ (k1) := (nI_leI (a := 6) (b := k1) (by omega) (by omega)).mp c_2
        exfalso; omega
      · have n_2 : ¬ ((6) ≤ (k1)) := fun h => c_2 ((nI_leI (a := 6) (b := k1) (by omega) (by omega)).mpr h)
        refine lv_aload_n hx hb dX1_init_68 rfl (lv_at hl 1 rfl) ?_
        refine va_get (D := D) (ci := 1) (v := .ref (a 5)) (C := RX1) (T := TX1) (N := 7) (Ts := wsX10) hx hb hin (fun _ h9 => h9) hown hK hP 0 rfl rfl 4 (by decide) (hts (.fieldLink RX1 24 "Groupbooks$Books" "closingRates" "[I") (by decide +kernel)) (fun _ h9 => h9) rfl dX1_init_69 ?_
        refine lv_iload_n hx hb dX1_init_72 rfl (lv_at hl 0 rfl) ?_
        refine lv_bipush (v := 100) hx hb dX1_init_73 (by decide) ?_
        refine b_iast (w' := IW1 a cI cJ z32 z32 z32 z32 (upd (rtI (k1)) (k1) (100)) (rtI (k1)) (rtI (k1))) hx hb hK hP hD hS 5 0 (f := (rtI (k1))) rfl rfl (j := k1) (by omega) (by decide) rfl dX1_init_75 (fun H locs hP hD hS => ?_)
        refine lv_aload_n hx hb dX1_init_76 rfl (lv_at hl 1 rfl) ?_
        refine va_get (D := D) (ci := 1) (v := .ref (a 6)) (C := RX1) (T := TX1) (N := 7) (Ts := wsX10) hx hb hin (fun _ h9 => h9) hown hK hP 0 rfl rfl 5 (by decide) (hts (.fieldLink RX1 27 "Groupbooks$Books" "averageRates" "[I") (by decide +kernel)) (fun _ h9 => h9) rfl dX1_init_77 ?_
        refine lv_iload_n hx hb dX1_init_80 rfl (lv_at hl 0 rfl) ?_
        refine lv_bipush (v := 100) hx hb dX1_init_81 (by decide) ?_
        refine b_iast (w' := IW1 a cI cJ z32 z32 z32 z32 (upd (rtI (k1)) (k1) (100)) (upd (rtI (k1)) (k1) (100)) (rtI (k1))) hx hb hK hP hD hS 6 0 (f := (rtI (k1))) rfl rfl (j := k1) (by omega) (by decide) rfl dX1_init_83 (fun H locs hP hD hS => ?_)
        refine lv_aload_n hx hb dX1_init_84 rfl (lv_at hl 1 rfl) ?_
        refine va_get (D := D) (ci := 1) (v := .ref (a 7)) (C := RX1) (T := TX1) (N := 7) (Ts := wsX10) hx hb hin (fun _ h9 => h9) hown hK hP 0 rfl rfl 6 (by decide) (hts (.fieldLink RX1 30 "Groupbooks$Books" "historicalRates" "[I") (by decide +kernel)) (fun _ h9 => h9) rfl dX1_init_85 ?_
        refine lv_iload_n hx hb dX1_init_88 rfl (lv_at hl 0 rfl) ?_
        refine lv_bipush (v := 100) hx hb dX1_init_89 (by decide) ?_
        refine b_iast (w' := IW1 a cI cJ z32 z32 z32 z32 (upd (rtI (k1)) (k1) (100)) (upd (rtI (k1)) (k1) (100)) (upd (rtI (k1)) (k1) (100))) hx hb hK hP hD hS 7 0 (f := (rtI (k1))) rfl rfl (j := k1) (by omega) (by decide) rfl dX1_init_91 (fun H locs hP hD hS => ?_)
        refine lv_iinc (v := nI (k1 + 1)) (lv' := [(1, .int (nI (k1 + 1))), (0, .ref (a 0))]) hx hb dX1_init_92 hl (k := 0) rfl (nI_1 (k1)) (by decide) rfl (fun ls hl => ?_)
        refine lv_goto (tgt := 62) hx hb dX1_init_95 (by decide) ?_
        have e_3 : (rtI (k1 + 1)) = (upd (rtI (k1)) (k1) (100)) := by first | rfl | exact if_pos (by assumption) | exact if_neg (by assumption) | (simp only [n_2, Bool.false_eq_true, ↓reduceIte])
        exact ih1 (k1 + 1) (by omega) _ _ ls (by rw [e_3]; exact hP) (by rw [e_3]; exact hD) hS (lv_sub hl [0, 1] rfl)
  exact L1 (6) 0 (by omega) _ _ ls hP hD hS (lv_sub hl [0, 1] rfl)

abbrev rmX2_init : Room := ({ frames := 1, cells := 6, slots := 96, locals := 40 } : Room)
set_option maxHeartbeats 4000000 in
set_option maxRecDepth 100000 in
theorem c_X2_init (ll : Launch) (D : va_G) (cI cJ : ClassId) (sz : Nat) (b0 : Nat) : Met ll yX2_init wsX2_init rmX2_init (va_Pc [.ref (b0)] (PW D (tyG cI cJ) [(b0, .inr (2, [.null, .null, .null, .null, .null, .null]))] sz)) (va_Qv (fun (u : Nat → Nat) => u 0 = b0) (fun (u : Nat → Nat) t => AW D (tyG cI cJ) (va_A [(b0, .inr (2, [.null, .null, .null, .null, .null, .null]))] sz) (IW2 u cI cJ z32 (nuI 6) (dnmI 6) z64 z32 z32) t) (va_A [(b0, .inr (2, [.null, .null, .null, .null, .null, .null]))] sz)) 6 96 (va_A [(b0, .inr (2, [.null, .null, .null, .null, .null, .null]))] sz) := by
  refine Met.ofW (cc := cX2_init) (maxL := 2) (ret := none) (by decide) rfl ?_
  intro pp ee ss mm ar bel mth cde s₁ B hml hv
  obtain ⟨rfl, hsz, hP, hK, hD0, hE⟩ := hv
  have hx := B.exec
  have hb := B.bytes
  have hr := B.returns
  have hts := atoms_spec (ws := wsX2_init) B.pre
  have hown : ss.vm.findClass RX2 = some mm.cls := findClass_of_methodNamed B.named
  have hlocks := B.notSynchronized
  have hini : mth.name = "<init>" := (name_of_methodNamed B.named B.method).1
  subst hsz
  have hD := hD0.self (sz := ss.heap.size)
  generalize hAe : va_A [(b0, .inr (2, [.null, .null, .null, .null, .null, .null]))] ss.heap.size = A at hD ⊢
  have hA : ∀ q : Nat, ss.heap.size ≤ q → A q := fun q h => by rw [← hAe]; exact Or.inr h
  have hS : va_S A ss.heap ss.heap [] := va_S.rf
  have hP : va_P D vwCl [(b0, .inr (2, [.null, .null, .null, .null, .null, .null]))] ss.heap := hP
  have hin : ∀ w ∈ wsX20, w.before ([.ref b0] : List Value).toArray ss = true := fun w h => hts w ((by decide +kernel : ∀ w ∈ wsX20, w ∈ wsX2_init) w h)
  have hl := lv_entry [.ref b0] (n := 2) (Nat.le_of_ble_eq_true rfl)
  rw [lg_entry_eq]
  generalize (lg_sl [.ref b0] ++ List.replicate (2 - (lg_sl [.ref b0]).length) Slot.unset).toArray = ls at hl ⊢
  have hl : lv_has ls 2 [(0, .ref b0)] := hl
  generalize hZ : MQ bel _ _ ss _ _ _ = Z
  refine lv_aload_n hx hb dX2_init_0 rfl (lv_at hl 0 rfl) ?_
  refine W.objInit hx hb hown (hts (.methodLink RX2 3 objectInit) (by decide +kernel)) (hts (.instanceMethod objectInit) (by decide +kernel)) (hts _ (List.mem_of_getElem? (i := 3) rfl)) rfl (by rw [hml]; exact hl.1) rfl dX2_init_1 (Nat.le_of_ble_eq_true rfl) (Nat.le_of_ble_eq_true rfl) ?_
  refine W.eq (g2 := F0 mm 4 ls []) rfl ?_
  refine lv_aload_n hx hb dX2_init_4 rfl (lv_at hl 0 rfl) ?_
  refine lv_bipush (v := 36) hx hb dX2_init_5 (by decide) ?_
  refine b_newI (N := 36) hx hb (hts (.arrayClass .int) (by decide +kernel)) hK hP hD hS hA (by decide) (by decide) (by decide) (Nat.le_of_ble_eq_true rfl) (Nat.le_of_ble_eq_true rfl) dX2_init_7 (fun q1 H hP hD hS => ?_)
  have hP : va_P D vwCl [(b0, .inr (2, [.null, .null, .null, .null, .null, .null])), (q1, eI cI 36 z32)] H := hP
  have hD : va_D A [(b0, .inr (2, [.null, .null, .null, .null, .null, .null])), (q1, eI cI 36 z32)] := hD
  refine W.widen (k := 1) (n := 36) (Nat.le_of_ble_eq_true rfl) (Nat.le_of_ble_eq_true rfl) ?_
  refine va_putF (D := D) (ci := 2) (v := .ref q1) (ty := .array .int) (C := RX2) (T := TX2) (N := 6) (Ts := wsX20) hx hb hin (fun _ h9 => h9) tyX2 tyX2_ok nmX2 hown hK hP hD hS 0 rfl rfl 0 (by decide) (hts (.fieldLink RX2 9 "Groupbooks$Holdings" "percents" "[I") (by decide +kernel)) (fun _ h9 => h9) rfl hini rfl (by decide +kernel) rfl rfl (Nat.le_of_ble_eq_true rfl) dX2_init_9 (fun H locs hP hD hS => ?_)
  have hP : va_P D vwCl [(b0, .inr (2, [.ref q1, .null, .null, .null, .null, .null])), (q1, eI cI 36 z32)] H := hP
  have hD : va_D A [(b0, .inr (2, [.ref q1, .null, .null, .null, .null, .null])), (q1, eI cI 36 z32)] := hD
  refine lv_aload_n hx hb dX2_init_12 rfl (lv_at hl 0 rfl) ?_
  refine lv_bipush (v := 6) hx hb dX2_init_13 (by decide) ?_
  refine b_newJ (N := 6) hx hb (hts (.arrayClass .long) (by decide +kernel)) hK hP hD hS hA (by decide) (by decide) (by decide) (Nat.le_of_ble_eq_true rfl) (Nat.le_of_ble_eq_true rfl) dX2_init_15 (fun q2 H hP hD hS => ?_)
  have hP : va_P D vwCl [(b0, .inr (2, [.ref q1, .null, .null, .null, .null, .null])), (q1, eI cI 36 z32), (q2, eJ cJ 6 z64)] H := hP
  have hD : va_D A [(b0, .inr (2, [.ref q1, .null, .null, .null, .null, .null])), (q1, eI cI 36 z32), (q2, eJ cJ 6 z64)] := hD
  refine W.widen (k := 2) (n := 42) (Nat.le_of_ble_eq_true rfl) (Nat.le_of_ble_eq_true rfl) ?_
  refine va_putF (D := D) (ci := 2) (v := .ref q2) (ty := .array .long) (C := RX2) (T := TX2) (N := 6) (Ts := wsX20) hx hb hin (fun _ h9 => h9) tyX2 tyX2_ok nmX2 hown hK hP hD hS 0 rfl rfl 1 (by decide) (hts (.fieldLink RX2 15 "Groupbooks$Holdings" "numerators" "[J") (by decide +kernel)) (fun _ h9 => h9) rfl hini rfl (by decide +kernel) rfl rfl (Nat.le_of_ble_eq_true rfl) dX2_init_17 (fun H locs hP hD hS => ?_)
  have hP : va_P D vwCl [(b0, .inr (2, [.ref q1, .ref q2, .null, .null, .null, .null])), (q1, eI cI 36 z32), (q2, eJ cJ 6 z64)] H := hP
  have hD : va_D A [(b0, .inr (2, [.ref q1, .ref q2, .null, .null, .null, .null])), (q1, eI cI 36 z32), (q2, eJ cJ 6 z64)] := hD
  refine lv_aload_n hx hb dX2_init_20 rfl (lv_at hl 0 rfl) ?_
  refine lv_bipush (v := 6) hx hb dX2_init_21 (by decide) ?_
  refine b_newJ (N := 6) hx hb (hts (.arrayClass .long) (by decide +kernel)) hK hP hD hS hA (by decide) (by decide) (by decide) (Nat.le_of_ble_eq_true rfl) (Nat.le_of_ble_eq_true rfl) dX2_init_23 (fun q3 H hP hD hS => ?_)
  have hP : va_P D vwCl [(b0, .inr (2, [.ref q1, .ref q2, .null, .null, .null, .null])), (q1, eI cI 36 z32), (q2, eJ cJ 6 z64), (q3, eJ cJ 6 z64)] H := hP
  have hD : va_D A [(b0, .inr (2, [.ref q1, .ref q2, .null, .null, .null, .null])), (q1, eI cI 36 z32), (q2, eJ cJ 6 z64), (q3, eJ cJ 6 z64)] := hD
  refine W.widen (k := 3) (n := 48) (Nat.le_of_ble_eq_true rfl) (Nat.le_of_ble_eq_true rfl) ?_
  refine va_putF (D := D) (ci := 2) (v := .ref q3) (ty := .array .long) (C := RX2) (T := TX2) (N := 6) (Ts := wsX20) hx hb hin (fun _ h9 => h9) tyX2 tyX2_ok nmX2 hown hK hP hD hS 0 rfl rfl 2 (by decide) (hts (.fieldLink RX2 19 "Groupbooks$Holdings" "denominators" "[J") (by decide +kernel)) (fun _ h9 => h9) rfl hini rfl (by decide +kernel) rfl rfl (Nat.le_of_ble_eq_true rfl) dX2_init_25 (fun H locs hP hD hS => ?_)
  have hP : va_P D vwCl [(b0, .inr (2, [.ref q1, .ref q2, .ref q3, .null, .null, .null])), (q1, eI cI 36 z32), (q2, eJ cJ 6 z64), (q3, eJ cJ 6 z64)] H := hP
  have hD : va_D A [(b0, .inr (2, [.ref q1, .ref q2, .ref q3, .null, .null, .null])), (q1, eI cI 36 z32), (q2, eJ cJ 6 z64), (q3, eJ cJ 6 z64)] := hD
  refine lv_aload_n hx hb dX2_init_28 rfl (lv_at hl 0 rfl) ?_
  refine lv_bipush (v := 36) hx hb dX2_init_29 (by decide) ?_
  refine b_newJ (N := 36) hx hb (hts (.arrayClass .long) (by decide +kernel)) hK hP hD hS hA (by decide) (by decide) (by decide) (Nat.le_of_ble_eq_true rfl) (Nat.le_of_ble_eq_true rfl) dX2_init_31 (fun q4 H hP hD hS => ?_)
  have hP : va_P D vwCl [(b0, .inr (2, [.ref q1, .ref q2, .ref q3, .null, .null, .null])), (q1, eI cI 36 z32), (q2, eJ cJ 6 z64), (q3, eJ cJ 6 z64), (q4, eJ cJ 36 z64)] H := hP
  have hD : va_D A [(b0, .inr (2, [.ref q1, .ref q2, .ref q3, .null, .null, .null])), (q1, eI cI 36 z32), (q2, eJ cJ 6 z64), (q3, eJ cJ 6 z64), (q4, eJ cJ 36 z64)] := hD
  refine W.widen (k := 4) (n := 84) (Nat.le_of_ble_eq_true rfl) (Nat.le_of_ble_eq_true rfl) ?_
  refine va_putF (D := D) (ci := 2) (v := .ref q4) (ty := .array .long) (C := RX2) (T := TX2) (N := 6) (Ts := wsX20) hx hb hin (fun _ h9 => h9) tyX2 tyX2_ok nmX2 hown hK hP hD hS 0 rfl rfl 3 (by decide) (hts (.fieldLink RX2 22 "Groupbooks$Holdings" "equations" "[J") (by decide +kernel)) (fun _ h9 => h9) rfl hini rfl (by decide +kernel) rfl rfl (Nat.le_of_ble_eq_true rfl) dX2_init_33 (fun H locs hP hD hS => ?_)
  have hP : va_P D vwCl [(b0, .inr (2, [.ref q1, .ref q2, .ref q3, .ref q4, .null, .null])), (q1, eI cI 36 z32), (q2, eJ cJ 6 z64), (q3, eJ cJ 6 z64), (q4, eJ cJ 36 z64)] H := hP
  have hD : va_D A [(b0, .inr (2, [.ref q1, .ref q2, .ref q3, .ref q4, .null, .null])), (q1, eI cI 36 z32), (q2, eJ cJ 6 z64), (q3, eJ cJ 6 z64), (q4, eJ cJ 36 z64)] := hD
  refine lv_aload_n hx hb dX2_init_36 rfl (lv_at hl 0 rfl) ?_
  refine lv_bipush (v := 6) hx hb dX2_init_37 (by decide) ?_
  refine b_newI (N := 6) hx hb (hts (.arrayClass .int) (by decide +kernel)) hK hP hD hS hA (by decide) (by decide) (by decide) (Nat.le_of_ble_eq_true rfl) (Nat.le_of_ble_eq_true rfl) dX2_init_39 (fun q5 H hP hD hS => ?_)
  have hP : va_P D vwCl [(b0, .inr (2, [.ref q1, .ref q2, .ref q3, .ref q4, .null, .null])), (q1, eI cI 36 z32), (q2, eJ cJ 6 z64), (q3, eJ cJ 6 z64), (q4, eJ cJ 36 z64), (q5, eI cI 6 z32)] H := hP
  have hD : va_D A [(b0, .inr (2, [.ref q1, .ref q2, .ref q3, .ref q4, .null, .null])), (q1, eI cI 36 z32), (q2, eJ cJ 6 z64), (q3, eJ cJ 6 z64), (q4, eJ cJ 36 z64), (q5, eI cI 6 z32)] := hD
  refine W.widen (k := 5) (n := 90) (Nat.le_of_ble_eq_true rfl) (Nat.le_of_ble_eq_true rfl) ?_
  refine va_putF (D := D) (ci := 2) (v := .ref q5) (ty := .array .int) (C := RX2) (T := TX2) (N := 6) (Ts := wsX20) hx hb hin (fun _ h9 => h9) tyX2 tyX2_ok nmX2 hown hK hP hD hS 0 rfl rfl 4 (by decide) (hts (.fieldLink RX2 25 "Groupbooks$Holdings" "amounts" "[I") (by decide +kernel)) (fun _ h9 => h9) rfl hini rfl (by decide +kernel) rfl rfl (Nat.le_of_ble_eq_true rfl) dX2_init_41 (fun H locs hP hD hS => ?_)
  have hP : va_P D vwCl [(b0, .inr (2, [.ref q1, .ref q2, .ref q3, .ref q4, .ref q5, .null])), (q1, eI cI 36 z32), (q2, eJ cJ 6 z64), (q3, eJ cJ 6 z64), (q4, eJ cJ 36 z64), (q5, eI cI 6 z32)] H := hP
  have hD : va_D A [(b0, .inr (2, [.ref q1, .ref q2, .ref q3, .ref q4, .ref q5, .null])), (q1, eI cI 36 z32), (q2, eJ cJ 6 z64), (q3, eJ cJ 6 z64), (q4, eJ cJ 36 z64), (q5, eI cI 6 z32)] := hD
  refine lv_aload_n hx hb dX2_init_44 rfl (lv_at hl 0 rfl) ?_
  refine lv_bipush (v := 6) hx hb dX2_init_45 (by decide) ?_
  refine b_newI (N := 6) hx hb (hts (.arrayClass .int) (by decide +kernel)) hK hP hD hS hA (by decide) (by decide) (by decide) (Nat.le_of_ble_eq_true rfl) (Nat.le_of_ble_eq_true rfl) dX2_init_47 (fun q6 H hP hD hS => ?_)
  have hP : va_P D vwCl [(b0, .inr (2, [.ref q1, .ref q2, .ref q3, .ref q4, .ref q5, .null])), (q1, eI cI 36 z32), (q2, eJ cJ 6 z64), (q3, eJ cJ 6 z64), (q4, eJ cJ 36 z64), (q5, eI cI 6 z32), (q6, eI cI 6 z32)] H := hP
  have hD : va_D A [(b0, .inr (2, [.ref q1, .ref q2, .ref q3, .ref q4, .ref q5, .null])), (q1, eI cI 36 z32), (q2, eJ cJ 6 z64), (q3, eJ cJ 6 z64), (q4, eJ cJ 36 z64), (q5, eI cI 6 z32), (q6, eI cI 6 z32)] := hD
  refine W.widen (k := 6) (n := 96) (Nat.le_of_ble_eq_true rfl) (Nat.le_of_ble_eq_true rfl) ?_
  refine va_putF (D := D) (ci := 2) (v := .ref q6) (ty := .array .int) (C := RX2) (T := TX2) (N := 6) (Ts := wsX20) hx hb hin (fun _ h9 => h9) tyX2 tyX2_ok nmX2 hown hK hP hD hS 0 rfl rfl 5 (by decide) (hts (.fieldLink RX2 28 "Groupbooks$Holdings" "nextAmounts" "[I") (by decide +kernel)) (fun _ h9 => h9) rfl hini rfl (by decide +kernel) rfl rfl (Nat.le_of_ble_eq_true rfl) dX2_init_49 (fun H locs hP hD hS => ?_)
  have hP : va_P D vwCl [(b0, .inr (2, [.ref q1, .ref q2, .ref q3, .ref q4, .ref q5, .ref q6])), (q1, eI cI 36 z32), (q2, eJ cJ 6 z64), (q3, eJ cJ 6 z64), (q4, eJ cJ 36 z64), (q5, eI cI 6 z32), (q6, eI cI 6 z32)] H := hP
  have hD : va_D A [(b0, .inr (2, [.ref q1, .ref q2, .ref q3, .ref q4, .ref q5, .ref q6])), (q1, eI cI 36 z32), (q2, eJ cJ 6 z64), (q3, eJ cJ 6 z64), (q4, eJ cJ 36 z64), (q5, eI cI 6 z32), (q6, eI cI 6 z32)] := hD
  obtain ⟨a, ha⟩ : ∃ a : Nat → Nat, a = fun k => ([b0, q1, q2, q3, q4, q5, q6].getD k 0) := ⟨_, rfl⟩
  have hP : va_P D vwCl (IW2 a cI cJ z32 z64 z64 z64 z32 z32) H := by rw [ha]; exact hP
  have hD : va_D A (IW2 a cI cJ z32 z64 z64 z64 z32 z32) := by rw [ha]; exact hD
  have hE0 : a 0 = b0 := by rw [ha]; rfl
  have hl : lv_has ls 2 [(0, .ref (a 0))] := by rw [hE0]; exact hl
  refine lv_iconst (v := 0) hx hb dX2_init_52 (by decide) ?_
  refine lv_istore_n (lv' := [(1, .int (0)), (0, .ref (a 0))]) hx hb dX2_init_53 rfl hl (by decide) rfl (fun ls hl => ?_)
  have L1 : ∀ (n1 k1 : Nat), k1 + n1 = 6 → ∀ (H : Heap) (locs : List Loc) (ls : Array Slot), va_P D vwCl (IW2 a cI cJ z32 (nuI (k1)) (dnmI (k1)) z64 z32 z32) H → va_D A (IW2 a cI cJ z32 (nuI (k1)) (dnmI (k1)) z64 z32 z32) → va_S A ss.heap H locs → lv_has ls 2 [(1, .int (nI (k1))), (0, .ref (a 0))] → W pp ll ee rmX2_init ss mm (([.ref b0] : List Value).toArray) bel mth cde H locs 6 96 Z (F0 mm 54 ls []) := by
    intro n1
    induction n1 with
    | zero =>
      intro k1 hk1  H locs ls hP hD hS hl
      have hk1b : 6 = k1 := by omega
      subst hk1b
      refine lv_iload_n hx hb dX2_init_54 rfl (lv_at hl 0 rfl) ?_
      refine lv_bipush (v := 6) hx hb dX2_init_55 (by decide) ?_
      refine lv_icmp_ge (tgt := 88) hx hb dX2_init_57 (by decide) (fun c_1 => ?_) (fun c_1 => ?_)
      · have n_1 : (6) ≤ (6) := (nI_leI (a := 6) (b := 6) (by omega) (by omega)).mp c_1
        subst hZ; exact W.vret hx hb hr (fun t ht hW => ⟨⟨a, rfl, hE0, (by rw [ht]; exact hP), va_K.moved hW.alike hK, hD⟩, hS.F ht⟩) hS.2.2 dX2_init_88
      · have n_1 : ¬ ((6) ≤ (6)) := fun h => c_1 ((nI_leI (a := 6) (b := 6) (by omega) (by omega)).mpr h)
        exfalso; omega
    | succ n1 ih1 =>
      intro k1 hk1  H locs ls hP hD hS hl
      have hk1b : k1 < 6 := by omega
      refine lv_iload_n hx hb dX2_init_54 rfl (lv_at hl 0 rfl) ?_
      refine lv_bipush (v := 6) hx hb dX2_init_55 (by decide) ?_
      refine lv_icmp_ge (tgt := 88) hx hb dX2_init_57 (by decide) (fun c_2 => ?_) (fun c_2 => ?_)
      · have n_2 : (6) ≤ (k1) := (nI_leI (a := 6) (b := k1) (by omega) (by omega)).mp c_2
        exfalso; omega
      · have n_2 : ¬ ((6) ≤ (k1)) := fun h => c_2 ((nI_leI (a := 6) (b := k1) (by omega) (by omega)).mpr h)
        refine lv_aload_n hx hb dX2_init_60 rfl (lv_at hl 1 rfl) ?_
        refine va_get (D := D) (ci := 2) (v := .ref (a 2)) (C := RX2) (T := TX2) (N := 6) (Ts := wsX20) hx hb hin (fun _ h9 => h9) hown hK hP 0 rfl rfl 1 (by decide) (hts (.fieldLink RX2 15 "Groupbooks$Holdings" "numerators" "[J") (by decide +kernel)) (fun _ h9 => h9) rfl dX2_init_61 ?_
        refine lv_iload_n hx hb dX2_init_64 rfl (lv_at hl 0 rfl) ?_
        refine lv_iload_n hx hb dX2_init_65 rfl (lv_at hl 0 rfl) ?_
        refine lv_if_ne (tgt := 73) hx hb dX2_init_66 (by decide) (fun c_3 => ?_) (fun c_3 => ?_)
        · have n_3 : ¬ ((k1) = (0)) := fun h => c_3 ((nI_eq (a := k1) (b := 0) (by omega) (by omega)).mpr h)
          refine lv_lconst (v := 0) hx hb dX2_init_73 (by decide) ?_
          refine b_last (w' := IW2 a cI cJ z32 (vp_updL (nuI (k1)) (k1) (0)) (dnmI (k1)) z64 z32 z32) hx hb hK hP hD hS 2 1 (f := (nuI (k1))) rfl rfl (j := k1) (by omega) (by decide) rfl dX2_init_74 (fun H locs hP hD hS => ?_)
          refine lv_aload_n hx hb dX2_init_75 rfl (lv_at hl 1 rfl) ?_
          refine va_get (D := D) (ci := 2) (v := .ref (a 3)) (C := RX2) (T := TX2) (N := 6) (Ts := wsX20) hx hb hin (fun _ h9 => h9) hown hK hP 0 rfl rfl 2 (by decide) (hts (.fieldLink RX2 19 "Groupbooks$Holdings" "denominators" "[J") (by decide +kernel)) (fun _ h9 => h9) rfl dX2_init_76 ?_
          refine lv_iload_n hx hb dX2_init_79 rfl (lv_at hl 0 rfl) ?_
          refine lv_lconst (v := 1) hx hb dX2_init_80 (by decide) ?_
          refine b_last (w' := IW2 a cI cJ z32 (vp_updL (nuI (k1)) (k1) (0)) (vp_updL (dnmI (k1)) (k1) (1)) z64 z32 z32) hx hb hK hP hD hS 3 1 (f := (dnmI (k1))) rfl rfl (j := k1) (by omega) (by decide) rfl dX2_init_81 (fun H locs hP hD hS => ?_)
          refine lv_iinc (v := nI (k1 + 1)) (lv' := [(1, .int (nI (k1 + 1))), (0, .ref (a 0))]) hx hb dX2_init_82 hl (k := 0) rfl (nI_1 (k1)) (by decide) rfl (fun ls hl => ?_)
          refine lv_goto (tgt := 54) hx hb dX2_init_85 (by decide) ?_
          have e_4 : (nuI (k1 + 1)) = (vp_updL (nuI (k1)) (k1) (0)) := by first | rfl | exact if_pos (by assumption) | exact if_neg (by assumption) | (simp only [nuI, n_2, n_3, Bool.false_eq_true, ↓reduceIte])
          have e_5 : (dnmI (k1 + 1)) = (vp_updL (dnmI (k1)) (k1) (1)) := by first | rfl | exact if_pos (by assumption) | exact if_neg (by assumption) | (simp only [nuI, n_2, n_3, Bool.false_eq_true, ↓reduceIte])
          exact ih1 (k1 + 1) (by omega) _ _ ls (by rw [e_4, e_5]; exact hP) (by rw [e_4, e_5]; exact hD) hS (lv_sub hl [0, 1] rfl)
        · have n_3 : (k1) = (0) := (nI_eq (a := k1) (b := 0) (by omega) (by omega)).mp c_3
          refine lv_lconst (v := 1) hx hb dX2_init_69 (by decide) ?_
          refine lv_goto (tgt := 74) hx hb dX2_init_70 (by decide) ?_
          refine b_last (w' := IW2 a cI cJ z32 (vp_updL (nuI (k1)) (k1) (1)) (dnmI (k1)) z64 z32 z32) hx hb hK hP hD hS 2 1 (f := (nuI (k1))) rfl rfl (j := k1) (by omega) (by decide) rfl dX2_init_74 (fun H locs hP hD hS => ?_)
          refine lv_aload_n hx hb dX2_init_75 rfl (lv_at hl 1 rfl) ?_
          refine va_get (D := D) (ci := 2) (v := .ref (a 3)) (C := RX2) (T := TX2) (N := 6) (Ts := wsX20) hx hb hin (fun _ h9 => h9) hown hK hP 0 rfl rfl 2 (by decide) (hts (.fieldLink RX2 19 "Groupbooks$Holdings" "denominators" "[J") (by decide +kernel)) (fun _ h9 => h9) rfl dX2_init_76 ?_
          refine lv_iload_n hx hb dX2_init_79 rfl (lv_at hl 0 rfl) ?_
          refine lv_lconst (v := 1) hx hb dX2_init_80 (by decide) ?_
          refine b_last (w' := IW2 a cI cJ z32 (vp_updL (nuI (k1)) (k1) (1)) (vp_updL (dnmI (k1)) (k1) (1)) z64 z32 z32) hx hb hK hP hD hS 3 1 (f := (dnmI (k1))) rfl rfl (j := k1) (by omega) (by decide) rfl dX2_init_81 (fun H locs hP hD hS => ?_)
          refine lv_iinc (v := nI (k1 + 1)) (lv' := [(1, .int (nI (k1 + 1))), (0, .ref (a 0))]) hx hb dX2_init_82 hl (k := 0) rfl (nI_1 (k1)) (by decide) rfl (fun ls hl => ?_)
          refine lv_goto (tgt := 54) hx hb dX2_init_85 (by decide) ?_
          have e_6 : (nuI (k1 + 1)) = (vp_updL (nuI (k1)) (k1) (1)) := by first | rfl | exact if_pos (by assumption) | exact if_neg (by assumption) | (simp only [nuI, n_2, n_3, Bool.false_eq_true, ↓reduceIte])
          have e_7 : (dnmI (k1 + 1)) = (vp_updL (dnmI (k1)) (k1) (1)) := by first | rfl | exact if_pos (by assumption) | exact if_neg (by assumption) | (simp only [nuI, n_2, n_3, Bool.false_eq_true, ↓reduceIte])
          exact ih1 (k1 + 1) (by omega) _ _ ls (by rw [e_6, e_7]; exact hP) (by rw [e_6, e_7]; exact hD) hS (lv_sub hl [0, 1] rfl)
  exact L1 (6) 0 (by omega) _ _ ls hP hD hS (lv_sub hl [0, 1] rfl)
end
section
abbrev rmX3_init : Room := ({ frames := 2, cells := 20, slots := 243, locals := 100 } : Room)
set_option maxHeartbeats 4000000 in
set_option maxRecDepth 100000 in
theorem c_X3_init (ll : Launch) (D : va_G) (cI cJ : ClassId) (sz : Nat) (b0 : Nat) : Met ll yX3_init wsX3_init rmX3_init (va_Pc [.ref (b0)] (PW D (tyG cI cJ) [(b0, .inr (3, [.null, .null, .null, .null, .null, .int 0]))] sz)) (va_Qv (fun (u : Nat → Nat) => u 0 = b0) (fun (u : Nat → Nat) t => AW D (tyG cI cJ) (va_A [(b0, .inr (3, [.null, .null, .null, .null, .null, .int 0]))] sz) (GW u cI cJ z32 (nuI 6) (dnmI 6) z64 z32 z32 z32 z32 z32 z32 (rtI 6) (rtI 6) (rtI 6) z32 z32 z32 z32 0) t) (va_A [(b0, .inr (3, [.null, .null, .null, .null, .null, .int 0]))] sz)) 20 243 (va_A [(b0, .inr (3, [.null, .null, .null, .null, .null, .int 0]))] sz) := by
  refine Met.ofW (cc := cX3_init) (maxL := 1) (ret := none) (by decide) rfl ?_
  intro pp ee ss mm ar bel mth cde s₁ B hml hv
  obtain ⟨rfl, hsz, hP, hK, hD0, hE⟩ := hv
  have hx := B.exec
  have hb := B.bytes
  have hr := B.returns
  have hts := atoms_spec (ws := wsX3_init) B.pre
  have hown : ss.vm.findClass RX3 = some mm.cls := findClass_of_methodNamed B.named
  have hlocks := B.notSynchronized
  have hini : mth.name = "<init>" := (name_of_methodNamed B.named B.method).1
  subst hsz
  have hD := hD0.self (sz := ss.heap.size)
  generalize hAe : va_A [(b0, .inr (3, [.null, .null, .null, .null, .null, .int 0]))] ss.heap.size = A at hD ⊢
  have hA : ∀ q : Nat, ss.heap.size ≤ q → A q := fun q h => by rw [← hAe]; exact Or.inr h
  have hS : va_S A ss.heap ss.heap [] := va_S.rf
  have hP : va_P D vwCl [(b0, .inr (3, [.null, .null, .null, .null, .null, .int 0]))] ss.heap := hP
  have hinX0 : ∀ w ∈ wsX00, w.before ([.ref b0] : List Value).toArray ss = true := fun w h => hts w ((by decide +kernel : ∀ w ∈ wsX00, w ∈ wsX3_init) w h)
  have hinX1 : ∀ w ∈ wsX10, w.before ([.ref b0] : List Value).toArray ss = true := fun w h => hts w ((by decide +kernel : ∀ w ∈ wsX10, w ∈ wsX3_init) w h)
  have hinX2 : ∀ w ∈ wsX20, w.before ([.ref b0] : List Value).toArray ss = true := fun w h => hts w ((by decide +kernel : ∀ w ∈ wsX20, w ∈ wsX3_init) w h)
  have hinX3 : ∀ w ∈ wsX30, w.before ([.ref b0] : List Value).toArray ss = true := fun w h => hts w ((by decide +kernel : ∀ w ∈ wsX30, w ∈ wsX3_init) w h)
  have hl := lv_entry [.ref b0] (n := 1) (Nat.le_of_ble_eq_true rfl)
  rw [lg_entry_eq]
  generalize (lg_sl [.ref b0] ++ List.replicate (1 - (lg_sl [.ref b0]).length) Slot.unset).toArray = ls at hl ⊢
  have hl : lv_has ls 1 [(0, .ref b0)] := hl
  refine lv_aload_n hx hb dX3_init_0 rfl (lv_at hl 0 rfl) ?_
  refine W.objInit hx hb hown (hts (.methodLink RX3 1 objectInit) (by decide +kernel)) (hts (.instanceMethod objectInit) (by decide +kernel)) (hts _ (List.mem_of_getElem? (i := 3) rfl)) rfl (by rw [hml]; exact hl.1) rfl dX3_init_1 (Nat.le_of_ble_eq_true rfl) (Nat.le_of_ble_eq_true rfl) ?_
  refine W.eq (g2 := F0 mm 4 ls []) rfl ?_
  refine lv_aload_n hx hb dX3_init_4 rfl (lv_at hl 0 rfl) ?_
  refine va_new (ci := 2) (fs := [.null, .null, .null, .null, .null, .null]) (C := RX2) (T := TX2) (N := 6) hx hb hinX2 (fun _ h9 => h9) tyX2 tyX2_ok hown (hts (.classLink RX3 7 RX2) (by decide +kernel)) (hts (.instantiable RX2 6) (by decide +kernel)) (hts (.initialized RX2) (by decide +kernel)) hK hP hD hS hA rfl (by decide) (Nat.le_of_ble_eq_true rfl) (Nat.le_of_ble_eq_true rfl) dX3_init_5 (fun q1 H hP hD hS => ?_)
  have hP : va_P D vwCl ((b0, .inr (3, [.null, .null, .null, .null, .null, .int 0])) :: ([(q1, .inr (2, [.null, .null, .null, .null, .null, .null]))])) H := hP
  have hD : va_D A ((b0, .inr (3, [.null, .null, .null, .null, .null, .int 0])) :: ([(q1, .inr (2, [.null, .null, .null, .null, .null, .null]))])) := hD
  refine W.widen (k := 1) (n := 6) (Nat.le_of_ble_eq_true rfl) (Nat.le_of_ble_eq_true rfl) ?_
  refine lv_dup hx hb dX3_init_8 rfl ?_
  have hPc := hP.sub (ws' := [(q1, .inr (2, [.null, .null, .null, .null, .null, .null]))]) [1] rfl
  have hDc := hD.sub (ws' := [(q1, .inr (2, [.null, .null, .null, .null, .null, .null]))]) [1] (by decide) rfl
  have hFc := va_free (wc := [(q1, .inr (2, [.null, .null, .null, .null, .null, .null]))]) hD hS hA [1] rfl
  refine va_callv (va_runIN (As := []) (rest := [.ref q1, .ref b0]) ⟨hx, hb, hml, hown, hts⟩ (c_X2_init ll D cI cJ H.size q1) ⟨va_cnB 0 hts gX3_init_X2_init_n9 rfl rfl rfl (hE.nest 0 rfl) (hts (.initialized RX2) (by decide +kernel)) (by decide +kernel) ⟨Nat.le_of_ble_eq_true rfl, Nat.le_of_ble_eq_true rfl⟩, rfl, hts (.instanceMethod yX2_init) (by decide +kernel)⟩ ⟨PW.blind, PW.go hPc hK hDc hE⟩ rfl rfl hl.1 rfl (lv_room (Nat.le_of_ble_eq_true rfl)) dX3_init_9 ⟨Nat.le_of_ble_eq_true rfl, Nat.le_of_ble_eq_true rfl⟩) hS (fun q _ h => hFc q h) hFc (fun u1 t H1 locs ht hvm hw hB hz1 hk1 hS => ?_)
  obtain ⟨hP1, hK1, hD1⟩ := hB
  rw [ht] at hP1
  obtain ⟨hP2, hD2⟩ := va_join (wr := [(b0, .inr (3, [.null, .null, .null, .null, .null, .int 0]))]) (w1 := IW2 u1 cI cJ z32 (nuI 6) (dnmI 6) z64 z32 z32) hP hD [1] [0] rfl rfl (by decide) (by decide) hk1 hFc hP1 hD1
  generalize H1 = H at hP2 hS ⊢
  obtain rfl : u1 0 = q1 := hw
  have hP := hP2
  have hD := hD2
  have hP : va_P D vwCl ((b0, .inr (3, [.null, .null, .null, .null, .null, .int 0])) :: (IW2 u1 cI cJ z32 (nuI 6) (dnmI 6) z64 z32 z32 ++ ([]))) H := hP
  have hD : va_D A ((b0, .inr (3, [.null, .null, .null, .null, .null, .int 0])) :: (IW2 u1 cI cJ z32 (nuI 6) (dnmI 6) z64 z32 z32 ++ ([]))) := hD
  refine W.widen (k := 7) (n := 102) (Nat.le_of_ble_eq_true rfl) (Nat.le_of_ble_eq_true rfl) ?_
  refine va_putF (D := D) (ci := 3) (v := .ref (u1 0)) (ty := .object "Groupbooks$Holdings") (C := RX3) (T := TX3) (N := 6) (Ts := wsX30) hx hb hinX3 (fun _ h9 => h9) tyX3 tyX3_ok nmX3 hown hK hP hD hS 0 rfl rfl 0 (by decide) (hts (.fieldLink RX3 10 "Groupbooks" "holdings" "LGroupbooks$Holdings;") (by decide +kernel)) (fun _ h9 => h9) rfl hini rfl (by decide +kernel) rfl rfl (Nat.le_of_ble_eq_true rfl) dX3_init_12 (fun H locs hP hD hS => ?_)
  have hP : va_P D vwCl ((b0, .inr (3, [.ref (u1 0), .null, .null, .null, .null, .int 0])) :: (IW2 u1 cI cJ z32 (nuI 6) (dnmI 6) z64 z32 z32 ++ ([]))) H := hP
  have hD : va_D A ((b0, .inr (3, [.ref (u1 0), .null, .null, .null, .null, .int 0])) :: (IW2 u1 cI cJ z32 (nuI 6) (dnmI 6) z64 z32 z32 ++ ([]))) := hD
  refine lv_aload_n hx hb dX3_init_15 rfl (lv_at hl 0 rfl) ?_
  refine va_new (ci := 1) (fs := [.null, .null, .null, .null, .null, .null, .null]) (C := RX1) (T := TX1) (N := 7) hx hb hinX1 (fun _ h9 => h9) tyX1 tyX1_ok hown (hts (.classLink RX3 16 RX1) (by decide +kernel)) (hts (.instantiable RX1 7) (by decide +kernel)) (hts (.initialized RX1) (by decide +kernel)) hK hP hD hS hA rfl (by decide) (Nat.le_of_ble_eq_true rfl) (Nat.le_of_ble_eq_true rfl) dX3_init_16 (fun q2 H hP hD hS => ?_)
  have hP : va_P D vwCl ((b0, .inr (3, [.ref (u1 0), .null, .null, .null, .null, .int 0])) :: (IW2 u1 cI cJ z32 (nuI 6) (dnmI 6) z64 z32 z32 ++ ([(q2, .inr (1, [.null, .null, .null, .null, .null, .null, .null]))]))) H := hP
  have hD : va_D A ((b0, .inr (3, [.ref (u1 0), .null, .null, .null, .null, .int 0])) :: (IW2 u1 cI cJ z32 (nuI 6) (dnmI 6) z64 z32 z32 ++ ([(q2, .inr (1, [.null, .null, .null, .null, .null, .null, .null]))]))) := hD
  refine W.widen (k := 8) (n := 109) (Nat.le_of_ble_eq_true rfl) (Nat.le_of_ble_eq_true rfl) ?_
  refine lv_dup hx hb dX3_init_19 rfl ?_
  have hPc := hP.sub (ws' := [(q2, .inr (1, [.null, .null, .null, .null, .null, .null, .null]))]) [8] rfl
  have hDc := hD.sub (ws' := [(q2, .inr (1, [.null, .null, .null, .null, .null, .null, .null]))]) [8] (by decide) rfl
  have hFc := va_free (wc := [(q2, .inr (1, [.null, .null, .null, .null, .null, .null, .null]))]) hD hS hA [8] rfl
  refine va_callv (va_runIN (As := []) (rest := [.ref q2, .ref b0]) ⟨hx, hb, hml, hown, hts⟩ (c_X1_init ll D cI cJ H.size q2) ⟨va_cnB 0 hts gX3_init_X1_init_n18 rfl rfl rfl (hE.nest 1 rfl) (hts (.initialized RX1) (by decide +kernel)) (by decide +kernel) ⟨Nat.le_of_ble_eq_true rfl, Nat.le_of_ble_eq_true rfl⟩, rfl, hts (.instanceMethod yX1_init) (by decide +kernel)⟩ ⟨PW.blind, PW.go hPc hK hDc hE⟩ rfl rfl hl.1 rfl (lv_room (Nat.le_of_ble_eq_true rfl)) dX3_init_20 ⟨Nat.le_of_ble_eq_true rfl, Nat.le_of_ble_eq_true rfl⟩) hS (fun q _ h => hFc q h) hFc (fun u2 t H1 locs ht hvm hw hB hz1 hk1 hS => ?_)
  obtain ⟨hP1, hK1, hD1⟩ := hB
  rw [ht] at hP1
  obtain ⟨hP2, hD2⟩ := va_join (wr := ((b0, .inr (3, [.ref (u1 0), .null, .null, .null, .null, .int 0])) :: (IW2 u1 cI cJ z32 (nuI 6) (dnmI 6) z64 z32 z32 ++ ([])))) (w1 := IW1 u2 cI cJ z32 z32 z32 z32 (rtI 6) (rtI 6) (rtI 6)) hP hD [8] [0, 1, 2, 3, 4, 5, 6, 7] rfl rfl (by decide) (by decide) hk1 hFc hP1 hD1
  generalize H1 = H at hP2 hS ⊢
  obtain rfl : u2 0 = q2 := hw
  have hP := hP2
  have hD := hD2
  have hP : va_P D vwCl ((b0, .inr (3, [.ref (u1 0), .null, .null, .null, .null, .int 0])) :: (IW2 u1 cI cJ z32 (nuI 6) (dnmI 6) z64 z32 z32 ++ (IW1 u2 cI cJ z32 z32 z32 z32 (rtI 6) (rtI 6) (rtI 6) ++ ([])))) H := hP
  have hD : va_D A ((b0, .inr (3, [.ref (u1 0), .null, .null, .null, .null, .int 0])) :: (IW2 u1 cI cJ z32 (nuI 6) (dnmI 6) z64 z32 z32 ++ (IW1 u2 cI cJ z32 z32 z32 z32 (rtI 6) (rtI 6) (rtI 6) ++ ([])))) := hD
  refine W.widen (k := 15) (n := 151) (Nat.le_of_ble_eq_true rfl) (Nat.le_of_ble_eq_true rfl) ?_
  refine va_putF (D := D) (ci := 3) (v := .ref (u2 0)) (ty := .object "Groupbooks$Books") (C := RX3) (T := TX3) (N := 6) (Ts := wsX30) hx hb hinX3 (fun _ h9 => h9) tyX3 tyX3_ok nmX3 hown hK hP hD hS 0 rfl rfl 1 (by decide) (hts (.fieldLink RX3 19 "Groupbooks" "books" "LGroupbooks$Books;") (by decide +kernel)) (fun _ h9 => h9) rfl hini rfl (by decide +kernel) rfl rfl (Nat.le_of_ble_eq_true rfl) dX3_init_23 (fun H locs hP hD hS => ?_)
  have hP : va_P D vwCl ((b0, .inr (3, [.ref (u1 0), .ref (u2 0), .null, .null, .null, .int 0])) :: (IW2 u1 cI cJ z32 (nuI 6) (dnmI 6) z64 z32 z32 ++ (IW1 u2 cI cJ z32 z32 z32 z32 (rtI 6) (rtI 6) (rtI 6) ++ ([])))) H := hP
  have hD : va_D A ((b0, .inr (3, [.ref (u1 0), .ref (u2 0), .null, .null, .null, .int 0])) :: (IW2 u1 cI cJ z32 (nuI 6) (dnmI 6) z64 z32 z32 ++ (IW1 u2 cI cJ z32 z32 z32 z32 (rtI 6) (rtI 6) (rtI 6) ++ ([])))) := hD
  refine lv_aload_n hx hb dX3_init_26 rfl (lv_at hl 0 rfl) ?_
  refine va_new (ci := 0) (fs := [.null, .null]) (C := RX0) (T := TX0) (N := 2) hx hb hinX0 (fun _ h9 => h9) tyX0 tyX0_ok hown (hts (.classLink RX3 23 RX0) (by decide +kernel)) (hts (.instantiable RX0 2) (by decide +kernel)) (hts (.initialized RX0) (by decide +kernel)) hK hP hD hS hA rfl (by decide) (Nat.le_of_ble_eq_true rfl) (Nat.le_of_ble_eq_true rfl) dX3_init_27 (fun q3 H hP hD hS => ?_)
  have hP : va_P D vwCl ((b0, .inr (3, [.ref (u1 0), .ref (u2 0), .null, .null, .null, .int 0])) :: (IW2 u1 cI cJ z32 (nuI 6) (dnmI 6) z64 z32 z32 ++ (IW1 u2 cI cJ z32 z32 z32 z32 (rtI 6) (rtI 6) (rtI 6) ++ ([(q3, .inr (0, [.null, .null]))])))) H := hP
  have hD : va_D A ((b0, .inr (3, [.ref (u1 0), .ref (u2 0), .null, .null, .null, .int 0])) :: (IW2 u1 cI cJ z32 (nuI 6) (dnmI 6) z64 z32 z32 ++ (IW1 u2 cI cJ z32 z32 z32 z32 (rtI 6) (rtI 6) (rtI 6) ++ ([(q3, .inr (0, [.null, .null]))])))) := hD
  refine W.widen (k := 16) (n := 153) (Nat.le_of_ble_eq_true rfl) (Nat.le_of_ble_eq_true rfl) ?_
  refine lv_dup hx hb dX3_init_30 rfl ?_
  have hPc := hP.sub (ws' := [(q3, .inr (0, [.null, .null]))]) [16] rfl
  have hDc := hD.sub (ws' := [(q3, .inr (0, [.null, .null]))]) [16] (by decide) rfl
  have hFc := va_free (wc := [(q3, .inr (0, [.null, .null]))]) hD hS hA [16] rfl
  refine va_callv (va_runIN (As := []) (rest := [.ref q3, .ref b0]) ⟨hx, hb, hml, hown, hts⟩ (c_X0_init ll D cI cJ H.size q3) ⟨va_cnB 0 hts gX3_init_X0_init_n25 rfl rfl rfl (hE.nest 2 rfl) (hts (.initialized RX0) (by decide +kernel)) (by decide +kernel) ⟨Nat.le_of_ble_eq_true rfl, Nat.le_of_ble_eq_true rfl⟩, rfl, hts (.instanceMethod yX0_init) (by decide +kernel)⟩ ⟨PW.blind, PW.go hPc hK hDc hE⟩ rfl rfl hl.1 rfl (lv_room (Nat.le_of_ble_eq_true rfl)) dX3_init_31 ⟨Nat.le_of_ble_eq_true rfl, Nat.le_of_ble_eq_true rfl⟩) hS (fun q _ h => hFc q h) hFc (fun u3 t H1 locs ht hvm hw hB hz1 hk1 hS => ?_)
  obtain ⟨hP1, hK1, hD1⟩ := hB
  rw [ht] at hP1
  obtain ⟨hP2, hD2⟩ := va_join (wr := ((b0, .inr (3, [.ref (u1 0), .ref (u2 0), .null, .null, .null, .int 0])) :: (IW2 u1 cI cJ z32 (nuI 6) (dnmI 6) z64 z32 z32 ++ (IW1 u2 cI cJ z32 z32 z32 z32 (rtI 6) (rtI 6) (rtI 6) ++ ([]))))) (w1 := IW0 u3 cI cJ z32 z32) hP hD [16] [0, 1, 2, 3, 4, 5, 6, 7, 8, 9, 10, 11, 12, 13, 14, 15] rfl rfl (by decide) (by decide) hk1 hFc hP1 hD1
  generalize H1 = H at hP2 hS ⊢
  obtain rfl : u3 0 = q3 := hw
  have hP := hP2
  have hD := hD2
  have hP : va_P D vwCl ((b0, .inr (3, [.ref (u1 0), .ref (u2 0), .null, .null, .null, .int 0])) :: (IW2 u1 cI cJ z32 (nuI 6) (dnmI 6) z64 z32 z32 ++ (IW1 u2 cI cJ z32 z32 z32 z32 (rtI 6) (rtI 6) (rtI 6) ++ (IW0 u3 cI cJ z32 z32 ++ ([]))))) H := hP
  have hD : va_D A ((b0, .inr (3, [.ref (u1 0), .ref (u2 0), .null, .null, .null, .int 0])) :: (IW2 u1 cI cJ z32 (nuI 6) (dnmI 6) z64 z32 z32 ++ (IW1 u2 cI cJ z32 z32 z32 z32 (rtI 6) (rtI 6) (rtI 6) ++ (IW0 u3 cI cJ z32 z32 ++ ([]))))) := hD
  refine W.widen (k := 18) (n := 225) (Nat.le_of_ble_eq_true rfl) (Nat.le_of_ble_eq_true rfl) ?_
  refine va_putF (D := D) (ci := 3) (v := .ref (u3 0)) (ty := .object "Groupbooks$Balances") (C := RX3) (T := TX3) (N := 6) (Ts := wsX30) hx hb hinX3 (fun _ h9 => h9) tyX3 tyX3_ok nmX3 hown hK hP hD hS 0 rfl rfl 2 (by decide) (hts (.fieldLink RX3 26 "Groupbooks" "balances" "LGroupbooks$Balances;") (by decide +kernel)) (fun _ h9 => h9) rfl hini rfl (by decide +kernel) rfl rfl (Nat.le_of_ble_eq_true rfl) dX3_init_34 (fun H locs hP hD hS => ?_)
  have hP : va_P D vwCl ((b0, .inr (3, [.ref (u1 0), .ref (u2 0), .ref (u3 0), .null, .null, .int 0])) :: (IW2 u1 cI cJ z32 (nuI 6) (dnmI 6) z64 z32 z32 ++ (IW1 u2 cI cJ z32 z32 z32 z32 (rtI 6) (rtI 6) (rtI 6) ++ (IW0 u3 cI cJ z32 z32 ++ ([]))))) H := hP
  have hD : va_D A ((b0, .inr (3, [.ref (u1 0), .ref (u2 0), .ref (u3 0), .null, .null, .int 0])) :: (IW2 u1 cI cJ z32 (nuI 6) (dnmI 6) z64 z32 z32 ++ (IW1 u2 cI cJ z32 z32 z32 z32 (rtI 6) (rtI 6) (rtI 6) ++ (IW0 u3 cI cJ z32 z32 ++ ([]))))) := hD
  refine lv_aload_n hx hb dX3_init_37 rfl (lv_at hl 0 rfl) ?_
  refine lv_bipush (v := 6) hx hb dX3_init_38 (by decide) ?_
  refine b_newI (N := 6) hx hb (hts (.arrayClass .int) (by decide +kernel)) hK hP hD hS hA (by decide) (by decide) (by decide) (Nat.le_of_ble_eq_true rfl) (Nat.le_of_ble_eq_true rfl) dX3_init_40 (fun q4 H hP hD hS => ?_)
  have hP : va_P D vwCl ((b0, .inr (3, [.ref (u1 0), .ref (u2 0), .ref (u3 0), .null, .null, .int 0])) :: (IW2 u1 cI cJ z32 (nuI 6) (dnmI 6) z64 z32 z32 ++ (IW1 u2 cI cJ z32 z32 z32 z32 (rtI 6) (rtI 6) (rtI 6) ++ (IW0 u3 cI cJ z32 z32 ++ ([(q4, eI cI 6 z32)]))))) H := hP
  have hD : va_D A ((b0, .inr (3, [.ref (u1 0), .ref (u2 0), .ref (u3 0), .null, .null, .int 0])) :: (IW2 u1 cI cJ z32 (nuI 6) (dnmI 6) z64 z32 z32 ++ (IW1 u2 cI cJ z32 z32 z32 z32 (rtI 6) (rtI 6) (rtI 6) ++ (IW0 u3 cI cJ z32 z32 ++ ([(q4, eI cI 6 z32)]))))) := hD
  refine W.widen (k := 19) (n := 231) (Nat.le_of_ble_eq_true rfl) (Nat.le_of_ble_eq_true rfl) ?_
  refine va_putF (D := D) (ci := 3) (v := .ref q4) (ty := .array .int) (C := RX3) (T := TX3) (N := 6) (Ts := wsX30) hx hb hinX3 (fun _ h9 => h9) tyX3 tyX3_ok nmX3 hown hK hP hD hS 0 rfl rfl 3 (by decide) (hts (.fieldLink RX3 30 "Groupbooks" "goodwills" "[I") (by decide +kernel)) (fun _ h9 => h9) rfl hini rfl (by decide +kernel) rfl rfl (Nat.le_of_ble_eq_true rfl) dX3_init_42 (fun H locs hP hD hS => ?_)
  have hP : va_P D vwCl ((b0, .inr (3, [.ref (u1 0), .ref (u2 0), .ref (u3 0), .ref q4, .null, .int 0])) :: (IW2 u1 cI cJ z32 (nuI 6) (dnmI 6) z64 z32 z32 ++ (IW1 u2 cI cJ z32 z32 z32 z32 (rtI 6) (rtI 6) (rtI 6) ++ (IW0 u3 cI cJ z32 z32 ++ ([(q4, eI cI 6 z32)]))))) H := hP
  have hD : va_D A ((b0, .inr (3, [.ref (u1 0), .ref (u2 0), .ref (u3 0), .ref q4, .null, .int 0])) :: (IW2 u1 cI cJ z32 (nuI 6) (dnmI 6) z64 z32 z32 ++ (IW1 u2 cI cJ z32 z32 z32 z32 (rtI 6) (rtI 6) (rtI 6) ++ (IW0 u3 cI cJ z32 z32 ++ ([(q4, eI cI 6 z32)]))))) := hD
  refine lv_aload_n hx hb dX3_init_45 rfl (lv_at hl 0 rfl) ?_
  refine lv_bipush (v := 12) hx hb dX3_init_46 (by decide) ?_
  refine b_newI (N := 12) hx hb (hts (.arrayClass .int) (by decide +kernel)) hK hP hD hS hA (by decide) (by decide) (by decide) (Nat.le_of_ble_eq_true rfl) (Nat.le_of_ble_eq_true rfl) dX3_init_48 (fun q5 H hP hD hS => ?_)
  have hP : va_P D vwCl ((b0, .inr (3, [.ref (u1 0), .ref (u2 0), .ref (u3 0), .ref q4, .null, .int 0])) :: (IW2 u1 cI cJ z32 (nuI 6) (dnmI 6) z64 z32 z32 ++ (IW1 u2 cI cJ z32 z32 z32 z32 (rtI 6) (rtI 6) (rtI 6) ++ (IW0 u3 cI cJ z32 z32 ++ ([(q4, eI cI 6 z32), (q5, eI cI 12 z32)]))))) H := hP
  have hD : va_D A ((b0, .inr (3, [.ref (u1 0), .ref (u2 0), .ref (u3 0), .ref q4, .null, .int 0])) :: (IW2 u1 cI cJ z32 (nuI 6) (dnmI 6) z64 z32 z32 ++ (IW1 u2 cI cJ z32 z32 z32 z32 (rtI 6) (rtI 6) (rtI 6) ++ (IW0 u3 cI cJ z32 z32 ++ ([(q4, eI cI 6 z32), (q5, eI cI 12 z32)]))))) := hD
  refine W.widen (k := 20) (n := 243) (Nat.le_of_ble_eq_true rfl) (Nat.le_of_ble_eq_true rfl) ?_
  refine va_putF (D := D) (ci := 3) (v := .ref q5) (ty := .array .int) (C := RX3) (T := TX3) (N := 6) (Ts := wsX30) hx hb hinX3 (fun _ h9 => h9) tyX3 tyX3_ok nmX3 hown hK hP hD hS 0 rfl rfl 4 (by decide) (hts (.fieldLink RX3 34 "Groupbooks" "periodResults" "[I") (by decide +kernel)) (fun _ h9 => h9) rfl hini rfl (by decide +kernel) rfl rfl (Nat.le_of_ble_eq_true rfl) dX3_init_50 (fun H locs hP hD hS => ?_)
  have hP : va_P D vwCl ((b0, .inr (3, [.ref (u1 0), .ref (u2 0), .ref (u3 0), .ref q4, .ref q5, .int 0])) :: (IW2 u1 cI cJ z32 (nuI 6) (dnmI 6) z64 z32 z32 ++ (IW1 u2 cI cJ z32 z32 z32 z32 (rtI 6) (rtI 6) (rtI 6) ++ (IW0 u3 cI cJ z32 z32 ++ ([(q4, eI cI 6 z32), (q5, eI cI 12 z32)]))))) H := hP
  have hD : va_D A ((b0, .inr (3, [.ref (u1 0), .ref (u2 0), .ref (u3 0), .ref q4, .ref q5, .int 0])) :: (IW2 u1 cI cJ z32 (nuI 6) (dnmI 6) z64 z32 z32 ++ (IW1 u2 cI cJ z32 z32 z32 z32 (rtI 6) (rtI 6) (rtI 6) ++ (IW0 u3 cI cJ z32 z32 ++ ([(q4, eI cI 6 z32), (q5, eI cI 12 z32)]))))) := hD
  refine lv_aload_n hx hb dX3_init_53 rfl (lv_at hl 0 rfl) ?_
  refine lv_iconst (v := 0) hx hb dX3_init_54 (by decide) ?_
  refine va_put (D := D) (ci := 3) (v := .int 0) (ty := .int) (C := RX3) (T := TX3) (N := 6) (Ts := wsX30) hx hb hinX3 (fun _ h9 => h9) tyX3 tyX3_ok nmX3 hown hK hP hD hS 0 rfl rfl 5 (by decide) (hts (.fieldLink RX3 37 "Groupbooks" "closedPeriods" "I") (by decide +kernel)) (fun _ h9 => h9) rfl (by decide +kernel) rfl rfl (Nat.le_of_ble_eq_true rfl) dX3_init_55 (fun H locs hP hD hS => ?_)
  have hP : va_P D vwCl ((b0, .inr (3, [.ref (u1 0), .ref (u2 0), .ref (u3 0), .ref q4, .ref q5, .int 0])) :: (IW2 u1 cI cJ z32 (nuI 6) (dnmI 6) z64 z32 z32 ++ (IW1 u2 cI cJ z32 z32 z32 z32 (rtI 6) (rtI 6) (rtI 6) ++ (IW0 u3 cI cJ z32 z32 ++ ([(q4, eI cI 6 z32), (q5, eI cI 12 z32)]))))) H := hP
  have hD : va_D A ((b0, .inr (3, [.ref (u1 0), .ref (u2 0), .ref (u3 0), .ref q4, .ref q5, .int 0])) :: (IW2 u1 cI cJ z32 (nuI 6) (dnmI 6) z64 z32 z32 ++ (IW1 u2 cI cJ z32 z32 z32 z32 (rtI 6) (rtI 6) (rtI 6) ++ (IW0 u3 cI cJ z32 z32 ++ ([(q4, eI cI 6 z32), (q5, eI cI 12 z32)]))))) := hD
  have hP : va_P D vwCl (GW (fun k => ([b0, u1 0, u2 0, u3 0, q4, q5, u1 1, u1 2, u1 3, u1 4, u1 5, u1 6, u2 1, u2 2, u2 3, u2 4, u2 5, u2 6, u2 7, u3 1, u3 2].getD k 0)) cI cJ z32 (nuI 6) (dnmI 6) z64 z32 z32 z32 z32 z32 z32 (rtI 6) (rtI 6) (rtI 6) z32 z32 z32 z32 0) H := hP.sub [0, 1, 8, 16, 19, 20, 2, 3, 4, 5, 6, 7, 9, 10, 11, 12, 13, 14, 15, 17, 18] rfl
  have hD : va_D A (GW (fun k => ([b0, u1 0, u2 0, u3 0, q4, q5, u1 1, u1 2, u1 3, u1 4, u1 5, u1 6, u2 1, u2 2, u2 3, u2 4, u2 5, u2 6, u2 7, u3 1, u3 2].getD k 0)) cI cJ z32 (nuI 6) (dnmI 6) z64 z32 z32 z32 z32 z32 z32 (rtI 6) (rtI 6) (rtI 6) z32 z32 z32 z32 0) := hD.sub [0, 1, 8, 16, 19, 20, 2, 3, 4, 5, 6, 7, 9, 10, 11, 12, 13, 14, 15, 17, 18] (by decide) rfl
  exact W.vret hx hb hr (fun t ht hW => ⟨⟨(fun k => ([b0, u1 0, u2 0, u3 0, q4, q5, u1 1, u1 2, u1 3, u1 4, u1 5, u1 6, u2 1, u2 2, u2 3, u2 4, u2 5, u2 6, u2 7, u3 1, u3 2].getD k 0)), rfl, rfl, by rw [ht]; exact hP, va_K.moved hW.alike hK, hD⟩, hS.F ht⟩) hS.2.2 dX3_init_58
end
section
theorem range_map {α : Type} (l : List α) : (List.range l.length).map (fun i => l[i]?) = l.map some := by
  apply List.ext_getElem?
  intro i
  by_cases h : i < l.length
  · simp [h]
  · simp [h]
theorem nest_hm {own : String} {w1 w2 : va_W} {A : Nat → Prop} {H0 H : Heap} {locs : List Loc} (hD : va_D A (w1 ++ w2)) (hS : va_S A H0 H locs) (hA : ∀ q, H0.size ≤ q → A q) : ∀ q, va_A w1 H.size q → A q := by
  intro q h
  rcases h with ⟨k, e, h⟩ | h
  · refine hD.2 k (q, e) ?_
    rw [List.getElem?_append_left (List.getElem?_eq_some_iff.mp h).1]
    exact h
  · exact hA q (Nat.le_trans hS.1 h)
theorem P_left {D : va_G} {cl : List vw_C} {w1 w2 : va_W} {H : Heap} (h : va_P D cl (w1 ++ w2) H) : va_P D cl w1 H := fun k q hk => h k q (by rw [List.getElem?_append_left (List.getElem?_eq_some_iff.mp hk).1]; exact hk)
theorem D_left {A : Nat → Prop} {w1 w2 : va_W} (h : va_D A (w1 ++ w2)) : va_D A w1 :=
  ⟨fun i j p q hi hj => h.1 i j p q (by rw [List.getElem?_append_left (List.getElem?_eq_some_iff.mp hi).1]; exact hi) (by rw [List.getElem?_append_left (List.getElem?_eq_some_iff.mp hj).1]; exact hj),
   fun k q hk => h.2 k q (by rw [List.getElem?_append_left (List.getElem?_eq_some_iff.mp hk).1]; exact hk)⟩
section GL
variable {p : Program} {l : Launch} {e : Env} {R : Room} {s : State} {m : MethodId} {args : Array Value} {below : List Frame} {meth : Method} {c : Code} {H : Heap} {locs : List Loc} {cells slots : Nat} {Q : State → Prop}
variable {cc : ByteArray} {pc : Nat} {ls : Array Slot} {rest st0 : List Value} {D : va_G} {A : Nat → Prop} {tys : List (ClassId × FieldType)} {wc wr : va_W} {H0 : Heap} {av : Array Value} {mc ms : Nat}
theorem joinP {w1 : va_W} {H1 : Heap} (hP : va_P D vwCl (wc ++ wr) H) (hD : va_D A (wc ++ wr)) (hf : ∀ q, va_A wc H.size q → A q) (hk1 : ∀ q : Nat, q < H.size → ¬ va_A wc H.size q → H1[q]? = H[q]?) (hP1 : va_P D vwCl w1 H1) (hD1 : va_D (va_A wc H.size) w1) : va_P D vwCl (w1 ++ wr) H1 ∧ va_D A (w1 ++ wr) :=
  va_joinQ (X := wc) (cx := wc) (wr := []) (w1 := w1) (pl := wr) hP hD (List.range wc.length) [] (range_map wc) rfl rfl (fun i h => by cases h) hk1 hf hP1 hD1
theorem b_callvP {S : Type} {post : S → Prop} {w' : S → va_W} (hP : va_P D vwCl (wc ++ wr) H) (hD : va_D A (wc ++ wr)) (hS : va_S A H0 H locs) (hA : ∀ q, H0.size ≤ q → A q)
    (hr : va_Run p l e R s m args below meth c H locs cells slots mc ms (F0 m pc ls st0) rest (va_Qv post (fun u t => AW D tys (va_A wc H.size) (w' u) t) (va_A wc H.size) av) (va_A wc H.size))
    (kk : ∀ (u : S) (H1 : Heap) (locs1 : List Loc), post u → va_P D vwCl (w' u ++ wr) H1 → va_D A (w' u ++ wr) → va_S A H0 H1 locs1 → W p l e R s m args below meth c H1 locs1 (cells + mc) (slots + ms) Q (F0 m (pc + 3) ls rest)) : W p l e R s m args below meth c H locs cells slots Q (F0 m pc ls st0) := by
  have hf := nest_hm (own := "") hD hS hA
  refine va_callv hr hS (fun q _ h => hf q h) hf (fun u t H1 locs1 ht hvm hw hB hz1 hk1 hS1 => ?_)
  obtain ⟨hP1, hK1, hD1⟩ := hB
  rw [ht] at hP1
  obtain ⟨j1, j2⟩ := joinP hP hD hf hk1 hP1 hD1
  exact kk u H1 locs1 hw j1 j2 hS1
theorem b_calliP {S : Type} {post : Int32 → S → Prop} {w' : S → va_W} (hP : va_P D vwCl (wc ++ wr) H) (hD : va_D A (wc ++ wr)) (hS : va_S A H0 H locs) (hA : ∀ q, H0.size ≤ q → A q)
    (hr : va_Run p l e R s m args below meth c H locs cells slots mc ms (F0 m pc ls st0) rest (va_Qi post (fun u t => AW D tys (va_A wc H.size) (w' u) t) (va_A wc H.size) av) (va_A wc H.size))
    (kk : ∀ (r : Int32) (u : S) (H1 : Heap) (locs1 : List Loc), post r u → va_P D vwCl (w' u ++ wr) H1 → va_D A (w' u ++ wr) → va_S A H0 H1 locs1 → W p l e R s m args below meth c H1 locs1 (cells + mc) (slots + ms) Q (F0 m (pc + 3) ls (.int r :: rest))) : W p l e R s m args below meth c H locs cells slots Q (F0 m pc ls st0) := by
  have hf := nest_hm (own := "") hD hS hA
  refine va_calli hr hS (fun q _ h => hf q h) hf (fun r u t H1 locs1 ht hvm hw hB hz1 hk1 hS1 => ?_)
  obtain ⟨hP1, hK1, hD1⟩ := hB
  rw [ht] at hP1
  obtain ⟨j1, j2⟩ := joinP hP hD hf hk1 hP1 hD1
  exact kk r u H1 locs1 hw j1 j2 hS1
theorem b_calllP {S : Type} {post : Int64 → S → Prop} {w' : S → va_W} (hP : va_P D vwCl (wc ++ wr) H) (hD : va_D A (wc ++ wr)) (hS : va_S A H0 H locs) (hA : ∀ q, H0.size ≤ q → A q)
    (hr : va_Run p l e R s m args below meth c H locs cells slots mc ms (F0 m pc ls st0) rest (va_Ql post (fun u t => AW D tys (va_A wc H.size) (w' u) t) (va_A wc H.size) av) (va_A wc H.size))
    (kk : ∀ (r : Int64) (u : S) (H1 : Heap) (locs1 : List Loc), post r u → va_P D vwCl (w' u ++ wr) H1 → va_D A (w' u ++ wr) → va_S A H0 H1 locs1 → W p l e R s m args below meth c H1 locs1 (cells + mc) (slots + ms) Q (F0 m (pc + 3) ls (.long r :: rest))) : W p l e R s m args below meth c H locs cells slots Q (F0 m pc ls st0) := by
  have hf := nest_hm (own := "") hD hS hA
  refine va_calll hr hS (fun q _ h => hf q h) hf (fun r u t H1 locs1 ht hvm hw hB hz1 hk1 hS1 => ?_)
  obtain ⟨hP1, hK1, hD1⟩ := hB
  rw [ht] at hP1
  obtain ⟨j1, j2⟩ := joinP hP hD hf hk1 hP1 hD1
  exact kk r u H1 locs1 hw j1 j2 hS1
end GL
theorem PY.go {av : List Value} {D : va_G} {tys : List (ClassId × FieldType)} {wc wr : va_W} {s : State} {H : Heap} {A : Nat → Prop} {locs : List Loc} (hP : va_P D vwCl (wc ++ wr) H) (hK : va_K D vwCl tys s) (hD : va_D A (wc ++ wr)) (hE : EVt s) (hV : EVh A s s.heap) (hDC : DCL s) (hS : va_S A s.heap H locs) (hA : ∀ q, s.heap.size ≤ q → A q) :
    ∀ U : State, U.heap = H → s.WarmedH U.vm → va_Pc av (PY D tys wc H.size) av.toArray U := fun U hU hW =>
  ⟨rfl, ⟨by rw [hU], by rw [hU]; exact P_left hP, va_K.moved hW.alike hK, (D_left hD).weaken (fun _ _ _ _ => trivial), hE.warm hW, by rw [hU]; exact hV.to hS (nest_hm (own := "") hD hS hA) hW.alike⟩, hDC.warm hW⟩
theorem PW.goP {av : List Value} {D : va_G} {tys : List (ClassId × FieldType)} {wc wr : va_W} {s : State} {H : Heap} {A : Nat → Prop} (hP : va_P D vwCl (wc ++ wr) H) (hK : va_K D vwCl tys s) (hD : va_D A (wc ++ wr)) (hE : EVt s) :
    ∀ U : State, U.heap = H → s.WarmedH U.vm → va_Pc av (PW D tys wc H.size) av.toArray U := PW.go (P_left hP) hK (D_left hD) hE
theorem PR.goP {av : List Value} {D : va_G} {tys : List (ClassId × FieldType)} {wc wr : va_W} {s : State} {H : Heap} (hP : va_P D vwCl (wc ++ wr) H) (hK : va_K D vwCl tys s) (hE : EVt s) :
    ∀ U : State, U.heap = H → s.WarmedH U.vm → va_Pc av (PR D tys wc) av.toArray U := PR.go (P_left hP) hK hE
theorem ofWC {l : Launch} {y : MethodName} {ws ws' : List Cond} {rm : Room} {Pc : Array Value → State → Prop} {Qc : Array Value → State → Outcome → State → Prop} {mc ms : Nat} {free : Addr → Prop} {cc : ByteArray} {maxL : Nat} {ret : Option FieldType} {hh : List (Nat × Nat × Nat × Nat)}
    (hy : plainName y.cls = true) (hw : ws = Cond.codeWith y cc maxL ret hh :: ws')
    (body : ∀ p e s m args below meth c s₁, BodyLoose p l y (headSpec ws rm) cc maxL ret e s m args below meth c s₁ → c.maxLocals = maxL → c.exceptionTable.toList = tableOf hh → Pc args s →
      W p l e (headSpec ws rm).room s m args below meth c s.heap [] 0 0 (MQ below Qc args s mc ms free) (entryFrame m args maxL)) : Met l y ws rm Pc Qc mc ms free := by
  refine MetFree.of_bodyS (code := cc) (maxLocals := maxL) (ret := ret) hy ?_ ?_
  · intro args s m h hn
    obtain ⟨m9, meth, c, hn9, h1, h2, h3, h4, -, h5, h6, -⟩ := Cond.codeWith_spec (atoms_spec (ws := ws) h _ (by rw [hw]; exact List.mem_cons_self))
    cases hn.symm.trans hn9
    exact ⟨meth, c, h1, h2, h3, h4, h5, h6⟩
  · intro p e s m args below meth c s₁ B hml hP _
    have hh0 : s₁.heap = s.heap := by rw [B.state]; rfl
    have ht := vx_table (x := y) B (atoms_spec (ws := ws) B.pre _ (by rw [hw]; exact List.mem_cons_self))
    obtain ⟨t, a1, o, b1, b2, b3⟩ := body p e s m args below meth c s₁ B hml ht hP s₁ hh0 (Stand.of_body B)
    exact ⟨t, o, a1, b1, b2, ⟨b3.1, b3.2⟩⟩
section GC
variable {p : Program} {l : Launch} {e : Env} {R : Room} {s : State} {m : MethodId} {args : Array Value} {below : List Frame} {meth : Method} {c : Code} {H : Heap} {locs : List Loc} {cells slots : Nat} {Q : State → Prop}
variable {cc : ByteArray} {pc : Nat} {ls : Array Slot} {rest st0 : List Value} {D : va_G} {A : Nat → Prop} {tys : List (ClassId × FieldType)} {wc wr : va_W} {H0 : Heap} {av : Array Value} {mc ms : Nat}
theorem b_catch {S : Type} {w' : S → va_W} {E0 : String} {Qx : Array Value → State → Outcome → State → Prop} (hP : va_P D vwCl (wc ++ wr) H) (hD : va_D A (wc ++ wr)) (hS : va_S A H0 H locs) (hA : ∀ q, H0.size ≤ q → A q)
    (hr : vx_Run p l e R s m args below meth c H locs cells slots mc ms (F0 m pc ls st0) rest (Qx av) (XEA D tys (va_A wc H.size) w' E0) (va_A wc H.size))
    (hQ : ∀ (v : Option Value) (st t : State), ¬ Qx av st (.returned v) t)
    {own name : String} (hown : s.vm.findClass own = some m.cls) (pre : List ExceptionTableEntry) (x : ExceptionTableEntry) (suf : List ExceptionTableEntry) (hsplit : c.exceptionTable.toList = pre ++ x :: suf)
    (hpass : ∀ z ∈ pre, covers z pc = false ∨ (z.catchType ≠ 0 ∧ ∃ nm : String, (Cond.classLink own z.catchType nm).before args s = true ∧ va_Nc E0 nm s)) (hx : covers x pc = true) (h0 : x.catchType ≠ 0)
    (hlink : (Cond.classLink own x.catchType name).before args s = true) (hcast : (Cond.castable E0 name).before args s = true)
    (kk : ∀ (u : S) (q9 : Nat) (H1 : Heap) (locs1 : List Loc), va_P D vwCl (w' u ++ wr) H1 → va_D A (w' u ++ wr) → va_S A H0 H1 locs1 → W p l e R s m args below meth c H1 locs1 (cells + mc) (slots + ms) Q (F0 m x.handlerPc ls [.ref q9])) : W p l e R s m args below meth c H locs cells slots Q (F0 m pc ls st0) := by
  have hf := nest_hm (own := "") hD hS hA
  intro T hT X
  rcases hr T hT X with ⟨v, st₀, t, T', L, h0', X', hL, e1, e2, hq, st⟩ | ⟨q, st₀, t, T', L, E, ce, h0', X', hL, e1, e2, ⟨u, hp, ⟨rfl, hb⟩, hF⟩, hce, hcv, hcl, st⟩
  · exact absurd hq (hQ v st₀ t)
  · obtain ⟨k1, k2, k3⟩ := vx_keep h0' e1 hS (fun q _ h => hf q h) hf hL hF
    obtain ⟨hP1, hK1, hD1⟩ := hb
    rw [← e1] at hP1
    obtain ⟨j1, j2⟩ := joinP hP hD hf k2 hP1 hD1
    obtain ⟨t2, a1, b1⟩ := vx_catch (Q := Q) (rest := rest) hown pre x suf hsplit hpass hx h0 hlink hcast (by rw [e1]; exact hce) hcv hcl (kk u q T'.heap (locs ++ L) j1 j2 k3) T' rfl X'
    exact ⟨t2, st.trans a1, b1⟩
end GC
end
section
set_option maxRecDepth 100000 in
theorem wsL_law0_r1_in : ∀ w ∈ wsL_law0_r1, w ∈ lw_tbl := by
  have e : wsL_law0_r1 = [42, 43, 32, 75, 451, 560, 561, 403, 562, 563, 44, 45, 46, 47, 48, 49, 50, 51, 33, 118, 77, 78, 34, 119].filterMap (fun i => lw_tbl[i]?) := by decide +kernel
  intro w hw
  rw [e] at hw
  obtain ⟨i, -, hi⟩ := List.mem_filterMap.mp hw
  exact List.mem_of_getElem? hi
set_option maxRecDepth 100000 in
theorem wsL_law0_r2_in : ∀ w ∈ wsL_law0_r2, w ∈ lw_tbl := by
  have e : wsL_law0_r2 = [105, 106, 35, 120, 121, 122, 123, 53, 54, 55, 56, 76, 57, 58, 59, 60, 61, 80, 81, 82, 83, 84, 85, 86].filterMap (fun i => lw_tbl[i]?) := by decide +kernel
  intro w hw
  rw [e] at hw
  obtain ⟨i, -, hi⟩ := List.mem_filterMap.mp hw
  exact List.mem_of_getElem? hi
set_option maxRecDepth 100000 in
theorem wsL_law0_r3_in : ∀ w ∈ wsL_law0_r3, w ∈ lw_tbl := by
  have e : wsL_law0_r3 = [87, 88, 89, 108, 109, 110, 111, 112, 234, 235, 31, 236, 237, 238, 239, 240, 241, 242, 548, 549, 550, 404, 447, 551].filterMap (fun i => lw_tbl[i]?) := by decide +kernel
  intro w hw
  rw [e] at hw
  obtain ⟨i, -, hi⟩ := List.mem_filterMap.mp hw
  exact List.mem_of_getElem? hi
set_option maxRecDepth 100000 in
theorem wsL_law0_r4_in : ∀ w ∈ wsL_law0_r4, w ∈ lw_tbl := by
  have e : wsL_law0_r4 = [552, 553, 554, 555, 556, 468, 469, 470, 462, 463, 464, 465, 466, 467, 243, 244, 245, 246, 247, 248, 249, 250, 251, 252].filterMap (fun i => lw_tbl[i]?) := by decide +kernel
  intro w hw
  rw [e] at hw
  obtain ⟨i, -, hi⟩ := List.mem_filterMap.mp hw
  exact List.mem_of_getElem? hi
set_option maxRecDepth 100000 in
theorem wsL_law0_r5_in : ∀ w ∈ wsL_law0_r5, w ∈ lw_tbl := by
  have e : wsL_law0_r5 = [253, 254, 147, 39, 141, 142, 143, 144, 145, 146, 258, 4, 259, 224, 225, 262, 5, 263, 264, 266, 6, 267, 268, 270].filterMap (fun i => lw_tbl[i]?) := by decide +kernel
  intro w hw
  rw [e] at hw
  obtain ⟨i, -, hi⟩ := List.mem_filterMap.mp hw
  exact List.mem_of_getElem? hi
set_option maxRecDepth 100000 in
theorem wsL_law0_r6_in : ∀ w ∈ wsL_law0_r6, w ∈ lw_tbl := by
  have e : wsL_law0_r6 = [7, 271, 272, 274, 8, 275, 276, 277, 279, 9, 280, 281, 283, 10, 284, 285, 287, 11, 288, 289, 290, 291, 292, 293].filterMap (fun i => lw_tbl[i]?) := by decide +kernel
  intro w hw
  rw [e] at hw
  obtain ⟨i, -, hi⟩ := List.mem_filterMap.mp hw
  exact List.mem_of_getElem? hi
set_option maxRecDepth 100000 in
theorem wsL_law0_r7_in : ∀ w ∈ wsL_law0_r7, w ∈ lw_tbl := by
  have e : wsL_law0_r7 = [294, 295, 40, 311, 312, 313, 314, 315, 318, 12, 319, 320, 322, 13, 323, 324, 325, 326, 327, 328, 41, 329, 330, 332].filterMap (fun i => lw_tbl[i]?) := by decide +kernel
  intro w hw
  rw [e] at hw
  obtain ⟨i, -, hi⟩ := List.mem_filterMap.mp hw
  exact List.mem_of_getElem? hi
set_option maxRecDepth 100000 in
theorem wsL_law0_r8_in : ∀ w ∈ wsL_law0_r8, w ∈ lw_tbl := by
  have e : wsL_law0_r8 = [14, 333, 334, 335, 336, 337, 338, 341, 15, 342, 344, 345, 346, 347, 350, 16, 351, 352, 353, 354, 355, 357, 358, 359].filterMap (fun i => lw_tbl[i]?) := by decide +kernel
  intro w hw
  rw [e] at hw
  obtain ⟨i, -, hi⟩ := List.mem_filterMap.mp hw
  exact List.mem_of_getElem? hi
set_option maxRecDepth 100000 in
theorem wsL_law0_r9_in : ∀ w ∈ wsL_law0_r9, w ∈ lw_tbl := by
  have e : wsL_law0_r9 = [360, 363, 17, 364, 365, 367, 18, 368, 369, 371, 19, 372, 374, 375, 376, 379, 20, 380, 383, 21, 384, 385, 386, 387].filterMap (fun i => lw_tbl[i]?) := by decide +kernel
  intro w hw
  rw [e] at hw
  obtain ⟨i, -, hi⟩ := List.mem_filterMap.mp hw
  exact List.mem_of_getElem? hi
set_option maxRecDepth 100000 in
theorem wsL_law0_r10_in : ∀ w ∈ wsL_law0_r10, w ∈ lw_tbl := by
  have e : wsL_law0_r10 = [388, 389, 390, 393, 22, 394, 395, 396, 397, 398, 401, 23, 402, 405, 406, 407, 408, 409, 410, 411, 412, 413, 414, 415].filterMap (fun i => lw_tbl[i]?) := by decide +kernel
  intro w hw
  rw [e] at hw
  obtain ⟨i, -, hi⟩ := List.mem_filterMap.mp hw
  exact List.mem_of_getElem? hi
set_option maxRecDepth 100000 in
theorem wsL_law0_r11_in : ∀ w ∈ wsL_law0_r11, w ∈ lw_tbl := by
  have e : wsL_law0_r11 = [419, 24, 420, 226, 227, 228, 229, 232, 3, 233, 557, 558, 559, 455, 456, 457, 545, 546, 547, 424, 425, 426, 427, 430].filterMap (fun i => lw_tbl[i]?) := by decide +kernel
  intro w hw
  rw [e] at hw
  obtain ⟨i, -, hi⟩ := List.mem_filterMap.mp hw
  exact List.mem_of_getElem? hi
set_option maxRecDepth 100000 in
theorem wsL_law0_r12_in : ∀ w ∈ wsL_law0_r12, w ∈ lw_tbl := by
  have e : wsL_law0_r12 = [25, 431, 432, 433, 434, 435, 438, 26, 439, 452, 453, 454, 458, 459, 460, 461, 471, 472, 473, 474, 475, 476, 477, 478].filterMap (fun i => lw_tbl[i]?) := by decide +kernel
  intro w hw
  rw [e] at hw
  obtain ⟨i, -, hi⟩ := List.mem_filterMap.mp hw
  exact List.mem_of_getElem? hi
set_option maxRecDepth 100000 in
theorem wsL_law0_r13_in : ∀ w ∈ wsL_law0_r13, w ∈ lw_tbl := by
  have e : wsL_law0_r13 = [481, 27, 482, 483, 484, 485, 486, 487, 488, 489, 490, 491, 492, 493, 494, 495, 497, 28, 498, 501, 29, 502, 503, 504].filterMap (fun i => lw_tbl[i]?) := by decide +kernel
  intro w hw
  rw [e] at hw
  obtain ⟨i, -, hi⟩ := List.mem_filterMap.mp hw
  exact List.mem_of_getElem? hi
set_option maxRecDepth 100000 in
theorem wsL_law0_r14_in : ∀ w ∈ wsL_law0_r14, w ∈ lw_tbl := by
  have e : wsL_law0_r14 = [505, 506, 507, 508, 509, 510, 511, 512, 513, 514, 516, 517, 518, 519, 522, 30, 523, 525, 526, 41, 527, 528, 529, 530].filterMap (fun i => lw_tbl[i]?) := by decide +kernel
  intro w hw
  rw [e] at hw
  obtain ⟨i, -, hi⟩ := List.mem_filterMap.mp hw
  exact List.mem_of_getElem? hi
set_option maxRecDepth 100000 in
theorem wsL_law0_r15_in : ∀ w ∈ wsL_law0_r15, w ∈ lw_tbl := by
  have e : wsL_law0_r15 = [531, 533, 534, 535, 536, 538, 539, 540, 541, 542, 543, 544, 137, 138, 139, 140, 216, 1, 217, 218, 219, 221, 2, 222].filterMap (fun i => lw_tbl[i]?) := by decide +kernel
  intro w hw
  rw [e] at hw
  obtain ⟨i, -, hi⟩ := List.mem_filterMap.mp hw
  exact List.mem_of_getElem? hi
set_option maxRecDepth 100000 in
theorem wsL_law0_r16_in : ∀ w ∈ wsL_law0_r16, w ∈ lw_tbl := by
  have e : wsL_law0_r16 = [448, 449, 450, 421, 422, 423, 440, 441, 442, 443, 444, 445, 446].filterMap (fun i => lw_tbl[i]?) := by decide +kernel
  intro w hw
  rw [e] at hw
  obtain ⟨i, -, hi⟩ := List.mem_filterMap.mp hw
  exact List.mem_of_getElem? hi
set_option maxRecDepth 100000 in
theorem wsX30_in : ∀ w ∈ wsX30, w ∈ lw_tbl := by decide +kernel
set_option maxRecDepth 100000 in
theorem wsX20_in : ∀ w ∈ wsX20, w ∈ lw_tbl := by decide +kernel
set_option maxRecDepth 100000 in
theorem wsX10_in : ∀ w ∈ wsX10, w ∈ lw_tbl := by decide +kernel
set_option maxRecDepth 100000 in
theorem wsX00_in : ∀ w ∈ wsX00, w ∈ lw_tbl := by decide +kernel
theorem wsL_law_in0 : ∀ w ∈ wsL_law0, w ∈ lw_tbl := by
  unfold wsL_law0
  exact List.forall_mem_append.mpr ⟨List.forall_mem_append.mpr ⟨List.forall_mem_append.mpr ⟨List.forall_mem_append.mpr ⟨List.forall_mem_append.mpr ⟨List.forall_mem_append.mpr ⟨wsL_law0_r1_in, List.forall_mem_append.mpr ⟨wsL_law0_r2_in, List.forall_mem_append.mpr ⟨wsL_law0_r3_in, List.forall_mem_append.mpr ⟨wsL_law0_r4_in, List.forall_mem_append.mpr ⟨wsL_law0_r5_in, List.forall_mem_append.mpr ⟨wsL_law0_r6_in, List.forall_mem_append.mpr ⟨wsL_law0_r7_in, List.forall_mem_append.mpr ⟨wsL_law0_r8_in, List.forall_mem_append.mpr ⟨wsL_law0_r9_in, List.forall_mem_append.mpr ⟨wsL_law0_r10_in, List.forall_mem_append.mpr ⟨wsL_law0_r11_in, List.forall_mem_append.mpr ⟨wsL_law0_r12_in, List.forall_mem_append.mpr ⟨wsL_law0_r13_in, List.forall_mem_append.mpr ⟨wsL_law0_r14_in, List.forall_mem_append.mpr ⟨wsL_law0_r15_in, wsL_law0_r16_in⟩⟩⟩⟩⟩⟩⟩⟩⟩⟩⟩⟩⟩⟩⟩, wsX30_in⟩, wsX20_in⟩, wsX10_in⟩, wsX00_in⟩, fun _ h => absurd h List.not_mem_nil⟩
end
section
theorem wsL_law_x0 : ∀ w ∈ (vx_atS RX3 159 "java/lang/IllegalArgumentException" ["java/lang/RuntimeException", "java/lang/Exception"]).filter goodWord, w ∈ lw_tbl := by decide +kernel
theorem wsL_law_x1 : ∀ w ∈ (vx_atS RX3 146 "java/lang/IllegalStateException" ["java/lang/RuntimeException", "java/lang/Exception"]).filter goodWord, w ∈ lw_tbl := by decide +kernel
theorem wsL_law_in : ∀ w ∈ wsL_law, w ∈ lw_tbl := fun w h => (List.mem_append.mp h).elim (fun h => (List.mem_append.mp h).elim (fun h => wsL_law_in0 w h) (fun h => wsL_law_x0 w h)) (fun h => wsL_law_x1 w h)
theorem inlX0 : ∀ w ∈ wsX00, w ∈ wsL_law := fun _ h => List.mem_append_left _ (List.mem_append_left _ (List.mem_append_left _ (List.mem_append_right _ h)))
theorem inX0 : ∀ w ∈ wsX00, w ∈ lw_tbl := fun w h => wsL_law_in w (inlX0 w h)
theorem inlX1 : ∀ w ∈ wsX10, w ∈ wsL_law := fun _ h => List.mem_append_left _ (List.mem_append_left _ (List.mem_append_left _ (List.mem_append_left _ (List.mem_append_right _ h))))
theorem inX1 : ∀ w ∈ wsX10, w ∈ lw_tbl := fun w h => wsL_law_in w (inlX1 w h)
theorem inlX2 : ∀ w ∈ wsX20, w ∈ wsL_law := fun _ h => List.mem_append_left _ (List.mem_append_left _ (List.mem_append_left _ (List.mem_append_left _ (List.mem_append_left _ (List.mem_append_right _ h)))))
theorem inX2 : ∀ w ∈ wsX20, w ∈ lw_tbl := fun w h => wsL_law_in w (inlX2 w h)
theorem inlX3 : ∀ w ∈ wsX30, w ∈ wsL_law := fun _ h => List.mem_append_left _ (List.mem_append_left _ (List.mem_append_left _ (List.mem_append_left _ (List.mem_append_left _ (List.mem_append_left _ (List.mem_append_right _ h))))))
theorem inX3 : ∀ w ∈ wsX30, w ∈ lw_tbl := fun w h => wsL_law_in w (inlX3 w h)
theorem giS_c : GoodIn wsL_law [Cond.code yL_isSo cL_isSo 20 (some .boolean)] := goodIn_r _ [275] (by decide +kernel) (by decide +kernel)
set_option maxRecDepth 100000 in
theorem giS_r1 : GoodIn wsL_law wsL_isSo_r1 := goodIn_r _ [7, 253, 254, 58, 255, 276, 277, 278, 2, 279, 19, 193, 18, 194, 195, 196, 197, 198, 199, 200, 201, 202, 203, 34] (by decide +kernel) (by decide +kernel)
set_option maxRecDepth 100000 in
theorem giS_r2 : GoodIn wsL_law wsL_isSo_r2 := goodIn_r _ [204, 205, 109, 110, 80, 81, 82, 70, 83, 84, 85, 77, 78, 79, 266, 267, 268, 269, 100, 101, 102, 103, 104, 105] (by decide +kernel) (by decide +kernel)
set_option maxRecDepth 100000 in
theorem giS_r3 : GoodIn wsL_law wsL_isSo_r3 := goodIn_r _ [98, 99, 270, 271, 272, 37, 259, 260, 261, 262, 263, 264, 265, 36, 280, 281, 282, 283, 23, 152, 22, 153, 154, 155] (by decide +kernel) (by decide +kernel)
set_option maxRecDepth 100000 in
theorem giS_r4 : GoodIn wsL_law wsL_isSo_r4 := goodIn_r _ [156, 157, 158, 44, 48, 159, 160, 161, 162, 163, 164, 165, 166, 167, 168, 169, 45, 284, 285, 286, 287, 288, 289, 290] (by decide +kernel) (by decide +kernel)
set_option maxRecDepth 100000 in
theorem giS_r5 : GoodIn wsL_law wsL_isSo_r5 := goodIn_r _ [46, 50, 291, 292, 293, 294, 207, 208, 209, 47, 49, 295, 296, 297, 298, 299, 300, 301, 302, 303, 304, 305, 306, 206] (by decide +kernel) (by decide +kernel)
set_option maxRecDepth 100000 in
theorem giS_r6 : GoodIn wsL_law wsL_isSo_r6 := goodIn_r _ [307, 308, 309, 213, 214, 215, 216, 217, 218, 310, 311, 312, 313, 28, 314, 315, 316, 317, 106, 107, 108, 86, 87, 88] (by decide +kernel) (by decide +kernel)
set_option maxRecDepth 100000 in
theorem giS_r7 : GoodIn wsL_law wsL_isSo_r7 := goodIn_r _ [89, 90, 69, 91, 92, 93, 94, 95, 96, 97, 111, 112, 113, 114, 115, 116, 117, 118, 119, 120, 121, 38, 122, 123] (by decide +kernel) (by decide +kernel)
set_option maxRecDepth 100000 in
theorem giS_r8 : GoodIn wsL_law wsL_isSo_r8 := goodIn_r _ [124, 125, 126, 127, 128, 129, 130, 131, 132, 133, 134, 135, 136, 137, 138, 139, 140, 141, 142, 143, 144, 145, 146, 147] (by decide +kernel) (by decide +kernel)
set_option maxRecDepth 100000 in
theorem giS_r9 : GoodIn wsL_law wsL_isSo_r9 := goodIn_r _ [148, 149, 150, 151, 170, 171, 172, 173, 174, 27, 175, 26, 176, 177, 54, 178, 179, 180, 181, 182, 183, 184, 55, 185] (by decide +kernel) (by decide +kernel)
set_option maxRecDepth 100000 in
theorem giS_r10 : GoodIn wsL_law wsL_isSo_r10 := goodIn_r _ [186, 187, 188, 30, 29, 189, 190, 191, 192, 210, 211, 212, 219, 220, 221, 222, 223, 224, 225, 226, 227, 228, 318, 319] (by decide +kernel) (by decide +kernel)
set_option maxRecDepth 100000 in
theorem giS_r11 : GoodIn wsL_law wsL_isSo_r11 := goodIn_r _ [320, 321, 322, 323, 324, 325, 326, 327, 328, 329, 330, 331, 332, 333, 334, 335, 336, 337, 338, 339, 340, 341, 342, 343] (by decide +kernel) (by decide +kernel)
set_option maxRecDepth 100000 in
theorem giS_r12 : GoodIn wsL_law wsL_isSo_r12 := goodIn_r _ [344, 345, 346, 347, 256, 257, 258] (by decide +kernel) (by decide +kernel)
theorem giS_X3 : GoodIn wsL_law wsX30 := goodIn_sub inlX3 (by decide +kernel)
theorem giS_X2 : GoodIn wsL_law wsX20 := goodIn_sub inlX2 (by decide +kernel)
theorem giS_X1 : GoodIn wsL_law wsX10 := goodIn_sub inlX1 (by decide +kernel)
theorem giS_X0 : GoodIn wsL_law wsX00 := goodIn_sub inlX0 (by decide +kernel)
theorem giS_v1 : GoodIn wsL_law ((vx_atS RX3 159 "java/lang/IllegalArgumentException" ["java/lang/RuntimeException", "java/lang/Exception"]).filter goodWord) := goodIn_sub (fun _ h => List.mem_append_left _ (List.mem_append_right _ h)) (by decide +kernel)
theorem giS_v2 : GoodIn wsL_law ((vx_atS RX3 146 "java/lang/IllegalStateException" ["java/lang/RuntimeException", "java/lang/Exception"]).filter goodWord) := goodIn_sub (fun _ h => List.mem_append_right _ h) (by decide +kernel)
theorem ggL_law_L_isSo : GoodIn wsL_law wsL_isSo := goodIn_app giS_c (goodIn_app (goodIn_app (goodIn_app (goodIn_app (goodIn_app (goodIn_app (goodIn_app giS_r1 (goodIn_app giS_r2 (goodIn_app giS_r3 (goodIn_app giS_r4 (goodIn_app giS_r5 (goodIn_app giS_r6 (goodIn_app giS_r7 (goodIn_app giS_r8 (goodIn_app giS_r9 (goodIn_app giS_r10 (goodIn_app giS_r11 (giS_r12)))))))))))) giS_X3) giS_X2) giS_X1) giS_X0) giS_v1) giS_v2)
theorem gL_law_L_isSo : GoodIn wsL_law (va_wsS RL 160 yL_isSo wsL_isSo) := goodIn_app (goodIn_of _ (by decide +kernel)) ggL_law_L_isSo
end
