section
-- ===== PART A: goes FIRST, ahead of the names: the tables' words, and 'selects' of the private methods out of them =====
/-- a private method of a class that the tables say can be made, by its rows of tables_1 -/
def lw_okq (q : MethodName × Nat) : Prop := (q.1.cls ≠ "java/lang/invoke/MethodHandle" ∧ q.1.cls ≠ "java/lang/invoke/VarHandle") ∧ Cond.instantiable q.1.cls q.2 ∈ tables_1 ∧ Cond.privateMethod q.1 ∈ tables_1 ∧ Cond.instanceMethod q.1 ∈ tables_1
theorem lw_p0 : lw_okq (⟨"Groupbooks$Holdings", "members", "()I"⟩, 6) := ⟨⟨by decide +kernel, by decide +kernel⟩, List.mem_of_getElem? (i := 21) (by decide +kernel), List.mem_of_getElem? (i := 112) (by decide +kernel), List.mem_of_getElem? (i := 113) (by decide +kernel)⟩
theorem lw_p1 : lw_okq (⟨"Groupbooks$Holdings", "withControlled", "(I)I"⟩, 6) := ⟨⟨by decide +kernel, by decide +kernel⟩, List.mem_of_getElem? (i := 21) (by decide +kernel), List.mem_of_getElem? (i := 116) (by decide +kernel), List.mem_of_getElem? (i := 117) (by decide +kernel)⟩
theorem lw_p2 : lw_okq (⟨"Groupbooks$Holdings", "heldAmong", "(II)I"⟩, 6) := ⟨⟨by decide +kernel, by decide +kernel⟩, List.mem_of_getElem? (i := 21) (by decide +kernel), List.mem_of_getElem? (i := 120) (by decide +kernel), List.mem_of_getElem? (i := 121) (by decide +kernel)⟩
theorem lw_p3 : lw_okq (⟨"Groupbooks$Balances", "agreedAmong", "(I)I"⟩, 2) := ⟨⟨by decide +kernel, by decide +kernel⟩, List.mem_of_getElem? (i := 76) (by decide +kernel), List.mem_of_getElem? (i := 134) (by decide +kernel), List.mem_of_getElem? (i := 135) (by decide +kernel)⟩
theorem lw_p4 : lw_okq (⟨"Groupbooks$Books", "assetsOf", "(I)I"⟩, 7) := ⟨⟨by decide +kernel, by decide +kernel⟩, List.mem_of_getElem? (i := 48) (by decide +kernel), List.mem_of_getElem? (i := 148) (by decide +kernel), List.mem_of_getElem? (i := 149) (by decide +kernel)⟩
theorem lw_p5 : lw_okq (⟨"Groupbooks$Books", "debtsOf", "(I)I"⟩, 7) := ⟨⟨by decide +kernel, by decide +kernel⟩, List.mem_of_getElem? (i := 48) (by decide +kernel), List.mem_of_getElem? (i := 162) (by decide +kernel), List.mem_of_getElem? (i := 163) (by decide +kernel)⟩
theorem lw_p6 : lw_okq (⟨"Groupbooks", "minorityAmong", "(II)I"⟩, 6) := ⟨⟨by decide +kernel, by decide +kernel⟩, List.mem_of_getElem? (i := 13) (by decide +kernel), List.mem_of_getElem? (i := 170) (by decide +kernel), List.mem_of_getElem? (i := 171) (by decide +kernel)⟩
theorem lw_p7 : lw_okq (⟨"Groupbooks$Books", "netOf", "(I)I"⟩, 7) := ⟨⟨by decide +kernel, by decide +kernel⟩, List.mem_of_getElem? (i := 48) (by decide +kernel), List.mem_of_getElem? (i := 174) (by decide +kernel), List.mem_of_getElem? (i := 175) (by decide +kernel)⟩
theorem lw_p8 : lw_okq (⟨"Groupbooks$Holdings", "partOfOthers", "(II)I"⟩, 6) := ⟨⟨by decide +kernel, by decide +kernel⟩, List.mem_of_getElem? (i := 21) (by decide +kernel), List.mem_of_getElem? (i := 180) (by decide +kernel), List.mem_of_getElem? (i := 181) (by decide +kernel)⟩
theorem lw_p9 : lw_okq (⟨"Groupbooks$Books", "profitOf", "(I)I"⟩, 7) := ⟨⟨by decide +kernel, by decide +kernel⟩, List.mem_of_getElem? (i := 48) (by decide +kernel), List.mem_of_getElem? (i := 196) (by decide +kernel), List.mem_of_getElem? (i := 197) (by decide +kernel)⟩
theorem lw_p10 : lw_okq (⟨"Groupbooks$Holdings", "partOfParent", "(II)I"⟩, 6) := ⟨⟨by decide +kernel, by decide +kernel⟩, List.mem_of_getElem? (i := 21) (by decide +kernel), List.mem_of_getElem? (i := 200) (by decide +kernel), List.mem_of_getElem? (i := 201) (by decide +kernel)⟩
theorem lw_p11 : lw_okq (⟨"java/lang/Throwable", "fillInStackTrace", "(I)Ljava/lang/Throwable;"⟩, 6) := ⟨⟨by decide +kernel, by decide +kernel⟩, List.mem_of_getElem? (i := 259) (by decide +kernel), List.mem_of_getElem? (i := 257) (by decide +kernel), List.mem_of_getElem? (i := 258) (by decide +kernel)⟩
theorem lw_p12 : lw_okq (⟨"Groupbooks$Holdings", "percentOf", "(II)I"⟩, 6) := ⟨⟨by decide +kernel, by decide +kernel⟩, List.mem_of_getElem? (i := 21) (by decide +kernel), List.mem_of_getElem? (i := 290) (by decide +kernel), List.mem_of_getElem? (i := 291) (by decide +kernel)⟩
theorem lw_p13 : lw_okq (⟨"Groupbooks$Holdings", "take", "(III)Z"⟩, 6) := ⟨⟨by decide +kernel, by decide +kernel⟩, List.mem_of_getElem? (i := 21) (by decide +kernel), List.mem_of_getElem? (i := 294) (by decide +kernel), List.mem_of_getElem? (i := 295) (by decide +kernel)⟩
theorem lw_p14 : lw_okq (⟨"Groupbooks$Holdings", "heldByAll", "(I)I"⟩, 6) := ⟨⟨by decide +kernel, by decide +kernel⟩, List.mem_of_getElem? (i := 21) (by decide +kernel), List.mem_of_getElem? (i := 298) (by decide +kernel), List.mem_of_getElem? (i := 299) (by decide +kernel)⟩
theorem lw_p15 : lw_okq (⟨"Groupbooks$Holdings", "determineShares", "()Z"⟩, 6) := ⟨⟨by decide +kernel, by decide +kernel⟩, List.mem_of_getElem? (i := 21) (by decide +kernel), List.mem_of_getElem? (i := 302) (by decide +kernel), List.mem_of_getElem? (i := 303) (by decide +kernel)⟩
def lw_privs_1 : List (MethodName × Nat) := [(⟨"Groupbooks$Holdings", "members", "()I"⟩, 6), (⟨"Groupbooks$Holdings", "withControlled", "(I)I"⟩, 6), (⟨"Groupbooks$Holdings", "heldAmong", "(II)I"⟩, 6), (⟨"Groupbooks$Balances", "agreedAmong", "(I)I"⟩, 2), (⟨"Groupbooks$Books", "assetsOf", "(I)I"⟩, 7), (⟨"Groupbooks$Books", "debtsOf", "(I)I"⟩, 7), (⟨"Groupbooks", "minorityAmong", "(II)I"⟩, 6), (⟨"Groupbooks$Books", "netOf", "(I)I"⟩, 7), (⟨"Groupbooks$Holdings", "partOfOthers", "(II)I"⟩, 6), (⟨"Groupbooks$Books", "profitOf", "(I)I"⟩, 7), (⟨"Groupbooks$Holdings", "partOfParent", "(II)I"⟩, 6), (⟨"java/lang/Throwable", "fillInStackTrace", "(I)Ljava/lang/Throwable;"⟩, 6), (⟨"Groupbooks$Holdings", "percentOf", "(II)I"⟩, 6), (⟨"Groupbooks$Holdings", "take", "(III)Z"⟩, 6), (⟨"Groupbooks$Holdings", "heldByAll", "(I)I"⟩, 6), (⟨"Groupbooks$Holdings", "determineShares", "()Z"⟩, 6)]
theorem lw_r1 : ∀ q ∈ lw_privs_1, lw_okq q := List.forall_mem_cons.mpr ⟨lw_p0, List.forall_mem_cons.mpr ⟨lw_p1, List.forall_mem_cons.mpr ⟨lw_p2, List.forall_mem_cons.mpr ⟨lw_p3, List.forall_mem_cons.mpr ⟨lw_p4, List.forall_mem_cons.mpr ⟨lw_p5, List.forall_mem_cons.mpr ⟨lw_p6, List.forall_mem_cons.mpr ⟨lw_p7, List.forall_mem_cons.mpr ⟨lw_p8, List.forall_mem_cons.mpr ⟨lw_p9, List.forall_mem_cons.mpr ⟨lw_p10, List.forall_mem_cons.mpr ⟨lw_p11, List.forall_mem_cons.mpr ⟨lw_p12, List.forall_mem_cons.mpr ⟨lw_p13, List.forall_mem_cons.mpr ⟨lw_p14, List.forall_mem_cons.mpr ⟨lw_p15, fun _ h => absurd h List.not_mem_nil⟩⟩⟩⟩⟩⟩⟩⟩⟩⟩⟩⟩⟩⟩⟩⟩
theorem lw_p16 : lw_okq (⟨"Groupbooks$Holdings", "writeEquations", "()V"⟩, 6) := ⟨⟨by decide +kernel, by decide +kernel⟩, List.mem_of_getElem? (i := 21) (by decide +kernel), List.mem_of_getElem? (i := 306) (by decide +kernel), List.mem_of_getElem? (i := 307) (by decide +kernel)⟩
theorem lw_p17 : lw_okq (⟨"Groupbooks$Holdings", "clearColumn", "(IJJ)V"⟩, 6) := ⟨⟨by decide +kernel, by decide +kernel⟩, List.mem_of_getElem? (i := 21) (by decide +kernel), List.mem_of_getElem? (i := 311) (by decide +kernel), List.mem_of_getElem? (i := 312) (by decide +kernel)⟩
theorem lw_p18 : lw_okq (⟨"Groupbooks$Holdings", "clearEntry", "(IIJJ)V"⟩, 6) := ⟨⟨by decide +kernel, by decide +kernel⟩, List.mem_of_getElem? (i := 21) (by decide +kernel), List.mem_of_getElem? (i := 315) (by decide +kernel), List.mem_of_getElem? (i := 316) (by decide +kernel)⟩
theorem lw_p19 : lw_okq (⟨"Groupbooks$Holdings", "keepShares", "(J)V"⟩, 6) := ⟨⟨by decide +kernel, by decide +kernel⟩, List.mem_of_getElem? (i := 21) (by decide +kernel), List.mem_of_getElem? (i := 319) (by decide +kernel), List.mem_of_getElem? (i := 320) (by decide +kernel)⟩
theorem lw_p20 : lw_okq (⟨"Groupbooks$Holdings", "numeratorOf", "(I)J"⟩, 6) := ⟨⟨by decide +kernel, by decide +kernel⟩, List.mem_of_getElem? (i := 21) (by decide +kernel), List.mem_of_getElem? (i := 368) (by decide +kernel), List.mem_of_getElem? (i := 369) (by decide +kernel)⟩
theorem lw_p21 : lw_okq (⟨"Groupbooks$Holdings", "denominatorOf", "(I)J"⟩, 6) := ⟨⟨by decide +kernel, by decide +kernel⟩, List.mem_of_getElem? (i := 21) (by decide +kernel), List.mem_of_getElem? (i := 379) (by decide +kernel), List.mem_of_getElem? (i := 380) (by decide +kernel)⟩
theorem lw_p22 : lw_okq (⟨"Groupbooks$Holdings", "millionthsAfter", "(II)I"⟩, 6) := ⟨⟨by decide +kernel, by decide +kernel⟩, List.mem_of_getElem? (i := 21) (by decide +kernel), List.mem_of_getElem? (i := 390) (by decide +kernel), List.mem_of_getElem? (i := 391) (by decide +kernel)⟩
theorem lw_p23 : lw_okq (⟨"Groupbooks$Holdings", "playRound", "()V"⟩, 6) := ⟨⟨by decide +kernel, by decide +kernel⟩, List.mem_of_getElem? (i := 21) (by decide +kernel), List.mem_of_getElem? (i := 395) (by decide +kernel), List.mem_of_getElem? (i := 396) (by decide +kernel)⟩
theorem lw_p24 : lw_okq (⟨"Groupbooks$Books", "enter", "(IIIII)V"⟩, 7) := ⟨⟨by decide +kernel, by decide +kernel⟩, List.mem_of_getElem? (i := 48) (by decide +kernel), List.mem_of_getElem? (i := 418) (by decide +kernel), List.mem_of_getElem? (i := 419) (by decide +kernel)⟩
theorem lw_p25 : lw_okq (⟨"Groupbooks$Books", "enterRates", "(IIII)V"⟩, 7) := ⟨⟨by decide +kernel, by decide +kernel⟩, List.mem_of_getElem? (i := 48) (by decide +kernel), List.mem_of_getElem? (i := 429) (by decide +kernel), List.mem_of_getElem? (i := 430) (by decide +kernel)⟩
theorem lw_p26 : lw_okq (⟨"Groupbooks$Books", "equityOf", "(I)I"⟩, 7) := ⟨⟨by decide +kernel, by decide +kernel⟩, List.mem_of_getElem? (i := 48) (by decide +kernel), List.mem_of_getElem? (i := 447) (by decide +kernel), List.mem_of_getElem? (i := 448) (by decide +kernel)⟩
theorem lw_p27 : lw_okq (⟨"Groupbooks$Balances", "replaceClaim", "(III)I"⟩, 2) := ⟨⟨by decide +kernel, by decide +kernel⟩, List.mem_of_getElem? (i := 76) (by decide +kernel), List.mem_of_getElem? (i := 472) (by decide +kernel), List.mem_of_getElem? (i := 473) (by decide +kernel)⟩
theorem lw_p28 : lw_okq (⟨"Groupbooks$Balances", "replaceAdmitted", "(III)I"⟩, 2) := ⟨⟨by decide +kernel, by decide +kernel⟩, List.mem_of_getElem? (i := 76) (by decide +kernel), List.mem_of_getElem? (i := 483) (by decide +kernel), List.mem_of_getElem? (i := 484) (by decide +kernel)⟩
theorem lw_p29 : lw_okq (⟨"Groupbooks$Balances", "disputed", "(II)I"⟩, 2) := ⟨⟨by decide +kernel, by decide +kernel⟩, List.mem_of_getElem? (i := 76) (by decide +kernel), List.mem_of_getElem? (i := 494) (by decide +kernel), List.mem_of_getElem? (i := 495) (by decide +kernel)⟩
theorem lw_p30 : lw_okq (⟨"Groupbooks$Books", "carryResults", "()V"⟩, 7) := ⟨⟨by decide +kernel, by decide +kernel⟩, List.mem_of_getElem? (i := 48) (by decide +kernel), List.mem_of_getElem? (i := 514) (by decide +kernel), List.mem_of_getElem? (i := 515) (by decide +kernel)⟩
theorem lw_p31 : lw_okq (⟨"GroupbooksModel", "fails", "(I)I"⟩, 19) := ⟨⟨by decide +kernel, by decide +kernel⟩, List.mem_of_getElem? (i := 526) (by decide +kernel), List.mem_of_getElem? (i := 607) (by decide +kernel), List.mem_of_getElem? (i := 608) (by decide +kernel)⟩
def lw_privs_2 : List (MethodName × Nat) := [(⟨"Groupbooks$Holdings", "writeEquations", "()V"⟩, 6), (⟨"Groupbooks$Holdings", "clearColumn", "(IJJ)V"⟩, 6), (⟨"Groupbooks$Holdings", "clearEntry", "(IIJJ)V"⟩, 6), (⟨"Groupbooks$Holdings", "keepShares", "(J)V"⟩, 6), (⟨"Groupbooks$Holdings", "numeratorOf", "(I)J"⟩, 6), (⟨"Groupbooks$Holdings", "denominatorOf", "(I)J"⟩, 6), (⟨"Groupbooks$Holdings", "millionthsAfter", "(II)I"⟩, 6), (⟨"Groupbooks$Holdings", "playRound", "()V"⟩, 6), (⟨"Groupbooks$Books", "enter", "(IIIII)V"⟩, 7), (⟨"Groupbooks$Books", "enterRates", "(IIII)V"⟩, 7), (⟨"Groupbooks$Books", "equityOf", "(I)I"⟩, 7), (⟨"Groupbooks$Balances", "replaceClaim", "(III)I"⟩, 2), (⟨"Groupbooks$Balances", "replaceAdmitted", "(III)I"⟩, 2), (⟨"Groupbooks$Balances", "disputed", "(II)I"⟩, 2), (⟨"Groupbooks$Books", "carryResults", "()V"⟩, 7), (⟨"GroupbooksModel", "fails", "(I)I"⟩, 19)]
theorem lw_r2 : ∀ q ∈ lw_privs_2, lw_okq q := List.forall_mem_cons.mpr ⟨lw_p16, List.forall_mem_cons.mpr ⟨lw_p17, List.forall_mem_cons.mpr ⟨lw_p18, List.forall_mem_cons.mpr ⟨lw_p19, List.forall_mem_cons.mpr ⟨lw_p20, List.forall_mem_cons.mpr ⟨lw_p21, List.forall_mem_cons.mpr ⟨lw_p22, List.forall_mem_cons.mpr ⟨lw_p23, List.forall_mem_cons.mpr ⟨lw_p24, List.forall_mem_cons.mpr ⟨lw_p25, List.forall_mem_cons.mpr ⟨lw_p26, List.forall_mem_cons.mpr ⟨lw_p27, List.forall_mem_cons.mpr ⟨lw_p28, List.forall_mem_cons.mpr ⟨lw_p29, List.forall_mem_cons.mpr ⟨lw_p30, List.forall_mem_cons.mpr ⟨lw_p31, fun _ h => absurd h List.not_mem_nil⟩⟩⟩⟩⟩⟩⟩⟩⟩⟩⟩⟩⟩⟩⟩⟩
theorem lw_p32 : lw_okq (⟨"GroupbooksModel", "sets", "(III)Z"⟩, 19) := ⟨⟨by decide +kernel, by decide +kernel⟩, List.mem_of_getElem? (i := 526) (by decide +kernel), List.mem_of_getElem? (i := 611) (by decide +kernel), List.mem_of_getElem? (i := 612) (by decide +kernel)⟩
theorem lw_p33 : lw_okq (⟨"GroupbooksModel", "layShares", "()Z"⟩, 19) := ⟨⟨by decide +kernel, by decide +kernel⟩, List.mem_of_getElem? (i := 526) (by decide +kernel), List.mem_of_getElem? (i := 615) (by decide +kernel), List.mem_of_getElem? (i := 616) (by decide +kernel)⟩
theorem lw_p34 : lw_okq (⟨"GroupbooksModel", "laySquare", "(I)V"⟩, 19) := ⟨⟨by decide +kernel, by decide +kernel⟩, List.mem_of_getElem? (i := 526) (by decide +kernel), List.mem_of_getElem? (i := 619) (by decide +kernel), List.mem_of_getElem? (i := 620) (by decide +kernel)⟩
theorem lw_p35 : lw_okq (⟨"GroupbooksModel", "determinant", "()J"⟩, 19) := ⟨⟨by decide +kernel, by decide +kernel⟩, List.mem_of_getElem? (i := 526) (by decide +kernel), List.mem_of_getElem? (i := 623) (by decide +kernel), List.mem_of_getElem? (i := 624) (by decide +kernel)⟩
theorem lw_p36 : lw_okq (⟨"GroupbooksModel", "exchange", "(II)V"⟩, 19) := ⟨⟨by decide +kernel, by decide +kernel⟩, List.mem_of_getElem? (i := 526) (by decide +kernel), List.mem_of_getElem? (i := 627) (by decide +kernel), List.mem_of_getElem? (i := 628) (by decide +kernel)⟩
theorem lw_p37 : lw_okq (⟨"GroupbooksModel", "net", "(I)I"⟩, 19) := ⟨⟨by decide +kernel, by decide +kernel⟩, List.mem_of_getElem? (i := 526) (by decide +kernel), List.mem_of_getElem? (i := 639) (by decide +kernel), List.mem_of_getElem? (i := 640) (by decide +kernel)⟩
theorem lw_p38 : lw_okq (⟨"GroupbooksModel", "groupSet", "()I"⟩, 19) := ⟨⟨by decide +kernel, by decide +kernel⟩, List.mem_of_getElem? (i := 526) (by decide +kernel), List.mem_of_getElem? (i := 670) (by decide +kernel), List.mem_of_getElem? (i := 671) (by decide +kernel)⟩
theorem lw_p39 : lw_okq (⟨"GroupbooksModel", "eliminatedNow", "()I"⟩, 19) := ⟨⟨by decide +kernel, by decide +kernel⟩, List.mem_of_getElem? (i := 526) (by decide +kernel), List.mem_of_getElem? (i := 719) (by decide +kernel), List.mem_of_getElem? (i := 720) (by decide +kernel)⟩
theorem lw_p40 : lw_okq (⟨"GroupbooksModel", "assetsNow", "()I"⟩, 19) := ⟨⟨by decide +kernel, by decide +kernel⟩, List.mem_of_getElem? (i := 526) (by decide +kernel), List.mem_of_getElem? (i := 727) (by decide +kernel), List.mem_of_getElem? (i := 728) (by decide +kernel)⟩
theorem lw_p41 : lw_okq (⟨"GroupbooksModel", "debtsNow", "()I"⟩, 19) := ⟨⟨by decide +kernel, by decide +kernel⟩, List.mem_of_getElem? (i := 526) (by decide +kernel), List.mem_of_getElem? (i := 735) (by decide +kernel), List.mem_of_getElem? (i := 736) (by decide +kernel)⟩
theorem lw_p42 : lw_okq (⟨"GroupbooksModel", "minorityNow", "(I)I"⟩, 19) := ⟨⟨by decide +kernel, by decide +kernel⟩, List.mem_of_getElem? (i := 526) (by decide +kernel), List.mem_of_getElem? (i := 743) (by decide +kernel), List.mem_of_getElem? (i := 744) (by decide +kernel)⟩
theorem lw_p43 : lw_okq (⟨"GroupbooksModel", "resultNow", "()I"⟩, 19) := ⟨⟨by decide +kernel, by decide +kernel⟩, List.mem_of_getElem? (i := 526) (by decide +kernel), List.mem_of_getElem? (i := 755) (by decide +kernel), List.mem_of_getElem? (i := 756) (by decide +kernel)⟩
def lw_privs_3 : List (MethodName × Nat) := [(⟨"GroupbooksModel", "sets", "(III)Z"⟩, 19), (⟨"GroupbooksModel", "layShares", "()Z"⟩, 19), (⟨"GroupbooksModel", "laySquare", "(I)V"⟩, 19), (⟨"GroupbooksModel", "determinant", "()J"⟩, 19), (⟨"GroupbooksModel", "exchange", "(II)V"⟩, 19), (⟨"GroupbooksModel", "net", "(I)I"⟩, 19), (⟨"GroupbooksModel", "groupSet", "()I"⟩, 19), (⟨"GroupbooksModel", "eliminatedNow", "()I"⟩, 19), (⟨"GroupbooksModel", "assetsNow", "()I"⟩, 19), (⟨"GroupbooksModel", "debtsNow", "()I"⟩, 19), (⟨"GroupbooksModel", "minorityNow", "(I)I"⟩, 19), (⟨"GroupbooksModel", "resultNow", "()I"⟩, 19)]
theorem lw_r3 : ∀ q ∈ lw_privs_3, lw_okq q := List.forall_mem_cons.mpr ⟨lw_p32, List.forall_mem_cons.mpr ⟨lw_p33, List.forall_mem_cons.mpr ⟨lw_p34, List.forall_mem_cons.mpr ⟨lw_p35, List.forall_mem_cons.mpr ⟨lw_p36, List.forall_mem_cons.mpr ⟨lw_p37, List.forall_mem_cons.mpr ⟨lw_p38, List.forall_mem_cons.mpr ⟨lw_p39, List.forall_mem_cons.mpr ⟨lw_p40, List.forall_mem_cons.mpr ⟨lw_p41, List.forall_mem_cons.mpr ⟨lw_p42, List.forall_mem_cons.mpr ⟨lw_p43, fun _ h => absurd h List.not_mem_nil⟩⟩⟩⟩⟩⟩⟩⟩⟩⟩⟩⟩
def lw_privs : List (MethodName × Nat) := lw_privs_1 ++ (lw_privs_2 ++ (lw_privs_3))
def lw_tbl : List Cond := k2_sels lw_privs ++ tables_1
theorem lw_privs_ok : ∀ q ∈ lw_privs, lw_okq q := by
  show ∀ q ∈ lw_privs_1 ++ (lw_privs_2 ++ (lw_privs_3)), lw_okq q
  exact List.forall_mem_append.mpr ⟨lw_r1, List.forall_mem_append.mpr ⟨lw_r2, lw_r3⟩⟩
-- ===== end of PART A; then your names; then what follows =====
end
section
/-! ===== BEGIN words of one list among another's, by their places ===== -/
theorem goodIn_r {big : List Cond} (ws : List Cond) (ps : List Nat) (hp : ws = ps.filterMap (fun i => big[i]?)) (h : ws.all goodWord = true) : GoodIn big ws := by
  intro w hw
  have h1 := List.all_eq_true.mp h w hw
  rw [hp] at hw
  obtain ⟨i, -, hi⟩ := List.mem_filterMap.mp hw
  have hm : w ∈ big := by first | exact List.mem_of_getElem? hi | exact List.getElem?_mem hi
  exact ⟨hm, good_of_word h1⟩
theorem goodIn_app {big a b : List Cond} (ha : GoodIn big a) (hb : GoodIn big b) : GoodIn big (a ++ b) := fun w h => (List.mem_append.mp h).elim (ha w) (hb w)
theorem goodIn_ca {big a b : List Cond} {c : Cond} (ha : GoodIn big (c :: a)) (hb : GoodIn big b) : GoodIn big (c :: (a ++ b)) := fun w h => (List.mem_cons.mp h).elim (fun e => ha w (List.mem_cons.mpr (Or.inl e))) (fun h => (List.mem_append.mp h).elim (fun h => ha w (List.mem_cons.mpr (Or.inr h))) (hb w))
theorem goodIn_sub {big ws : List Cond} (hm : ∀ w ∈ ws, w ∈ big) (h : ws.all goodWord = true) : GoodIn big ws := fun w hw => ⟨hm w hw, good_of_word (List.all_eq_true.mp h w hw)⟩
/-! ===== END ===== -/

/-! ===== BEGIN exceptions that leave a method, and their catching by the caller (launches without stack traces) ===== -/
section VXA
/-! The laws vx_back, vx_callV, vx_callS, vx_callSW, vx_throw0, vx_throwS follow proofs of the library, with one case more: JvmDerived/Free/Laws.lean (Back.of_free), Shelf42/LK1.lean (callV, callS), Shelf/KitTraced.lean (throwNew0V, throwNewS). -/
/-- where a method has thrown q: the class by its name, the cell, what was written, the world -/
def vx_T (XC : String → State → State → Prop) (st : State) (q : Addr) (t : State) (mc ms : Nat) (free : Addr → Prop) : Prop :=
  ∃ (E : String) (ce : Cell) (L : List Loc), XC E st t ∧ t.heap[q]? = some ce ∧ ce.vm = .none ∧ st.vm.findClass E = some ce.cls ∧ st.WarmedH t.vm ∧ st.sameButNew ({ t with vm := st.vm } : State) L mc ms ∧ ∀ z ∈ L, free z.base
def vx_Q (Qc : Array Value → State → Outcome → State → Prop) (XC : String → State → State → Prop) (mc ms : Nat) (free : Addr → Prop) : Array Value → State → Outcome → State → Prop := fun a st o t =>
  (Qc a st o t ∧ ∃ L, FrameEnd st o t L mc ms ∧ ∀ q ∈ L, free q.base) ∨ ∃ q, o = .threw q ∧ vx_T XC st q t mc ms free
/-- a callee that returns or throws -/
def vx_Met (l : Launch) (y : MethodName) (ws : List Cond) (rm : Room) (Pc : Array Value → State → Prop) (Qc : Array Value → State → Outcome → State → Prop) (XC : String → State → State → Prop) (mc ms : Nat) (free : Addr → Prop) : Prop :=
  MetFree l y (headSpec ws rm) Pc (fun _ _ _ _ _ => True) (vx_Q Qc XC mc ms free)
def vx_Post (XC : String → State → State → Prop) (mc ms : Nat) (free : Addr → Prop) : Pt → Array Value → Addr → Pt → Prop := fun A a q B =>
  ∃ (g : JFrame) (mk : MethodId) (t : State) (L : List Loc) (E : String) (ce : Cell), B.U.heap = t.heap ∧ B.U.vm = t.vm ∧ XC E (A.U.calling g mk a) t ∧ t.heap[q]? = some ce ∧ ce.vm = .none ∧ A.U.vm.findClass E = some ce.cls ∧ B.locs = A.locs ++ L ∧ (∀ z ∈ L, free z.base) ∧ B.cells = A.cells + mc ∧ B.slots = A.slots + ms
def vx_Back (l : Launch) (R : Room) (p : Program) (e : Env) (below : List Frame) (s : State) (sargs : Array Value) (y : MethodName) (len W9 : Nat)
    (Pre : Pt → Array Value → Prop) (Post : Pt → Array Value → Option Value → Pt → Prop) (PostX : Pt → Array Value → Addr → Pt → Prop) : Prop :=
  ∀ (m : MethodId) (meth : Method) (c : Code) (A : Pt) (g : JFrame) (ig : Instr) (mk : MethodId) (a : Array Value),
    Stand p l e R s m sargs below meth c A.U A.locs A.cells A.slots → g.method = m → g.locals.size = c.maxLocals → decode c.code g.pc = .ok (ig, len) →
    2 * g.monitorRoom + (g.stack.map fun v => v.category).sum ≤ W9 → A.U.methodNamed? y = some mk → Pre A a →
    (∃ (v : Option Value) (B : Pt), Stand p l e R s m sargs below meth c B.U B.locs B.cells B.slots ∧ Post A a v B ∧
      Steps p.tables e below (doInvoke e (A.U.setTop g) [] mk a).1 (B.U.setTop { g with pc := g.pc + len, stack := v.toList ++ g.stack })) ∨
    (∃ (q : Addr) (B : Pt), Stand p l e R s m sargs below meth c B.U B.locs B.cells B.slots ∧ PostX A a q B ∧
      Steps p.tables e below (doInvoke e (A.U.setTop g) [] mk a).1 ((B.U.setTop g).pushFrame (.throwing q)))
section Payer
variable {l : Launch} {R : Room} {p : Program} {e : Env} {below : List Frame} {s : State} {sargs : Array Value} {y : MethodName} {len W9 : Nat}
theorem vx_back {ws : List Cond} {rm : Room} {Pc : Array Value → State → Prop} {Qc : Array Value → State → Outcome → State → Prop} {XC : String → State → State → Prop} {mc ms : Nat} {free : Addr → Prop} {bytes : ByteArray} {maxL : Nat} {ret : Option FieldType}
    (hM : vx_Met l y ws rm Pc Qc XC mc ms free) (hblind : FrameBlind Pc) (hrc : rm.cells = mc) (hrs : rm.slots = ms)
    (hframes : rm.frames + 1 ≤ R.frames) (hlocals : W9 + (maxL + 11) + rm.locals ≤ R.locals)
    (hws : ∀ w ∈ ws, ∀ a' U, s.WarmedH U.vm → w.before a' U = true) (hcode : Cond.code y bytes maxL ret ∈ ws) (hinit : ∀ a' U, s.WarmedH U.vm → (Cond.initialized y.cls).before a' U = true) :
    vx_Back l R p e below s sargs y len W9 (PreOf R mc ms Pc) (PostOf Qc mc ms free) (vx_Post XC mc ms free) := by
  intro m meth c A g ig mk a X hg hsize hdg hW hn hp
  have h1 : (headSpec ws rm).pre.before a A.U = true := atoms_intro fun w hw => hws w hw _ _ X.warmed
  have h2 : (Cond.code y bytes maxL ret).before a A.U = true := hws _ hcode _ _ X.warmed
  have h3 : (Cond.initialized y.cls).before a A.U = true := hinit _ _ X.warmed
  have h4 : A.cells + (headSpec ws rm).room.cells ≤ R.cells := by rw [show (headSpec ws rm).room.cells = mc from hrc]; exact hp.1
  have h5 : A.slots + (headSpec ws rm).room.slots ≤ R.slots := by rw [show (headSpec ws rm).room.slots = ms from hrs]; exact hp.2.1
  have hPc : Pc a (A.U.calling g mk a) := hblind _ _ _ _ hp.2.2
  obtain ⟨U, Ls, c0, s0⟩ := A
  dsimp only [Pt.U, Pt.locs, Pt.cells, Pt.slots] at h1 h2 h3 h4 h5 X hn hPc ⊢
  obtain ⟨methY, cY, hmY, hcY, -, hlY, -, -, -, -⟩ := Cond.code_spec hn h2
  obtain ⟨kY, hkY, -⟩ := className_of_methodNamed hn
  have hinitY : kY.init = .initialized := Cond.initialized_spec (findClass_of_methodNamed hn) hkY h3
  have h : At U g.method c below := by rw [hg]; exact X.here
  have hlocals9 : W9 + (maxL + 11) + (headSpec ws rm).room.locals ≤ R.locals := hlocals
  have happ : (headSpec ws rm).appliesLoose y e.platform (U.calling g mk a) = true :=
    Spec.appliesLoose_calling (g := g) h hdg hn hkY hinitY
      (X.room_calling (g := g) (R' := (headSpec ws rm).room) hsize hmY hcY hframes (by rw [hlY]; omega) h4 h5) h1
  obtain ⟨mid, hmid⟩ := h.above
  have hfr : (U.setTop g).frames = (.java g :: mid) ++ below := by rw [State.frames_setTop' g h.top, hmid]; rfl
  obtain ⟨o, s₂, hsteps, -, hend, hq⟩ := Steps.callFree hM p X.admits X.cas X.clock (acts := []) hfr happ hPc trivial
  have hq' : vx_Q Qc XC mc ms free a (U.calling g mk a) o s₂ := hq
  rw [State.frames_setTop' g h.top] at hend
  obtain ⟨g₀, hg0⟩ := Option.isSome_iff_exists.mp h.top
  obtain ⟨r, hr⟩ := State.topJava?_eq_some.mp hg0
  have hr' : (({ U with heap := s₂.heap, slotsUsed := s₂.slotsUsed } : State).setVm s₂.vm).frames = .java g₀ :: r := hr
  rcases hq' with ⟨hqc, L, hfe, hL⟩ | ⟨q, rfl, E, ce, L, hx, hce, hcv, hcl, hW₂, hsm, hL⟩
  · obtain ⟨⟨v, rfl⟩, hW₂, e2, q2, q3, q4, q5, q6⟩ := id hfe
    have e3 : s₂ = ({ (U.calling g mk a).setFrames s₂.frames with heap := s₂.heap, slotsUsed := s₂.slotsUsed } : State).setVm s₂.vm := by
      have : s₂ = ({ s₂ with vm := (U.calling g mk a).vm } : State).setVm s₂.vm := rfl
      rw [e2] at this
      exact this
    obtain ⟨c₂, i₂, len₂, hc₂, hd₂, hf₂⟩ := hend
    have hW' : U.WarmedH s₂.vm := hW₂
    have hcc : c₂ = c := by
      have h1 : s₂.code? g.method = U.code? g.method := by
        rw [State.code?_eq, State.code?_eq, hW'.alike.method?]
      exact Option.some.inj (hc₂.symm.trans (h1.trans h.code))
    subst hcc
    have hlen : len₂ = len := by rw [hdg] at hd₂; cases hd₂; rfl
    subst hlen
    have hs₂ : s₂ = (({ U with heap := s₂.heap, slotsUsed := s₂.slotsUsed } : State).setVm s₂.vm).setTop { g with pc := g.pc + len₂, stack := v.toList ++ g.stack } := by
      refine e3.trans ?_
      rw [hf₂, State.calling_eq h.top, State.setFrames_setFrames, State.setTop_of_frames _ hr', hr]
      rfl
    have hsame : U.sameButNew ({ U with heap := s₂.heap, slotsUsed := s₂.slotsUsed } : State) L mc ms := by
      refine ⟨?_, q2, q3, q4, q5, q6⟩
      obtain ⟨t, ht, -⟩ := State.frames_cons hr
      show ({ U with heap := s₂.heap, slotsUsed := s₂.slotsUsed } : State) = { U.setFrames U.frames with heap := s₂.heap, slotsUsed := s₂.slotsUsed }
      rw [State.setFrames_self ht]
    subst hg
    refine Or.inl ⟨v, ⟨(({ U with heap := s₂.heap, slotsUsed := s₂.slotsUsed } : State).setVm s₂.vm), Ls ++ L, c0 + mc, s0 + ms⟩,
      ⟨X.admits, X.cas, X.clock, X.frames, X.room, X.hears, X.method, X.code, (X.here.setHeapUsed s₂.heap s₂.slotsUsed).setVm hW'.alike, X.tail, State.WarmedH.trans X.warmed hW', X.limits, X.bytes, X.same.trans (hsame.setVm s.vm)⟩,
      ⟨g, mk, s₂, L, rfl, rfl, hqc, rfl, hL, rfl, rfl⟩, ?_⟩
    show Steps p.tables e below _ ((({ U with heap := s₂.heap, slotsUsed := s₂.slotsUsed } : State).setVm s₂.vm).setTop { g with pc := g.pc + len₂, stack := v.toList ++ g.stack })
    rw [← hs₂]
    exact hsteps
  · obtain ⟨e2, q2, q3, q4, q5, q6⟩ := id hsm
    have e3 : s₂ = ({ (U.calling g mk a).setFrames s₂.frames with heap := s₂.heap, slotsUsed := s₂.slotsUsed } : State).setVm s₂.vm := by
      have : s₂ = ({ s₂ with vm := (U.calling g mk a).vm } : State).setVm s₂.vm := rfl
      rw [e2] at this
      exact this
    have hf₂ : s₂.frames = .throwing q :: .java g :: U.frames.tail := hend
    have hW' : U.WarmedH s₂.vm := hW₂
    have hs₂ : s₂ = ((({ U with heap := s₂.heap, slotsUsed := s₂.slotsUsed } : State).setVm s₂.vm).setTop g).pushFrame (.throwing q) := by
      refine e3.trans ?_
      rw [hf₂, State.calling_eq h.top, State.setFrames_setFrames, State.pushFrame, State.frames_setTop _ hr', State.setTop_of_frames _ hr', State.setFrames_setFrames, hr]
      rfl
    have hsame : U.sameButNew ({ U with heap := s₂.heap, slotsUsed := s₂.slotsUsed } : State) L mc ms := by
      refine ⟨?_, q2, q3, q4, q5, q6⟩
      obtain ⟨t, ht, -⟩ := State.frames_cons hr
      show ({ U with heap := s₂.heap, slotsUsed := s₂.slotsUsed } : State) = { U.setFrames U.frames with heap := s₂.heap, slotsUsed := s₂.slotsUsed }
      rw [State.setFrames_self ht]
    subst hg
    refine Or.inr ⟨q, ⟨(({ U with heap := s₂.heap, slotsUsed := s₂.slotsUsed } : State).setVm s₂.vm), Ls ++ L, c0 + mc, s0 + ms⟩,
      ⟨X.admits, X.cas, X.clock, X.frames, X.room, X.hears, X.method, X.code, (X.here.setHeapUsed s₂.heap s₂.slotsUsed).setVm hW'.alike, X.tail, State.WarmedH.trans X.warmed hW', X.limits, X.bytes, X.same.trans (hsame.setVm s.vm)⟩,
      ⟨g, mk, s₂, L, E, ce, rfl, rfl, hx, hce, hcv, hcl, rfl, hL, rfl, rfl⟩, ?_⟩
    show Steps p.tables e below _ (((({ U with heap := s₂.heap, slotsUsed := s₂.slotsUsed } : State).setVm s₂.vm).setTop g).pushFrame (.throwing q))
    rw [← hs₂]
    exact hsteps
end Payer
section Calls
variable {p : Program} {l : Launch} {e : Env} {R : Room} {s : State} {m : MethodId} {args : Array Value} {below : List Frame} {meth : Method} {c : Code} {T : State} {locs : List Loc} {cells slots : Nat}
theorem vx_callV (X : Stand p l e R s m args below meth c T locs cells slots) (hexec : p.tables.exec = Jvm.exec) {own C : String} {index : Nat} {y : MethodName} {bytes : ByteArray} {maxL : Nat} {ret : Option FieldType}
    (hown : s.vm.findClass own = some m.cls) (hlink : (Cond.methodLink own index y).before args s = true) (hinst : (Cond.instanceMethod y).before args s = true) (hsel : (Cond.selects C y y).before args s = true)
    (hcode : (Cond.code y bytes maxL ret).before args s = true) (hy : y.cls ≠ "java/lang/invoke/MethodHandle" ∧ y.cls ≠ "java/lang/invoke/VarHandle")
    {W9 : Nat} {Pre : Pt → Array Value → Prop} {Post : Pt → Array Value → Option Value → Pt → Prop} {PostX : Pt → Array Value → Addr → Pt → Prop} (hK : vx_Back l R p e below s args y 3 W9 Pre Post PostX)
    {b : Addr} {cellB : Cell} (hcell : T.heap[b]? = some cellB) (hobj : cellB.vm.isStatics = false) (hcls : s.vm.findClass C = some cellB.cls)
    {g : JFrame} (hg : g.method = m) (hsize : g.locals.size = c.maxLocals) {argsL rest : List Value} (hlen : ∀ sig, parseMethodDescriptor y.desc = some sig → argsL.length = sig.parameters.length)
    (hstack : g.stack = argsL.reverse ++ .ref b :: rest) (hW : 2 * g.monitorRoom + (rest.map fun v => v.category).sum ≤ W9) (hdg : decode c.code g.pc = .ok (.invokevirtual index, 3))
    (hpre : ∀ vm₁, s.WarmedH vm₁ → Pre ⟨T.setVm vm₁, locs, cells, slots⟩ (Value.ref b :: argsL).toArray) :
    (∃ (v : Option Value) (vm₁ : Vm) (B : Pt), s.WarmedH vm₁ ∧ Stand p l e R s m args below meth c B.U B.locs B.cells B.slots ∧ Post ⟨T.setVm vm₁, locs, cells, slots⟩ (Value.ref b :: argsL).toArray v B ∧
      ∀ target, Steps p.tables e below (B.U.setTop { g with pc := g.pc + 3, stack := v.toList ++ rest }) target → Steps p.tables e below (T.setTop g) target) ∨
    (∃ (q : Addr) (vm₁ : Vm) (B : Pt), s.WarmedH vm₁ ∧ Stand p l e R s m args below meth c B.U B.locs B.cells B.slots ∧ PostX ⟨T.setVm vm₁, locs, cells, slots⟩ (Value.ref b :: argsL).toArray q B ∧
      Steps p.tables e below (T.setTop g) ((B.U.setTop { g with stack := rest }).pushFrame (.throwing q))) := by
  obtain ⟨mk, methM, hnamed, hmethM, hstM, habM⟩ := Cond.instanceMethod_spec hinst
  obtain ⟨methM', cM, hmethM', -, -, -, -, -, -, hsigM⟩ := Cond.code_spec hnamed hcode
  cases hmethM.symm.trans hmethM'
  obtain ⟨c2, r2, m2, q1, q2, q3, q4, kP, hkP, hkPi⟩ := Cond.selects_spec hsel
  cases hcls.symm.trans q1
  cases (State.methodFound?_of_named hnamed hy).symm.trans q2
  cases hnamed.symm.trans q3
  have hselP : selectMethod e.platform s.vm cellB.cls mk = .method mk := by rw [Launch.admits_selectMethod X.admits]; exact q4
  obtain ⟨vm₁, X₁, hstep₁⟩ := X.invokevirtual hexec hown hlink hnamed hmethM hstM hkP hkPi hy (a := b) (cell := cellB) hcell
    (fun z h => by rw [h] at hobj; cases hobj) hselP hmethM habM hkP hkPi (g := g) hg (argsL := argsL) (rest := rest) (hlen _ hsigM) hstack hdg
  rcases hK m meth c ⟨T.setVm vm₁, locs, cells, slots⟩ { g with stack := rest } (.invokevirtual index) mk (Value.ref b :: argsL).toArray X₁ hg hsize hdg hW (X₁.named hnamed) (hpre vm₁ X₁.warmed) with ⟨v, B, X', hpost, hsteps⟩ | ⟨q, B, X', hpost, hsteps⟩
  · exact Or.inl ⟨v, vm₁, B, X₁.warmed, X', hpost, fun target h => hstep₁ _ fun acts => by rw [doInvoke_state]; exact hsteps.trans h⟩
  · exact Or.inr ⟨q, vm₁, B, X₁.warmed, X', hpost, hstep₁ _ fun acts => by rw [doInvoke_state]; exact hsteps⟩
theorem vx_callS (X : Stand p l e R s m args below meth c T locs cells slots) (hexec : p.tables.exec = Jvm.exec) {own : String} {index : Nat} {y : MethodName} {bytes : ByteArray} {maxL : Nat} {ret : Option FieldType}
    (hown : s.vm.findClass own = some m.cls) (hlink : (Cond.methodLink own index y).before args s = true) (hstat : (Cond.static y).before args s = true) (hinit : (Cond.initialized y.cls).before args s = true)
    (hcode : (Cond.code y bytes maxL ret).before args s = true) (hy : y.cls ≠ "java/lang/invoke/MethodHandle" ∧ y.cls ≠ "java/lang/invoke/VarHandle")
    {W9 : Nat} {Pre : Pt → Array Value → Prop} {Post : Pt → Array Value → Option Value → Pt → Prop} {PostX : Pt → Array Value → Addr → Pt → Prop} (hK : vx_Back l R p e below s args y 3 W9 Pre Post PostX)
    {g : JFrame} (hg : g.method = m) (hsize : g.locals.size = c.maxLocals) {argsL rest : List Value} (hlen : ∀ sig, parseMethodDescriptor y.desc = some sig → argsL.length = sig.parameters.length)
    (hstack : g.stack = argsL.reverse ++ rest) (hW : 2 * g.monitorRoom + (rest.map fun v => v.category).sum ≤ W9) (hdg : decode c.code g.pc = .ok (.invokestatic index, 3))
    (hpre : ∀ vm₁, s.WarmedH vm₁ → Pre ⟨T.setVm vm₁, locs, cells, slots⟩ argsL.toArray) :
    (∃ (v : Option Value) (vm₁ : Vm) (B : Pt), s.WarmedH vm₁ ∧ Stand p l e R s m args below meth c B.U B.locs B.cells B.slots ∧ Post ⟨T.setVm vm₁, locs, cells, slots⟩ argsL.toArray v B ∧
      ∀ target, Steps p.tables e below (B.U.setTop { g with pc := g.pc + 3, stack := v.toList ++ rest }) target → Steps p.tables e below (T.setTop g) target) ∨
    (∃ (q : Addr) (vm₁ : Vm) (B : Pt), s.WarmedH vm₁ ∧ Stand p l e R s m args below meth c B.U B.locs B.cells B.slots ∧ PostX ⟨T.setVm vm₁, locs, cells, slots⟩ argsL.toArray q B ∧
      Steps p.tables e below (T.setTop g) ((B.U.setTop { g with stack := rest }).pushFrame (.throwing q))) := by
  obtain ⟨mk, hnamed⟩ := Cond.code_named hcode
  obtain ⟨methM, cM, hmethM, -, -, -, -, -, -, hsigM⟩ := Cond.code_spec hnamed hcode
  have hstatic : methM.isStatic = true := Cond.static_spec hnamed hmethM hstat
  obtain ⟨kP, hkP, -⟩ := className_of_methodNamed hnamed
  have hinitP : kP.init = .initialized := Cond.initialized_spec (findClass_of_methodNamed hnamed) hkP hinit
  obtain ⟨vm₁, X₁, hstep₁⟩ := X.invokestatic hexec hown hlink hnamed hmethM hstatic hkP hinitP hy (g := g) hg (argsL := argsL) (rest := rest) (hlen _ hsigM) hstack hdg
  rcases hK m meth c ⟨T.setVm vm₁, locs, cells, slots⟩ { g with stack := rest } (.invokestatic index) mk argsL.toArray X₁ hg hsize hdg hW (X₁.named hnamed) (hpre vm₁ X₁.warmed) with ⟨v, B, X', hpost, hsteps⟩ | ⟨q, B, X', hpost, hsteps⟩
  · exact Or.inl ⟨v, vm₁, B, X₁.warmed, X', hpost, fun target h => hstep₁ _ fun acts => by rw [doInvoke_state]; exact hsteps.trans h⟩
  · exact Or.inr ⟨q, vm₁, B, X₁.warmed, X', hpost, hstep₁ _ fun acts => by rw [doInvoke_state]; exact hsteps⟩
end Calls
theorem vx_cls {s : State} {T : State} {vm₁ : Vm} {E : String} {k : ClassId} (hW : s.WarmedH vm₁) (h : (T.setVm vm₁).vm.findClass E = some k) : s.vm.findClass E = some k := by
  have h1 : vm₁.findClass E = some k := h
  rw [hW.alike.findClass] at h1
  exact h1
/-- the method's frame g, with q thrown over it -/
def vx_W (p : Program) (l : Launch) (e : Env) (R : Room) (s : State) (m : MethodId) (args : Array Value) (below : List Frame) (meth : Method) (c : Code) (H : Heap) (locs : List Loc) (cells slots : Nat) (Q : State → Prop) (g : JFrame) (q : Addr) : Prop :=
  ∀ T : State, T.heap = H → Stand p l e R s m args below meth c T locs cells slots → ∃ t, Steps p.tables e below ((T.setTop g).pushFrame (.throwing q)) t ∧ Q t
def vx_Run (p : Program) (l : Launch) (e : Env) (R : Room) (s : State) (m : MethodId) (args : Array Value) (below : List Frame) (meth : Method) (c : Code) (H : Heap) (locs : List Loc) (cells slots mc ms : Nat) (g : JFrame) (rest : List Value) (Qa : State → Outcome → State → Prop) (XC : String → State → State → Prop) (free : Addr → Prop) : Prop :=
  ∀ T : State, T.heap = H → Stand p l e R s m args below meth c T locs cells slots →
    (∃ (v : Option Value) (st₀ t T' : State) (L : List Loc), st₀.heap = H ∧ Stand p l e R s m args below meth c T' (locs ++ L) (cells + mc) (slots + ms) ∧ (∀ q ∈ L, free q.base) ∧ T'.heap = t.heap ∧ T'.vm = t.vm ∧ Qa st₀ (.returned v) t ∧
      Goes p e below T g T' { g with pc := g.pc + 3, stack := v.toList ++ rest }) ∨
    (∃ (q : Addr) (st₀ t T' : State) (L : List Loc) (E : String) (ce : Cell), st₀.heap = H ∧ Stand p l e R s m args below meth c T' (locs ++ L) (cells + mc) (slots + ms) ∧ (∀ z ∈ L, free z.base) ∧ T'.heap = t.heap ∧ T'.vm = t.vm ∧ XC E st₀ t ∧ t.heap[q]? = some ce ∧ ce.vm = .none ∧ s.vm.findClass E = some ce.cls ∧
      Steps p.tables e below (T.setTop g) ((T'.setTop { g with stack := rest }).pushFrame (.throwing q)))
def vx_X {S : Type} (px : S → Prop) (B : String → S → State → Prop) (A : Nat → Prop) : String → State → State → Prop := fun E st t => ∃ u : S, px u ∧ B E u t ∧ va_F A st t
section Runs
variable {p : Program} {l : Launch} {e : Env} {R : Room} {s : State} {m : MethodId} {args : Array Value} {below : List Frame} {meth : Method} {c : Code} {H : Heap} {locs : List Loc} {cells slots : Nat}
variable {y : MethodName} {bytes cc : ByteArray} {maxL nL mc ms n index : Nat} {ret : Option FieldType} {ws : List Cond} {rm : Room} {Pc : Array Value → State → Prop} {Qc : Array Value → State → Outcome → State → Prop} {XC : String → State → State → Prop} {free : Addr → Prop} {Ts : List Cond} {own C : String} {b : Addr} {As rest : List Value} {g : JFrame}
theorem vx_callBack (cb : CallB R s args own index y bytes maxL ret ws rm mc ms n) (hM : vx_Met l y ws rm Pc Qc XC mc ms free) (hbl : FrameBlind Pc) : vx_Back l R p e below s args y 3 8 (PreOf R mc ms Pc) (PostOf Qc mc ms free) (vx_Post XC mc ms free) := by
  obtain ⟨hrc, hrs, hfr, hlo, hws, hcw, -, hini, -⟩ := cb
  exact vx_back (bytes := bytes) (maxL := maxL) (ret := ret) hM hbl hrc hrs hfr hlo hws hcw (fun a' U hW => word_at hW (Or.inl (by first | rfl | simp [Cond.onTables, Cond.keeps, Cond.steady])) hini)
theorem vx_runV (S : CallFix p m c cc nL s args Ts own) (hM : vx_Met l y ws rm Pc Qc XC mc ms free) (cw : CallW R s args own C index y bytes maxL ret ws rm mc ms n) (hp : PreV s H C b Pc As)
    (hg : g.method = m) (hn : As.length = n) (hsize : g.locals.size = nL) (hstack : g.stack = As.reverse ++ .ref b :: rest) (hW : 2 * g.monitorRoom + (rest.map fun v => v.category).sum ≤ 8) (hdg : decode cc g.pc = .ok (.invokevirtual index, 3)) (hf : cells + mc ≤ R.cells ∧ slots + ms ≤ R.slots) :
    vx_Run p l e R s m args below meth c H locs cells slots mc ms g rest (Qc (Value.ref b :: As).toArray) XC free := by
  have hK : vx_Back l R p e below s args y 3 8 (PreOf R mc ms Pc) (PostOf Qc mc ms free) (vx_Post XC mc ms free) := vx_callBack cw.1 hM hp.1
  obtain ⟨⟨-, -, -, -, -, -, hcode, -, hy, hlen, hl⟩, hin, hse⟩ := cw
  obtain ⟨hx, hb, hml, ho, -⟩ := S
  obtain ⟨-, ⟨cellB, hcB, hoB, hclB⟩, hPc⟩ := hp
  intro T hT X
  rcases vx_callV X hx (C := C) (bytes := bytes) (maxL := maxL) (ret := ret) ho hl hin hse hcode hy hK (by rw [hT]; exact hcB) hoB hclB hg (hsize.trans hml.symm) (argsL := As) (rest := rest) (fun sig h => hn.trans (hlen sig h)) hstack hW (by rw [hb]; exact hdg)
    (fun vm₁ hW₁ => ⟨hf.1, hf.2, hPc (T.setVm vm₁) hT hW₁⟩) with ⟨v, vm₁, ⟨U', l2, c2, s2⟩, hW₁, X', ⟨g', mk, t, L, e1, e2, hq, h1, hL, h2, h3⟩, st⟩ | ⟨q, vm₁, ⟨U', l2, c2, s2⟩, hW₁, X', ⟨g', mk, t, L, E, ce, e1, e2, hq, hce, hcv, hcl, h1, hL, h2, h3⟩, st⟩
  · dsimp only [Pt.U, Pt.locs, Pt.cells, Pt.slots] at X' e1 e2 h1 h2 h3 st
    subst h1; subst h2; subst h3
    exact Or.inl ⟨v, (T.setVm vm₁).calling g' mk (Value.ref b :: As).toArray, t, U', L, hT, X', hL, e1, e2, hq, st⟩
  · dsimp only [Pt.U, Pt.locs, Pt.cells, Pt.slots] at X' e1 e2 h1 h2 h3 st hcl
    subst h1; subst h2; subst h3
    exact Or.inr ⟨q, (T.setVm vm₁).calling g' mk (Value.ref b :: As).toArray, t, U', L, E, ce, hT, X', hL, e1, e2, hq, hce, hcv, vx_cls hW₁ hcl, st⟩
theorem vx_runS (S : CallFix p m c cc nL s args Ts own) (hM : vx_Met l y ws rm Pc Qc XC mc ms free) (cw : CallB R s args own index y bytes maxL ret ws rm mc ms n ∧ (Cond.static y).before args s = true) (hp : PreS s H Pc As)
    (hg : g.method = m) (hn : As.length = n) (hsize : g.locals.size = nL) (hstack : g.stack = As.reverse ++ rest) (hW : 2 * g.monitorRoom + (rest.map fun v => v.category).sum ≤ 8) (hdg : decode cc g.pc = .ok (.invokestatic index, 3)) (hf : cells + mc ≤ R.cells ∧ slots + ms ≤ R.slots) :
    vx_Run p l e R s m args below meth c H locs cells slots mc ms g rest (Qc As.toArray) XC free := by
  have hK : vx_Back l R p e below s args y 3 8 (PreOf R mc ms Pc) (PostOf Qc mc ms free) (vx_Post XC mc ms free) := vx_callBack cw.1 hM hp.1
  obtain ⟨⟨-, -, -, -, -, -, hcode, hini, hy, hlen, hl⟩, hstt⟩ := cw
  obtain ⟨hx, hb, hml, ho, -⟩ := S
  intro T hT X
  rcases vx_callS X hx (bytes := bytes) (maxL := maxL) (ret := ret) ho hl hstt hini hcode hy hK hg (hsize.trans hml.symm) (argsL := As) (rest := rest) (fun sig h => hn.trans (hlen sig h)) hstack hW (by rw [hb]; exact hdg)
    (fun vm₁ hW₁ => ⟨hf.1, hf.2, hp.2 (T.setVm vm₁) hT hW₁⟩) with ⟨v, vm₁, ⟨U', l2, c2, s2⟩, hW₁, X', ⟨g', mk, t, L, e1, e2, hq, h1, hL, h2, h3⟩, st⟩ | ⟨q, vm₁, ⟨U', l2, c2, s2⟩, hW₁, X', ⟨g', mk, t, L, E, ce, e1, e2, hq, hce, hcv, hcl, h1, hL, h2, h3⟩, st⟩
  · dsimp only [Pt.U, Pt.locs, Pt.cells, Pt.slots] at X' e1 e2 h1 h2 h3 st
    subst h1; subst h2; subst h3
    exact Or.inl ⟨v, (T.setVm vm₁).calling g' mk As.toArray, t, U', L, hT, X', hL, e1, e2, hq, st⟩
  · dsimp only [Pt.U, Pt.locs, Pt.cells, Pt.slots] at X' e1 e2 h1 h2 h3 st hcl
    subst h1; subst h2; subst h3
    exact Or.inr ⟨q, (T.setVm vm₁).calling g' mk As.toArray, t, U', L, E, ce, hT, X', hL, e1, e2, hq, hce, hcv, vx_cls hW₁ hcl, st⟩
end Runs
section Rows
variable {p : Program} {l : Launch} {e : Env} {R : Room} {s : State} {m : MethodId} {args : Array Value} {below : List Frame} {meth : Method} {c : Code} {H : Heap} {locs : List Loc} {cells slots : Nat} {Q : State → Prop}
variable {mc ms : Nat} {free : Addr → Prop} {A0 A1 : Nat → Prop} {H0 : Heap} {a : Array Value} {pc : Nat} {ls : Array Slot} {st0 rest : List Value}
theorem vx_keep {st₀ t T' : State} {L : List Loc} (h0 : st₀.heap = H) (e1 : T'.heap = t.heap) (hS : va_S A0 H0 H locs) (hA : ∀ q, q < H.size → A1 q → A0 q) (hf : ∀ q, free q → A0 q) (hL : ∀ q ∈ L, free q.base) (hF : va_F A1 st₀ t) :
    H.size ≤ T'.heap.size ∧ (∀ q : Nat, q < H.size → ¬ A1 q → T'.heap[q]? = H[q]?) ∧ va_S A0 H0 T'.heap (locs ++ L) := by
  obtain ⟨hz, hk⟩ := hF
  rw [h0] at hz hk
  exact ⟨by rw [e1]; exact hz, fun q h1 h2 => by rw [e1]; exact hk q h1 h2,
    ⟨Nat.le_trans hS.1 (by rw [e1]; exact hz), fun q h1 h2 => by rw [e1, hk q (Nat.lt_of_lt_of_le h1 hS.1) (fun z => h2 (hA q (Nat.lt_of_lt_of_le h1 hS.1) z))]; exact hS.2.1 q h1 h2, fun q hq => by
      rcases List.mem_append.mp hq with h | h
      · exact hS.2.2 q h
      · exact hf _ (hL q h)⟩⟩
theorem vx_calli {S SX : Type} {post : Int32 → S → Prop} {px : SX → Prop} {B : S → State → Prop} {BX : String → SX → State → Prop} {AX : Nat → Prop} (hr : vx_Run p l e R s m args below meth c H locs cells slots mc ms (F0 m pc ls st0) rest (va_Qi post B A1 a) (vx_X px BX AX) free) (hS : va_S A0 H0 H locs) (hA : ∀ q, q < H.size → A1 q → A0 q) (hf : ∀ q, free q → A0 q) (hAX : ∀ q, q < H.size → AX q → A0 q)
    (kx : ∀ (E : String) (ce : Cell) (q9 : Addr) (u : SX) (t : State) (H1 : Heap) (locs1 : List Loc), t.heap = H1 → s.vm.Alike t.vm → px u → BX E u t → H.size ≤ H1.size → (∀ q : Nat, q < H.size → ¬ AX q → H1[q]? = H[q]?) → va_S A0 H0 H1 locs1 → H1[q9]? = some ce → ce.vm = .none → s.vm.findClass E = some ce.cls → vx_W p l e R s m args below meth c H1 locs1 (cells + mc) (slots + ms) Q (F0 m pc ls rest) q9)
    (kk : ∀ (r : Int32) (u : S) (t : State) (H1 : Heap) (locs1 : List Loc), t.heap = H1 → s.vm.Alike t.vm → post r u → B u t → H.size ≤ H1.size → (∀ q : Nat, q < H.size → ¬ A1 q → H1[q]? = H[q]?) → va_S A0 H0 H1 locs1 → W p l e R s m args below meth c H1 locs1 (cells + mc) (slots + ms) Q (F0 m (pc + 3) ls (.int r :: rest))) : W p l e R s m args below meth c H locs cells slots Q (F0 m pc ls st0) := by
  intro T hT X
  rcases hr T hT X with ⟨v, st₀, t, T', L, h0, X', hL, e1, e2, ⟨⟨r, u, hv, hp, hb⟩, hF⟩, st⟩ | ⟨q, st₀, t, T', L, E, ce, h0, X', hL, e1, e2, ⟨u, hp, hb, hF⟩, hce, hcv, hcl, st⟩
  · cases hv
    obtain ⟨k1, k2, k3⟩ := vx_keep h0 e1 hS hA hf hL hF
    obtain ⟨t2, a1, b1⟩ := kk r u t T'.heap (locs ++ L) e1.symm (by rw [← e2]; exact X'.warmed.alike) hp hb k1 k2 k3 T' rfl X'
    exact ⟨t2, st t2 a1, b1⟩
  · obtain ⟨k1, k2, k3⟩ := vx_keep h0 e1 hS hAX hf hL hF
    obtain ⟨t2, a1, b1⟩ := kx E ce q u t T'.heap (locs ++ L) e1.symm (by rw [← e2]; exact X'.warmed.alike) hp hb k1 k2 k3 (by rw [e1]; exact hce) hcv hcl T' rfl X'
    exact ⟨t2, st.trans a1, b1⟩
theorem vx_calll {S SX : Type} {post : Int64 → S → Prop} {px : SX → Prop} {B : S → State → Prop} {BX : String → SX → State → Prop} {AX : Nat → Prop} (hr : vx_Run p l e R s m args below meth c H locs cells slots mc ms (F0 m pc ls st0) rest (va_Ql post B A1 a) (vx_X px BX AX) free) (hS : va_S A0 H0 H locs) (hA : ∀ q, q < H.size → A1 q → A0 q) (hf : ∀ q, free q → A0 q) (hAX : ∀ q, q < H.size → AX q → A0 q)
    (kx : ∀ (E : String) (ce : Cell) (q9 : Addr) (u : SX) (t : State) (H1 : Heap) (locs1 : List Loc), t.heap = H1 → s.vm.Alike t.vm → px u → BX E u t → H.size ≤ H1.size → (∀ q : Nat, q < H.size → ¬ AX q → H1[q]? = H[q]?) → va_S A0 H0 H1 locs1 → H1[q9]? = some ce → ce.vm = .none → s.vm.findClass E = some ce.cls → vx_W p l e R s m args below meth c H1 locs1 (cells + mc) (slots + ms) Q (F0 m pc ls rest) q9)
    (kk : ∀ (r : Int64) (u : S) (t : State) (H1 : Heap) (locs1 : List Loc), t.heap = H1 → s.vm.Alike t.vm → post r u → B u t → H.size ≤ H1.size → (∀ q : Nat, q < H.size → ¬ A1 q → H1[q]? = H[q]?) → va_S A0 H0 H1 locs1 → W p l e R s m args below meth c H1 locs1 (cells + mc) (slots + ms) Q (F0 m (pc + 3) ls (.long r :: rest))) : W p l e R s m args below meth c H locs cells slots Q (F0 m pc ls st0) := by
  intro T hT X
  rcases hr T hT X with ⟨v, st₀, t, T', L, h0, X', hL, e1, e2, ⟨⟨r, u, hv, hp, hb⟩, hF⟩, st⟩ | ⟨q, st₀, t, T', L, E, ce, h0, X', hL, e1, e2, ⟨u, hp, hb, hF⟩, hce, hcv, hcl, st⟩
  · cases hv
    obtain ⟨k1, k2, k3⟩ := vx_keep h0 e1 hS hA hf hL hF
    obtain ⟨t2, a1, b1⟩ := kk r u t T'.heap (locs ++ L) e1.symm (by rw [← e2]; exact X'.warmed.alike) hp hb k1 k2 k3 T' rfl X'
    exact ⟨t2, st t2 a1, b1⟩
  · obtain ⟨k1, k2, k3⟩ := vx_keep h0 e1 hS hAX hf hL hF
    obtain ⟨t2, a1, b1⟩ := kx E ce q u t T'.heap (locs ++ L) e1.symm (by rw [← e2]; exact X'.warmed.alike) hp hb k1 k2 k3 (by rw [e1]; exact hce) hcv hcl T' rfl X'
    exact ⟨t2, st.trans a1, b1⟩
theorem vx_callf {S SX : Type} {post : UInt32 → S → Prop} {px : SX → Prop} {B : S → State → Prop} {BX : String → SX → State → Prop} {AX : Nat → Prop} (hr : vx_Run p l e R s m args below meth c H locs cells slots mc ms (F0 m pc ls st0) rest (va_Qf post B A1 a) (vx_X px BX AX) free) (hS : va_S A0 H0 H locs) (hA : ∀ q, q < H.size → A1 q → A0 q) (hf : ∀ q, free q → A0 q) (hAX : ∀ q, q < H.size → AX q → A0 q)
    (kx : ∀ (E : String) (ce : Cell) (q9 : Addr) (u : SX) (t : State) (H1 : Heap) (locs1 : List Loc), t.heap = H1 → s.vm.Alike t.vm → px u → BX E u t → H.size ≤ H1.size → (∀ q : Nat, q < H.size → ¬ AX q → H1[q]? = H[q]?) → va_S A0 H0 H1 locs1 → H1[q9]? = some ce → ce.vm = .none → s.vm.findClass E = some ce.cls → vx_W p l e R s m args below meth c H1 locs1 (cells + mc) (slots + ms) Q (F0 m pc ls rest) q9)
    (kk : ∀ (r : UInt32) (u : S) (t : State) (H1 : Heap) (locs1 : List Loc), t.heap = H1 → s.vm.Alike t.vm → post r u → B u t → H.size ≤ H1.size → (∀ q : Nat, q < H.size → ¬ A1 q → H1[q]? = H[q]?) → va_S A0 H0 H1 locs1 → W p l e R s m args below meth c H1 locs1 (cells + mc) (slots + ms) Q (F0 m (pc + 3) ls (.float r :: rest))) : W p l e R s m args below meth c H locs cells slots Q (F0 m pc ls st0) := by
  intro T hT X
  rcases hr T hT X with ⟨v, st₀, t, T', L, h0, X', hL, e1, e2, ⟨⟨r, u, hv, hp, hb⟩, hF⟩, st⟩ | ⟨q, st₀, t, T', L, E, ce, h0, X', hL, e1, e2, ⟨u, hp, hb, hF⟩, hce, hcv, hcl, st⟩
  · cases hv
    obtain ⟨k1, k2, k3⟩ := vx_keep h0 e1 hS hA hf hL hF
    obtain ⟨t2, a1, b1⟩ := kk r u t T'.heap (locs ++ L) e1.symm (by rw [← e2]; exact X'.warmed.alike) hp hb k1 k2 k3 T' rfl X'
    exact ⟨t2, st t2 a1, b1⟩
  · obtain ⟨k1, k2, k3⟩ := vx_keep h0 e1 hS hAX hf hL hF
    obtain ⟨t2, a1, b1⟩ := kx E ce q u t T'.heap (locs ++ L) e1.symm (by rw [← e2]; exact X'.warmed.alike) hp hb k1 k2 k3 (by rw [e1]; exact hce) hcv hcl T' rfl X'
    exact ⟨t2, st.trans a1, b1⟩
theorem vx_calld {S SX : Type} {post : UInt64 → S → Prop} {px : SX → Prop} {B : S → State → Prop} {BX : String → SX → State → Prop} {AX : Nat → Prop} (hr : vx_Run p l e R s m args below meth c H locs cells slots mc ms (F0 m pc ls st0) rest (va_Qd post B A1 a) (vx_X px BX AX) free) (hS : va_S A0 H0 H locs) (hA : ∀ q, q < H.size → A1 q → A0 q) (hf : ∀ q, free q → A0 q) (hAX : ∀ q, q < H.size → AX q → A0 q)
    (kx : ∀ (E : String) (ce : Cell) (q9 : Addr) (u : SX) (t : State) (H1 : Heap) (locs1 : List Loc), t.heap = H1 → s.vm.Alike t.vm → px u → BX E u t → H.size ≤ H1.size → (∀ q : Nat, q < H.size → ¬ AX q → H1[q]? = H[q]?) → va_S A0 H0 H1 locs1 → H1[q9]? = some ce → ce.vm = .none → s.vm.findClass E = some ce.cls → vx_W p l e R s m args below meth c H1 locs1 (cells + mc) (slots + ms) Q (F0 m pc ls rest) q9)
    (kk : ∀ (r : UInt64) (u : S) (t : State) (H1 : Heap) (locs1 : List Loc), t.heap = H1 → s.vm.Alike t.vm → post r u → B u t → H.size ≤ H1.size → (∀ q : Nat, q < H.size → ¬ A1 q → H1[q]? = H[q]?) → va_S A0 H0 H1 locs1 → W p l e R s m args below meth c H1 locs1 (cells + mc) (slots + ms) Q (F0 m (pc + 3) ls (.double r :: rest))) : W p l e R s m args below meth c H locs cells slots Q (F0 m pc ls st0) := by
  intro T hT X
  rcases hr T hT X with ⟨v, st₀, t, T', L, h0, X', hL, e1, e2, ⟨⟨r, u, hv, hp, hb⟩, hF⟩, st⟩ | ⟨q, st₀, t, T', L, E, ce, h0, X', hL, e1, e2, ⟨u, hp, hb, hF⟩, hce, hcv, hcl, st⟩
  · cases hv
    obtain ⟨k1, k2, k3⟩ := vx_keep h0 e1 hS hA hf hL hF
    obtain ⟨t2, a1, b1⟩ := kk r u t T'.heap (locs ++ L) e1.symm (by rw [← e2]; exact X'.warmed.alike) hp hb k1 k2 k3 T' rfl X'
    exact ⟨t2, st t2 a1, b1⟩
  · obtain ⟨k1, k2, k3⟩ := vx_keep h0 e1 hS hAX hf hL hF
    obtain ⟨t2, a1, b1⟩ := kx E ce q u t T'.heap (locs ++ L) e1.symm (by rw [← e2]; exact X'.warmed.alike) hp hb k1 k2 k3 (by rw [e1]; exact hce) hcv hcl T' rfl X'
    exact ⟨t2, st.trans a1, b1⟩
theorem vx_callv {S SX : Type} {post : S → Prop} {px : SX → Prop} {B : S → State → Prop} {BX : String → SX → State → Prop} {AX : Nat → Prop} (hr : vx_Run p l e R s m args below meth c H locs cells slots mc ms (F0 m pc ls st0) rest (va_Qv post B A1 a) (vx_X px BX AX) free) (hS : va_S A0 H0 H locs) (hA : ∀ q, q < H.size → A1 q → A0 q) (hf : ∀ q, free q → A0 q) (hAX : ∀ q, q < H.size → AX q → A0 q)
    (kx : ∀ (E : String) (ce : Cell) (q9 : Addr) (u : SX) (t : State) (H1 : Heap) (locs1 : List Loc), t.heap = H1 → s.vm.Alike t.vm → px u → BX E u t → H.size ≤ H1.size → (∀ q : Nat, q < H.size → ¬ AX q → H1[q]? = H[q]?) → va_S A0 H0 H1 locs1 → H1[q9]? = some ce → ce.vm = .none → s.vm.findClass E = some ce.cls → vx_W p l e R s m args below meth c H1 locs1 (cells + mc) (slots + ms) Q (F0 m pc ls rest) q9)
    (kk : ∀ (u : S) (t : State) (H1 : Heap) (locs1 : List Loc), t.heap = H1 → s.vm.Alike t.vm → post u → B u t → H.size ≤ H1.size → (∀ q : Nat, q < H.size → ¬ A1 q → H1[q]? = H[q]?) → va_S A0 H0 H1 locs1 → W p l e R s m args below meth c H1 locs1 (cells + mc) (slots + ms) Q (F0 m (pc + 3) ls (rest))) : W p l e R s m args below meth c H locs cells slots Q (F0 m pc ls st0) := by
  intro T hT X
  rcases hr T hT X with ⟨v, st₀, t, T', L, h0, X', hL, e1, e2, ⟨⟨u, hv, hp, hb⟩, hF⟩, st⟩ | ⟨q, st₀, t, T', L, E, ce, h0, X', hL, e1, e2, ⟨u, hp, hb, hF⟩, hce, hcv, hcl, st⟩
  · cases hv
    obtain ⟨k1, k2, k3⟩ := vx_keep h0 e1 hS hA hf hL hF
    obtain ⟨t2, a1, b1⟩ := kk u t T'.heap (locs ++ L) e1.symm (by rw [← e2]; exact X'.warmed.alike) hp hb k1 k2 k3 T' rfl X'
    exact ⟨t2, st t2 a1, b1⟩
  · obtain ⟨k1, k2, k3⟩ := vx_keep h0 e1 hS hAX hf hL hF
    obtain ⟨t2, a1, b1⟩ := kx E ce q u t T'.heap (locs ++ L) e1.symm (by rw [← e2]; exact X'.warmed.alike) hp hb k1 k2 k3 (by rw [e1]; exact hce) hcv hcl T' rfl X'
    exact ⟨t2, st.trans a1, b1⟩
/-- caught by the row x of this method's table; the rows ahead don't take it -/
theorem vx_catch {own name : String} {E : String} {ce : Cell} {q : Addr} (hown : s.vm.findClass own = some m.cls) (pre : List ExceptionTableEntry) (x : ExceptionTableEntry) (suf : List ExceptionTableEntry) (hsplit : c.exceptionTable.toList = pre ++ x :: suf)
    (hpass : ∀ z ∈ pre, covers z pc = false ∨ (z.catchType ≠ 0 ∧ ∃ nm : String, (Cond.classLink own z.catchType nm).before args s = true ∧ va_Nc E nm s)) (hx : covers x pc = true) (h0 : x.catchType ≠ 0)
    (hlink : (Cond.classLink own x.catchType name).before args s = true) (hcast : (Cond.castable E name).before args s = true) (hcell : H[q]? = some ce) (hv : ce.vm = .none) (hcl : s.vm.findClass E = some ce.cls)
    (kk : W p l e R s m args below meth c H locs cells slots Q (F0 m x.handlerPc ls [.ref q])) : vx_W p l e R s m args below meth c H locs cells slots Q (F0 m pc ls rest) q := by
  intro T hT X
  have hpl : e.platform.magicAccessors = ({} : Platform).magicAccessors := by rw [X.admits.platform]
  obtain ⟨c3, c4, hc3, hc4, hasg⟩ := Cond.castable_spec hcast
  cases Option.some.inj (hc3.symm.trans hcl)
  obtain ⟨c5, hc5, hcl5⟩ := Cond.classLink_spec hown hlink e.platform hpl
  cases Option.some.inj (hc4.symm.trans hc5)
  obtain ⟨vm', X', st⟩ := X.thenCaughtThrough q (g := F0 m pc ls rest) rfl (Steps.refl _) (by rw [hT]; exact hcell) (by rw [hv]; rfl) (by obtain ⟨k9, h9, -⟩ := Vm.findClass_spec hcl; exact ⟨k9, h9⟩) pre x suf hsplit
    (fun z hz => by
      rcases hpass z hz with h | ⟨hz0, nm, hl1, hn1⟩
      · exact Or.inl h
      · obtain ⟨c6, hc6, hcl6⟩ := Cond.classLink_spec hown hl1 e.platform hpl
        obtain ⟨a8, b8, h1, h2, h3⟩ := hn1
        cases Option.some.inj (h1.symm.trans hcl)
        cases Option.some.inj (h2.symm.trans hc6)
        exact Or.inr ⟨hz0, _, hcl6, h3⟩) hx (Or.inr ⟨h0, c4, hcl5, hasg⟩)
  obtain ⟨t, a1, b1⟩ := kk (T.setVm vm') hT X'
  exact ⟨t, st.trans a1, b1⟩
end Rows
section Ends
variable {p : Program} {l : Launch} {e : Env} {R : Room} {s : State} {m : MethodId} {args : Array Value} {below : List Frame} {meth : Method} {c : Code} {H : Heap} {locs : List Loc} {cells slots : Nat} {Q : State → Prop}
variable {mc ms : Nat} {free : Addr → Prop} {A0 A1 : Nat → Prop} {H0 : Heap} {a : Array Value} {ls : Array Slot} {st0 rest : List Value}
variable {Qc : Array Value → State → Outcome → State → Prop} {XC : String → State → State → Prop}
/-- what a body that may throw owes at its end -/
def vx_MQ (below : List Frame) (Qc : Array Value → State → Outcome → State → Prop) (XC : String → State → State → Prop) (a : Array Value) (s : State) (mc ms : Nat) (free : Addr → Prop) : State → Prop := fun t =>
  ∃ o, t.status = .running ∧ Ended t below o ∧ vx_Q Qc XC mc ms free a s o t
theorem vx_ret {g : JFrame} {mc ms : Nat} (k : W p l e R s m args below meth c H locs cells slots (MQ below Qc args s mc ms free) g) : W p l e R s m args below meth c H locs cells slots (vx_MQ below Qc XC args s mc ms free) g := by
  intro T hT X
  obtain ⟨t, a1, o, b1, b2, b3, b4⟩ := k T hT X
  exact ⟨t, a1, o, b1, b2, Or.inl ⟨b3, b4⟩⟩
/-- not caught here: it goes on to the caller -/
theorem vx_widen {g : JFrame} {q : Addr} {k n : Nat} (h1 : cells ≤ k) (h2 : slots ≤ n) (kk : vx_W p l e R s m args below meth c H locs k n Q g q) : vx_W p l e R s m args below meth c H locs cells slots Q g q := fun T hT X => kk T hT (stand_widen X h1 h2)
theorem vx_out {pc : Nat} {E : String} {ce : Cell} {q : Addr} {mc ms : Nat} (hout : ∀ x ∈ c.exceptionTable.toList, covers x pc = false) (hlocks : meth.locks = false) (hcell : H[q]? = some ce) (hv : ce.vm = .none) (hcl : s.vm.findClass E = some ce.cls)
    (hx : ∀ t : State, t.heap = H → s.vm.Alike t.vm → XC E s t) (hf : ∀ z ∈ locs, free z.base) (hc : cells ≤ mc) (hs : slots ≤ ms) :
    vx_W p l e R s m args below meth c H locs cells slots (vx_MQ below Qc XC args s mc ms free) (F0 m pc ls rest) q := by
  intro T hT X
  obtain ⟨st1, hrun, hend, hW, hsm⟩ := X.leaveThrown q (g := F0 m pc ls rest) rfl rfl rfl hout hlocks
  have hcell9 : (T.setFrames (.throwing q :: below)).heap[q]? = some ce := by
    show T.heap[q]? = some ce
    rw [hT]; exact hcell
  exact ⟨_, st1, .threw q, hrun, hend, Or.inr ⟨q, rfl, E, ce, locs, hx _ hT hW.alike, hcell9, hv, hcl, hW, hsm.mono hc hs, hf⟩⟩
theorem vx_frame {U : State} {k n : Nat} (h : s.sameButNew ({ U with vm := s.vm } : State) locs k n) : s.heap.size ≤ U.heap.size ∧ ∀ q : Nat, q < s.heap.size → (∀ z ∈ locs, z.base ≠ q) → U.heap[q]? = s.heap[q]? := by
  obtain ⟨-, h2, -, -, -, h6⟩ := h
  refine ⟨h2, fun q hq hz => ?_⟩
  obtain ⟨c9, e1, e2, e3, e4⟩ := h6 q _ (Array.getElem?_eq_getElem hq)
  have hs : c9.slots = (s.heap[q]).slots := Array.ext_getElem? fun i => e4 i fun hm => hz _ hm rfl
  have h9 : c9 = s.heap[q] := by
    rw [hs] at e2
    exact e2
  have e5 : U.heap[q]? = some c9 := e1
  rw [e5, h9, Array.getElem?_eq_getElem hq]
/-- the words of a throw but the four that speak of the heap -/
def vx_no (w : Cond) : Bool := decide (w ≠ .isRef (.static Bundle.tN "UNASSIGNED_STACK" Bundle.steD)) && decide (w ≠ .isRef (.static Bundle.tN "SUPPRESSED_SENTINEL" Bundle.listD)) && decide (w ≠ .laysStatic Bundle.tN "UNASSIGNED_STACK" Bundle.steD) && decide (w ≠ .laysStatic Bundle.tN "SUPPRESSED_SENTINEL" Bundle.listD)
def vx_at0 (own : String) (ic : Nat) (X : String) (names : List String) : List Cond := (Bundle.ownAtoms0 own ic X names).filter vx_no
def vx_atS (own : String) (ic : Nat) (X : String) (names : List String) : List Cond := (Bundle.ownAtoms own ic X names).filter vx_no
/-- a word that the tables alone decide, or a good one -/
def vx_ot (w : Cond) : Bool := w.onTables || goodWord w
theorem vx_ot_at {args a' : Array Value} {s U : State} {w : Cond} (hW : s.WarmedH U.vm) (hvm : s.vm = U.vm) (hg : vx_ot w = true) (h : w.before args s = true) : w.before a' U = true := by
  simp only [vx_ot, Bool.or_eq_true] at hg
  rcases hg with hg | hg
  · exact va_tabs hg hvm h
  · exact word_at hW (good_of_word hg) h
/-- a list's words: the good ones out of the method's own list, the others by premises of their own -/
theorem vx_hat {args : Array Value} {s : State} {L B : List Cond} (h1 : ∀ w ∈ L.filter goodWord, w.before args s = true) (h2 : ∀ w ∈ L.filter (fun w => !goodWord w), w ∈ B) (h3 : ∀ w ∈ B, w.before args s = true) : ∀ w ∈ L, w.before args s = true := by
  intro w hw
  by_cases g : goodWord w = true
  · exact h1 w (List.mem_filter.mpr ⟨hw, g⟩)
  · refine h3 w (h2 w (List.mem_filter.mpr ⟨hw, ?_⟩))
    show (!goodWord w) = true
    cases hgw : goodWord w
    · rfl
    · exact absurd hgw g
theorem vx_c {args : Array Value} {s : State} {w : Cond} {B : List Cond} (h : w.before args s = true) (t : ∀ w ∈ B, w.before args s = true) : ∀ w' ∈ w :: B, w'.before args s = true := fun w' h' => (List.mem_cons.mp h').elim (fun e => by rw [e]; exact h) (t w')
theorem vx_n {args : Array Value} {s : State} : ∀ w ∈ ([] : List Cond), w.before args s = true := fun _ h => nomatch h
theorem vx_own {args : Array Value} {s : State} {L : List Cond} (h1 : ∀ w ∈ L.filter vx_no, w.before args s = true)
    (hU : (Cond.isRef (.static Bundle.tN "UNASSIGNED_STACK" Bundle.steD)).before args s = true) (hN : (Cond.isRef (.static Bundle.tN "SUPPRESSED_SENTINEL" Bundle.listD)).before args s = true)
    (lU : (Cond.laysStatic Bundle.tN "UNASSIGNED_STACK" Bundle.steD).before args s = true) (lN : (Cond.laysStatic Bundle.tN "SUPPRESSED_SENTINEL" Bundle.listD).before args s = true) : ∀ w ∈ L, w.before args s = true := by
  intro w hw
  by_cases e1 : w = .isRef (.static Bundle.tN "UNASSIGNED_STACK" Bundle.steD)
  · rw [e1]; exact hU
  · by_cases e2 : w = .isRef (.static Bundle.tN "SUPPRESSED_SENTINEL" Bundle.listD)
    · rw [e2]; exact hN
    · by_cases e3 : w = .laysStatic Bundle.tN "UNASSIGNED_STACK" Bundle.steD
      · rw [e3]; exact lU
      · by_cases e4 : w = .laysStatic Bundle.tN "SUPPRESSED_SENTINEL" Bundle.listD
        · rw [e4]; exact lN
        · exact h1 w (List.mem_filter.mpr ⟨hw, by unfold vx_no; rw [decide_eq_true e1, decide_eq_true e2, decide_eq_true e3, decide_eq_true e4]; rfl⟩)
/-- where a static field lies, its class's statics cell in H -/
def vx_L (C n d : String) (A : Nat → Prop) (U : State) (H : Heap) : Prop := ∃ (c : ClassId) (k : Class) (i : Nat) (f : Field) (a : Nat) (cell : Cell), U.vm.findClass C = some c ∧ U.fieldFound? C n d = some (c, k, i, f) ∧ f.isStatic = true ∧ k.statics = some a ∧ H[a]? = some cell ∧ cell.vm.isStatics = true ∧ cell.cls = c ∧ f.slot < cell.slots.size ∧ k.staticTypes[f.slot]? = some f.type ∧ ¬ A a
theorem vx_L.moved {C n d : String} {A : Nat → Prop} {u U : State} {H : Heap} (hvm : u.vm.Alike U.vm) (h : vx_L C n d A u H) : vx_L C n d A U H := by
  obtain ⟨c, k, i, f, a, cell, h1, h2, h3, h4, h5, h6, h7, h8, h9, h10⟩ := h
  obtain ⟨k', hi', he⟩ := State.fieldFound?_setVm hvm h2
  exact ⟨c, k', i, f, a, cell, by rw [hvm.findClass]; exact h1, hi', h3, by rw [he]; exact h4, h5, h6, h7, h8, by rw [he]; exact h9, h10⟩
theorem vx_L.kept {C n d : String} {A : Nat → Prop} {U : State} {H H1 : Heap} (h : vx_L C n d A U H) (hq : ∀ a : Nat, a < H.size → ¬ A a → H1[a]? = H[a]?) : vx_L C n d A U H1 := by
  obtain ⟨c, k, i, f, a, cell, h1, h2, h3, h4, h5, h6, h7, h8, h9, h10⟩ := h
  exact ⟨c, k, i, f, a, cell, h1, h2, h3, h4, by rw [hq a (Array.getElem?_eq_some_iff.mp h5).1 h10]; exact h5, h6, h7, h8, h9, h10⟩
theorem vx_L.narrow {C n d : String} {A B : Nat → Prop} {U : State} {H : Heap} (h : vx_L C n d A U H) (hAB : ∀ q, B q → A q) : vx_L C n d B U H := by
  obtain ⟨c, k, i, f, a, cell, h1, h2, h3, h4, h5, h6, h7, h8, h9, h10⟩ := h
  exact ⟨c, k, i, f, a, cell, h1, h2, h3, h4, h5, h6, h7, h8, h9, fun z => h10 (hAB _ z)⟩
theorem vx_L.word {C n d : String} {A : Nat → Prop} {s : State} {args : Array Value} (h : vx_L C n d A s s.heap) : (Cond.laysStatic C n d).before args s = true := by
  obtain ⟨c, k, i, f, a, cell, h1, h2, h3, h4, h5, h6, h7, h8, h9, -⟩ := h
  show (Cond.laysStatic C n d).holds args s none s [] = true
  exact Cond.laysStatic_of h1 h2 h3 h4 h5 h6 h7 h8 h9
/-- .. and what it holds: null or some reference -/
def vx_Zq (C n d : String) (A : Nat → Prop) (U : State) (H : Heap) : Prop := va_Zq C n d A U H ∧ vx_L C n d A U H
theorem vx_Zq.moved {C n d : String} {A : Nat → Prop} {u U : State} {H : Heap} (hvm : u.vm.Alike U.vm) (h : vx_Zq C n d A u H) : vx_Zq C n d A U H := ⟨va_Zq.moved hvm h.1, vx_L.moved hvm h.2⟩
theorem vx_Zq.kept {C n d : String} {A : Nat → Prop} {U : State} {H H1 : Heap} (h : vx_Zq C n d A U H) (hq : ∀ a : Nat, a < H.size → ¬ A a → H1[a]? = H[a]?) : vx_Zq C n d A U H1 := ⟨va_Zq.kept h.1 hq, vx_L.kept h.2 hq⟩
theorem vx_Zq.narrow {C n d : String} {A B : Nat → Prop} {U : State} {H : Heap} (h : vx_Zq C n d A U H) (hAB : ∀ q, B q → A q) : vx_Zq C n d B U H := ⟨va_Zq.narrow h.1 hAB, vx_L.narrow h.2 hAB⟩
theorem vx_Zqof {args : Array Value} {s : State} {C n d : String} {A : Nat → Prop} (hl : (Cond.laysStatic C n d).before args s = true) (hini : (Cond.initialized C).before args s = true) (h : (Cond.isRef (.static C n d)).before args s = true) (hA : ∀ a : Nat, a < s.heap.size → ¬ A a) : vx_Zq C n d A s s.heap := by
  refine ⟨va_Zqof hl hini h hA, ?_⟩
  obtain ⟨c, k, i, f, a, cell, h1, h2, h3, h4, h5, h6, h7, h8, h9⟩ := Cond.laysStatic_spec hl
  exact ⟨c, k, i, f, a, cell, h1, h2, h3, h4, h5, h6, h7, h8, h9, hA a (Array.getElem?_eq_some_iff.mp h5).1⟩
theorem vx_isRef {C n d : String} {v : Value} {A : Nat → Prop} {s : State} {args : Array Value} (h : va_Z C n d v A s s.heap) (hv : v.isRef = true) : (Cond.isRef (.static C n d)).before args s = true := by
  obtain ⟨cf, kf, fi, f, a, cell, h1, h2, h3, h4, h5, h6, h7, -⟩ := h
  have he : (Term.static C n d).eval args s none [] s = some v := by
    simp [Term.eval, State.fieldNamed?, h1, h2, h4, h5, h6, h7]
  simp only [Cond.before, Cond.holds, Cond.value, he]
  cases v <;> simp_all [Value.isRef]
theorem vx_isRefq {C n d : String} {A : Nat → Prop} {s : State} {args : Array Value} (h : va_Zq C n d A s s.heap) : (Cond.isRef (.static C n d)).before args s = true := by
  rcases h with h | ⟨t, h⟩
  · exact vx_isRef h rfl
  · exact vx_isRef h rfl
/-- the same frame, seen from here: as if the method were called anew in this heap -/
theorem vx_rebase {T : State} (X : Stand p l e R s m args below meth c T locs cells slots) {R' : Room} (hf : R'.frames ≤ R.frames) (hl : R'.locals ≤ R.locals) (hc : cells + R'.cells ≤ R.cells) (hs : slots + R'.slots ≤ R.slots) :
    Stand p l e R' ((T.setVm s.vm).setFrames (.invoking m args :: below)) m args below meth c T [] 0 0 := by
  have htop : (T.setVm s.vm).topJava?.isSome := X.here.top
  have hF : ((T.setVm s.vm).setFrames (.invoking m args :: below)).frames = .invoking m args :: below := State.frames_setFrames _ (State.cur_lt_of_top htop)
  obtain ⟨g₀, hg0⟩ := Option.isSome_iff_exists.mp htop
  obtain ⟨r, hr⟩ := State.topJava?_eq_some.mp hg0
  have hl9 : e.platform.stackLimits (T.setVm s.vm).me = e.platform.stackLimits s.me := X.limits
  have hb9 : (T.setVm s.vm).me.stackBytes = s.me.stackBytes := X.bytes
  refine ⟨X.admits, X.cas, X.clock, hF, ?_, X.hears, X.method, X.code, X.here, X.tail, X.warmed, ?_, ?_, ?_⟩
  · have h := X.room
    have hU : ((T.setVm s.vm).setFrames (.invoking m args :: below)).localsInUse = s.localsInUse := by
      rw [State.localsInUse_invoking hF (meth := meth) (c := c) X.method X.code, State.localsInUse_invoking X.frames X.method X.code]
    simp only [State.hasRoom, Bool.and_eq_true, decide_eq_true_eq] at h ⊢
    obtain ⟨⟨⟨⟨h1, h2, h3, h4, h5, h6⟩, h7⟩, h8⟩, h9⟩ := h
    rw [X.frames, List.length_cons] at h2 h3
    have q1 := X.heapSize
    have q2 := X.used
    simp only [hF, hU, List.length_cons, State.stackLimits_setFrames, State.stackBytes_setFrames, hl9, hb9]
    refine ⟨⟨⟨⟨by omega, by omega, by omega, by omega, by omega, h6⟩, ?_⟩, ?_⟩, X.book⟩
    · show T.heap.size + R'.cells ≤ e.platform.maxCells
      omega
    · show T.slotsUsed + R'.slots ≤ e.platform.maxSlots
      omega
  · rw [State.stackLimits_setFrames]; rfl
  · rw [State.stackBytes_setFrames]; rfl
  · refine ⟨?_, Nat.le_refl _, Nat.le_refl _, ?_, ?_, fun a c9 h9 => ⟨c9, h9, rfl, rfl, fun _ _ => rfl⟩⟩
    · obtain ⟨t, ht, -⟩ := State.frames_cons hr
      show T.setVm s.vm = { ((T.setVm s.vm).setFrames (.invoking m args :: below)).setFrames (T.setVm s.vm).frames with heap := T.heap, slotsUsed := T.slotsUsed }
      rw [State.setFrames_setFrames, State.setFrames_self ht]
      rfl
    · show T.slotsUsed = T.slotsUsed + ((T.heap.toList.drop T.heap.size).map (·.slots.size)).sum
      rw [List.drop_eq_nil_of_le (Nat.le_of_eq Array.length_toList)]
      rfl
    · show ((T.heap.toList.drop T.heap.size).map (·.slots.size)).sum ≤ 0
      rw [List.drop_eq_nil_of_le (Nat.le_of_eq Array.length_toList)]
      exact Nat.le_refl _
/-- 'throw new E()': new; dup; invokespecial; athrow -/
theorem vx_throw0 {cc : ByteArray} {pc : Nat} (hexec : p.tables.exec = Jvm.exec) (hb : c.code = cc) (hl : l.stackTraces = false) {own cls : String} {names : List String} {ik ic mc ms : Nat} {A : Nat → Prop}
    (hown : s.vm.findClass own = some m.cls) (hcls : Bundle.fit cls = true) (hnames : ∀ n ∈ names, Bundle.fit n = true)
    (hk : (Cond.classLink own ik cls).before args s = true) (hini : (Cond.initialized cls).before args s = true) (hat : ∀ w ∈ vx_at0 own ic cls names, w.before args s = true)
    (hgood : ∀ w ∈ Cond.classLink own ik cls :: Cond.initialized cls :: vx_at0 own ic cls names, vx_ot w = true)
    (hU : vx_Zq Bundle.tN "UNASSIGNED_STACK" Bundle.steD A s s.heap) (hN : vx_Zq Bundle.tN "SUPPRESSED_SENTINEL" Bundle.listD A s s.heap) (hS : va_S A s.heap H locs) (hsize : ls.size = c.maxLocals)
    (d0 : decode cc pc = .ok (.new ik, 3)) (d3 : decode cc (pc + 3) = .ok (.dup, 1)) (d4 : decode cc (pc + 4) = .ok (.invokespecial ic, 3)) (d7 : decode cc (pc + 7) = .ok (.athrow, 1))
    (hout : ∀ x ∈ c.exceptionTable.toList, covers x (pc + 7) = false)
    (hRframes : names.length + 3 < R.frames) (hRlocals : (rest.map fun v => v.category).sum + (13 * (names.length + 1) + 42) ≤ R.locals) (hRcells : cells + 1 ≤ R.cells) (hRslots : slots + 6 ≤ R.slots) (hlocks : meth.locks = false)
    (hx : ∀ t : State, s.vm.Alike t.vm → H.size ≤ t.heap.size → (∀ q : Nat, q < H.size → t.heap[q]? = H[q]?) → XC cls s t)
    (hf : ∀ z ∈ locs, free z.base) (hc : cells + 1 ≤ mc) (hs : slots + 6 ≤ ms) :
    W p l e R s m args below meth c H locs cells slots (vx_MQ below Qc XC args s mc ms free) (F0 m pc ls rest) := by
  intro T hT X
  have htr : e.platform.stackTraces = false := (show e.platform.stackTraces = l.stackTraces by rw [X.admits.platform]).trans hl
  have Y := vx_rebase X (R' := { frames := R.frames, locals := R.locals, cells := 1, slots := 6 }) (Nat.le_refl _) (Nat.le_refl _) hRcells hRslots
  obtain ⟨s', hA⟩ : ∃ z, z = (T.setVm s.vm).setFrames (.invoking m args :: below) := ⟨_, rfl⟩
  rw [← hA] at Y
  have hvm : s'.vm = s.vm := by rw [hA]; rfl
  have hhp : s'.heap = H := by rw [hA]; exact hT
  have hW0 : s.WarmedH s'.vm := by rw [hvm]; exact State.WarmedH.refl s
  have hat' : ∀ w ∈ vx_at0 own ic cls names, w.before args s' = true := fun w hw => vx_ot_at hW0 hvm.symm (hgood w (List.mem_cons_of_mem _ (List.mem_cons_of_mem _ hw))) (hat w hw)
  have hk' : (Cond.classLink own ik cls).before args s' = true := vx_ot_at hW0 hvm.symm (hgood _ List.mem_cons_self) hk
  have hini' : (Cond.initialized cls).before args s' = true := vx_ot_at hW0 hvm.symm (hgood _ (List.mem_cons_of_mem _ List.mem_cons_self)) hini
  have hU' : vx_Zq Bundle.tN "UNASSIGNED_STACK" Bundle.steD A s' s'.heap := by rw [hhp]; exact vx_Zq.moved hW0.alike (hU.kept hS.2.1)
  have hN' : vx_Zq Bundle.tN "SUPPRESSED_SENTINEL" Bundle.listD A s' s'.heap := by rw [hhp]; exact vx_Zq.moved hW0.alike (hN.kept hS.2.1)
  have h : ∀ w ∈ Bundle.ownAtoms0 own ic cls names, w.before args s' = true := vx_own hat' (vx_isRefq hU'.1) (vx_isRefq hN'.1) hU'.2.word hN'.2.word
  have hown' : s'.vm.findClass own = some m.cls := by rw [hvm]; exact hown
  have hins : (Cond.instantiable cls 6).before args s' = true := h _ (by simp [Bundle.ownAtoms0])
  obtain ⟨vm₁, cX, kX, hfX, hkX, -, -, X₁, st1⟩ := Y.newCold hexec (own := own) (C := cls) (index := ik) (n := 6) hown' hk' hins hini'
    (g := F0 m pc ls rest) rfl (by rw [hb]; exact d0) (Nat.le_refl _) (Nat.le_refl _)
  generalize hT1 : (T.setVm vm₁).pushCell { cls := cX, slots := kX.instanceTypes.map defaultValue, vm := .none } = T1 at X₁ st1
  have hcat : (Value.ref T.heap.size).category = 1 := rfl
  have hcellA : T1.heap[T.heap.size]? = some (freshCell cX kX) := by rw [← hT1]; exact State.heap_pushCell_size _ _
  have d3' : decode c.code (pc + 3) = .ok (.dup, 1) := by rw [hb]; exact d3
  obtain ⟨U, hsteps, hrun, hend, hW, hsame, ce, hce, hO⟩ := X₁.ctorThrow0 hexec htr (own := own) (cls := cls) (names := names) (ic := ic) hown' hcls hnames h (fun x hx => nomatch hx) hfX hkX hcellA (by rw [hhp, hT]; exact Nat.le_refl _)
    (g := { method := m, pc := pc + 4, locals := ls, stack := .ref T.heap.size :: .ref T.heap.size :: rest, locked := none }) rfl hsize rfl rfl (rest := rest) rfl
    (by rw [hb]; exact d4) (by rw [hb]; exact d7) hout hRframes (by simp only [List.map_cons, List.sum_cons, hcat]; omega) hlocks
  obtain ⟨f1, f2⟩ := vx_frame hsame
  rw [hhp] at f1 f2
  have hWs : s.WarmedH U.vm := State.WarmedH.trans hW0 hW
  have hcl : s.vm.findClass cls = some ce.cls := by
    have h9 := hO.cls
    rw [hvm] at h9
    exact h9
  have hall : s.sameButNew ({ U with vm := s.vm } : State) locs mc ms := by
    subst hA
    obtain ⟨e1, e2⟩ := hsame
    rw [State.setFrames_setFrames] at e1
    have h2 : (T.setVm s.vm).sameButNew ({ U with vm := s.vm } : State) [] (0 + 1) (0 + 6) := ⟨e1, e2⟩
    have h3 := X.same.trans h2
    rw [List.append_nil] at h3
    exact h3.mono hc hs
  refine ⟨U, ?_, .threw T.heap.size, hrun, hend, Or.inr ⟨T.heap.size, rfl, cls, ce, locs, hx U hWs.alike f1 (fun q hq => f2 q hq (fun z hz => nomatch hz)), hce, hO.vm, hcl, hWs, hall, hf⟩⟩
  refine st1 _ ?_
  show Steps p.tables e below (T1.setTop { method := m, pc := pc + 3, locals := ls, stack := .ref T.heap.size :: rest, locked := none }) _
  jvm_step X₁.here [X₁.here.top, hexec, d3', Value.category]
  exact hsteps
/-- 'throw new E("text")': new; dup; ldc; invokespecial; athrow -/
theorem vx_throwS {cc : ByteArray} {pc : Nat} (hexec : p.tables.exec = Jvm.exec) (hb : c.code = cc) (hl : l.stackTraces = false) {own cls text : String} {names : List String} {ik is ic mc ms sa : Nat} {A : Nat → Prop}
    (hown : s.vm.findClass own = some m.cls) (hcls : Bundle.fit cls = true) (hnames : ∀ n ∈ names, Bundle.fit n = true)
    (hk : (Cond.classLink own ik cls).before args s = true) (hini : (Cond.initialized cls).before args s = true) (hstr : vk_R own is text sa s) (hat : ∀ w ∈ vx_atS own ic cls names, w.before args s = true)
    (hgood : ∀ w ∈ Cond.classLink own ik cls :: Cond.initialized cls :: vx_atS own ic cls names, vx_ot w = true)
    (hU : vx_Zq Bundle.tN "UNASSIGNED_STACK" Bundle.steD A s s.heap) (hN : vx_Zq Bundle.tN "SUPPRESSED_SENTINEL" Bundle.listD A s s.heap) (hS : va_S A s.heap H locs) (hsize : ls.size = c.maxLocals)
    (d0 : decode cc pc = .ok (.new ik, 3)) (d3 : decode cc (pc + 3) = .ok (.dup, 1)) (d4 : decode cc (pc + 4) = .ok (.ldc is, 2)) (d6 : decode cc (pc + 6) = .ok (.invokespecial ic, 3)) (d9 : decode cc (pc + 9) = .ok (.athrow, 1))
    (hout : ∀ x ∈ c.exceptionTable.toList, covers x (pc + 9) = false)
    (hRframes : names.length + 3 < R.frames) (hRlocals : (rest.map fun v => v.category).sum + (13 * (names.length + 1) + 43) ≤ R.locals) (hRcells : cells + 1 ≤ R.cells) (hRslots : slots + 6 ≤ R.slots) (hlocks : meth.locks = false)
    (hx : ∀ t : State, s.vm.Alike t.vm → H.size ≤ t.heap.size → (∀ q : Nat, q < H.size → t.heap[q]? = H[q]?) → XC cls s t)
    (hf : ∀ z ∈ locs, free z.base) (hc : cells + 1 ≤ mc) (hs : slots + 6 ≤ ms) :
    W p l e R s m args below meth c H locs cells slots (vx_MQ below Qc XC args s mc ms free) (F0 m pc ls rest) := by
  intro T hT X
  have htr : e.platform.stackTraces = false := (show e.platform.stackTraces = l.stackTraces by rw [X.admits.platform]).trans hl
  have Y := vx_rebase X (R' := { frames := R.frames, locals := R.locals, cells := 1, slots := 6 }) (Nat.le_refl _) (Nat.le_refl _) hRcells hRslots
  obtain ⟨s', hA⟩ : ∃ z, z = (T.setVm s.vm).setFrames (.invoking m args :: below) := ⟨_, rfl⟩
  rw [← hA] at Y
  have hvm : s'.vm = s.vm := by rw [hA]; rfl
  have hhp : s'.heap = H := by rw [hA]; exact hT
  have hW0 : s.WarmedH s'.vm := by rw [hvm]; exact State.WarmedH.refl s
  have hat' : ∀ w ∈ vx_atS own ic cls names, w.before args s' = true := fun w hw => vx_ot_at hW0 hvm.symm (hgood w (List.mem_cons_of_mem _ (List.mem_cons_of_mem _ hw))) (hat w hw)
  have hk' : (Cond.classLink own ik cls).before args s' = true := vx_ot_at hW0 hvm.symm (hgood _ List.mem_cons_self) hk
  have hini' : (Cond.initialized cls).before args s' = true := vx_ot_at hW0 hvm.symm (hgood _ (List.mem_cons_of_mem _ List.mem_cons_self)) hini
  have hU' : vx_Zq Bundle.tN "UNASSIGNED_STACK" Bundle.steD A s' s'.heap := by rw [hhp]; exact vx_Zq.moved hW0.alike (hU.kept hS.2.1)
  have hN' : vx_Zq Bundle.tN "SUPPRESSED_SENTINEL" Bundle.listD A s' s'.heap := by rw [hhp]; exact vx_Zq.moved hW0.alike (hN.kept hS.2.1)
  have h : ∀ w ∈ Bundle.ownAtoms own ic cls names, w.before args s' = true := vx_own hat' (vx_isRefq hU'.1) (vx_isRefq hN'.1) hU'.2.word hN'.2.word
  have hown' : s'.vm.findClass own = some m.cls := by rw [hvm]; exact hown
  have hins : (Cond.instantiable cls 6).before args s' = true := h _ (by simp [Bundle.ownAtoms])
  obtain ⟨vm₁, cX, kX, hfX, hkX, -, -, X₁, st1⟩ := Y.newCold hexec (own := own) (C := cls) (index := ik) (n := 6) hown' hk' hins hini'
    (g := F0 m pc ls rest) rfl (by rw [hb]; exact d0) (Nat.le_refl _) (Nat.le_refl _)
  generalize hT1 : (T.setVm vm₁).pushCell { cls := cX, slots := kX.instanceTypes.map defaultValue, vm := .none } = T1 at X₁ st1
  have hcat : (Value.ref T.heap.size).category = 1 := rfl
  have hcellA : T1.heap[T.heap.size]? = some (freshCell cX kX) := by rw [← hT1]; exact State.heap_pushCell_size _ _
  have d3' : decode c.code (pc + 3) = .ok (.dup, 1) := by rw [hb]; exact d3
  have d4' : decode c.code (pc + 4) = .ok (.ldc is, 2) := by rw [hb]; exact d4
  have hstr' : vk_R own is text sa s' := vk_R.warm hW0 hstr
  obtain ⟨U, hsteps, hrun, hend, hW, hsame, ce, hce, hO⟩ := X₁.ctorThrowS hexec htr (own := own) (cls := cls) (names := names) (ic := ic) hown' hcls hnames h (fun x hx => nomatch hx) hfX hkX hcellA (by rw [hhp, hT]; exact Nat.le_refl _) (msg := .ref sa) rfl
    (g := { method := m, pc := pc + 6, locals := ls, stack := .ref sa :: .ref T.heap.size :: .ref T.heap.size :: rest, locked := none }) rfl hsize rfl rfl (rest := rest) rfl
    (by rw [hb]; exact d6) (by rw [hb]; exact d9) hout hRframes (by simp only [List.map_cons, List.sum_cons, hcat]; omega) hlocks
  obtain ⟨f1, f2⟩ := vx_frame hsame
  rw [hhp] at f1 f2
  have hWs : s.WarmedH U.vm := State.WarmedH.trans hW0 hW
  have hcl : s.vm.findClass cls = some ce.cls := by
    have h9 := hO.cls
    rw [hvm] at h9
    exact h9
  have hall : s.sameButNew ({ U with vm := s.vm } : State) locs mc ms := by
    subst hA
    obtain ⟨e1, e2⟩ := hsame
    rw [State.setFrames_setFrames] at e1
    have h2 : (T.setVm s.vm).sameButNew ({ U with vm := s.vm } : State) [] (0 + 1) (0 + 6) := ⟨e1, e2⟩
    have h3 := X.same.trans h2
    rw [List.append_nil] at h3
    exact h3.mono hc hs
  refine ⟨U, ?_, .threw T.heap.size, hrun, hend, Or.inr ⟨T.heap.size, rfl, cls, ce, locs, hx U hWs.alike f1 (fun q hq => f2 q hq (fun z hz => nomatch hz)), hce, hO.vm, hcl, hWs, hall, hf⟩⟩
  refine st1 _ ?_
  show Steps p.tables e below (T1.setTop { method := m, pc := pc + 3, locals := ls, stack := .ref T.heap.size :: rest, locked := none }) _
  jvm_step X₁.here [X₁.here.top, hexec, d3', Value.category]
  exact X₁.ldcString hexec (own := own) (text := text) (index := is) (a := sa) hown' hstr'.1 hstr'.2
    (g := { method := m, pc := pc + 4, locals := ls, stack := .ref T.heap.size :: .ref T.heap.size :: rest, locked := none }) rfl d4' _ hsteps
/-- 'throw new E("text")', the text by a wide index -/
theorem vx_throwSW {cc : ByteArray} {pc : Nat} (hexec : p.tables.exec = Jvm.exec) (hb : c.code = cc) (hl : l.stackTraces = false) {own cls text : String} {names : List String} {ik is ic mc ms sa : Nat} {A : Nat → Prop}
    (hown : s.vm.findClass own = some m.cls) (hcls : Bundle.fit cls = true) (hnames : ∀ n ∈ names, Bundle.fit n = true)
    (hk : (Cond.classLink own ik cls).before args s = true) (hini : (Cond.initialized cls).before args s = true) (hstr : vk_R own is text sa s) (hat : ∀ w ∈ vx_atS own ic cls names, w.before args s = true)
    (hgood : ∀ w ∈ Cond.classLink own ik cls :: Cond.initialized cls :: vx_atS own ic cls names, vx_ot w = true)
    (hU : vx_Zq Bundle.tN "UNASSIGNED_STACK" Bundle.steD A s s.heap) (hN : vx_Zq Bundle.tN "SUPPRESSED_SENTINEL" Bundle.listD A s s.heap) (hS : va_S A s.heap H locs) (hsize : ls.size = c.maxLocals)
    (d0 : decode cc pc = .ok (.new ik, 3)) (d3 : decode cc (pc + 3) = .ok (.dup, 1)) (d4 : decode cc (pc + 4) = .ok (.ldc_w is, 3)) (d7 : decode cc (pc + 7) = .ok (.invokespecial ic, 3)) (d10 : decode cc (pc + 10) = .ok (.athrow, 1))
    (hout : ∀ x ∈ c.exceptionTable.toList, covers x (pc + 10) = false)
    (hRframes : names.length + 3 < R.frames) (hRlocals : (rest.map fun v => v.category).sum + (13 * (names.length + 1) + 43) ≤ R.locals) (hRcells : cells + 1 ≤ R.cells) (hRslots : slots + 6 ≤ R.slots) (hlocks : meth.locks = false)
    (hx : ∀ t : State, s.vm.Alike t.vm → H.size ≤ t.heap.size → (∀ q : Nat, q < H.size → t.heap[q]? = H[q]?) → XC cls s t)
    (hf : ∀ z ∈ locs, free z.base) (hc : cells + 1 ≤ mc) (hs : slots + 6 ≤ ms) :
    W p l e R s m args below meth c H locs cells slots (vx_MQ below Qc XC args s mc ms free) (F0 m pc ls rest) := by
  intro T hT X
  have htr : e.platform.stackTraces = false := (show e.platform.stackTraces = l.stackTraces by rw [X.admits.platform]).trans hl
  have Y := vx_rebase X (R' := { frames := R.frames, locals := R.locals, cells := 1, slots := 6 }) (Nat.le_refl _) (Nat.le_refl _) hRcells hRslots
  obtain ⟨s', hA⟩ : ∃ z, z = (T.setVm s.vm).setFrames (.invoking m args :: below) := ⟨_, rfl⟩
  rw [← hA] at Y
  have hvm : s'.vm = s.vm := by rw [hA]; rfl
  have hhp : s'.heap = H := by rw [hA]; exact hT
  have hW0 : s.WarmedH s'.vm := by rw [hvm]; exact State.WarmedH.refl s
  have hat' : ∀ w ∈ vx_atS own ic cls names, w.before args s' = true := fun w hw => vx_ot_at hW0 hvm.symm (hgood w (List.mem_cons_of_mem _ (List.mem_cons_of_mem _ hw))) (hat w hw)
  have hk' : (Cond.classLink own ik cls).before args s' = true := vx_ot_at hW0 hvm.symm (hgood _ List.mem_cons_self) hk
  have hini' : (Cond.initialized cls).before args s' = true := vx_ot_at hW0 hvm.symm (hgood _ (List.mem_cons_of_mem _ List.mem_cons_self)) hini
  have hU' : vx_Zq Bundle.tN "UNASSIGNED_STACK" Bundle.steD A s' s'.heap := by rw [hhp]; exact vx_Zq.moved hW0.alike (hU.kept hS.2.1)
  have hN' : vx_Zq Bundle.tN "SUPPRESSED_SENTINEL" Bundle.listD A s' s'.heap := by rw [hhp]; exact vx_Zq.moved hW0.alike (hN.kept hS.2.1)
  have h : ∀ w ∈ Bundle.ownAtoms own ic cls names, w.before args s' = true := vx_own hat' (vx_isRefq hU'.1) (vx_isRefq hN'.1) hU'.2.word hN'.2.word
  have hown' : s'.vm.findClass own = some m.cls := by rw [hvm]; exact hown
  have hins : (Cond.instantiable cls 6).before args s' = true := h _ (by simp [Bundle.ownAtoms])
  obtain ⟨vm₁, cX, kX, hfX, hkX, -, -, X₁, st1⟩ := Y.newCold hexec (own := own) (C := cls) (index := ik) (n := 6) hown' hk' hins hini'
    (g := F0 m pc ls rest) rfl (by rw [hb]; exact d0) (Nat.le_refl _) (Nat.le_refl _)
  generalize hT1 : (T.setVm vm₁).pushCell { cls := cX, slots := kX.instanceTypes.map defaultValue, vm := .none } = T1 at X₁ st1
  have hcat : (Value.ref T.heap.size).category = 1 := rfl
  have hcellA : T1.heap[T.heap.size]? = some (freshCell cX kX) := by rw [← hT1]; exact State.heap_pushCell_size _ _
  have d3' : decode c.code (pc + 3) = .ok (.dup, 1) := by rw [hb]; exact d3
  have d4' : decode c.code (pc + 4) = .ok (.ldc_w is, 3) := by rw [hb]; exact d4
  have hstr' : vk_R own is text sa s' := vk_R.warm hW0 hstr
  obtain ⟨U, hsteps, hrun, hend, hW, hsame, ce, hce, hO⟩ := X₁.ctorThrowS hexec htr (own := own) (cls := cls) (names := names) (ic := ic) hown' hcls hnames h (fun x hx => nomatch hx) hfX hkX hcellA (by rw [hhp, hT]; exact Nat.le_refl _) (msg := .ref sa) rfl
    (g := { method := m, pc := pc + 7, locals := ls, stack := .ref sa :: .ref T.heap.size :: .ref T.heap.size :: rest, locked := none }) rfl hsize rfl rfl (rest := rest) rfl
    (by rw [hb]; exact d7) (by rw [hb]; exact d10) hout hRframes (by simp only [List.map_cons, List.sum_cons, hcat]; omega) hlocks
  obtain ⟨f1, f2⟩ := vx_frame hsame
  rw [hhp] at f1 f2
  have hWs : s.WarmedH U.vm := State.WarmedH.trans hW0 hW
  have hcl : s.vm.findClass cls = some ce.cls := by
    have h9 := hO.cls
    rw [hvm] at h9
    exact h9
  have hall : s.sameButNew ({ U with vm := s.vm } : State) locs mc ms := by
    subst hA
    obtain ⟨e1, e2⟩ := hsame
    rw [State.setFrames_setFrames] at e1
    have h2 : (T.setVm s.vm).sameButNew ({ U with vm := s.vm } : State) [] (0 + 1) (0 + 6) := ⟨e1, e2⟩
    have h3 := X.same.trans h2
    rw [List.append_nil] at h3
    exact h3.mono hc hs
  refine ⟨U, ?_, .threw T.heap.size, hrun, hend, Or.inr ⟨T.heap.size, rfl, cls, ce, locs, hx U hWs.alike f1 (fun q hq => f2 q hq (fun z hz => nomatch hz)), hce, hO.vm, hcl, hWs, hall, hf⟩⟩
  refine st1 _ ?_
  show Steps p.tables e below (T1.setTop { method := m, pc := pc + 3, locals := ls, stack := .ref T.heap.size :: rest, locked := none }) _
  jvm_step X₁.here [X₁.here.top, hexec, d3', Value.category]
  exact X₁.ldcStringW hexec (own := own) (text := text) (index := is) (a := sa) hown' hstr'.1 hstr'.2
    (g := { method := m, pc := pc + 4, locals := ls, stack := .ref T.heap.size :: .ref T.heap.size :: rest, locked := none }) rfl d4' _ hsteps
end Ends
section Bodies
variable {l : Launch}
theorem vx_ofW {y : MethodName} {ws ws' : List Cond} {rm : Room} {Pc : Array Value → State → Prop} {Qc : Array Value → State → Outcome → State → Prop} {XC : String → State → State → Prop} {mc ms : Nat} {free : Addr → Prop} {cc : ByteArray} {maxL : Nat} {ret : Option FieldType}
    (hy : plainName y.cls = true) (hw : ws = Cond.code y cc maxL ret :: ws')
    (body : ∀ p e s m args below meth c s₁, BodyLoose p l y (headSpec ws rm) cc maxL ret e s m args below meth c s₁ → c.maxLocals = maxL → (∀ x ∈ c.exceptionTable.toList, False) → Pc args s →
      W p l e (headSpec ws rm).room s m args below meth c s.heap [] 0 0 (vx_MQ below Qc XC args s mc ms free) (entryFrame m args maxL)) : vx_Met l y ws rm Pc Qc XC mc ms free := by
  refine MetFree.of_bodyS (code := cc) (maxLocals := maxL) (ret := ret) hy ?_ ?_
  · intro args s m h hn
    obtain ⟨meth, c, h1, h2, h3, h4, h5, h6, -, -⟩ := Cond.code_spec hn (atoms_spec (ws := ws) h _ (by rw [hw]; exact List.mem_cons_self))
    exact ⟨meth, c, h1, h2, h3, h4, h5, h6⟩
  · intro p e s m args below meth c s₁ B hml hP _
    have hh0 : s₁.heap = s.heap := by rw [B.state]; rfl
    have ht : ∀ x ∈ c.exceptionTable.toList, False := by
      obtain ⟨meth9, c9, h1, h2, -, -, -, -, h7, -⟩ := Cond.code_spec B.named (atoms_spec (ws := ws) B.pre _ (by rw [hw]; exact List.mem_cons_self))
      cases Option.some.inj (h1.symm.trans B.method)
      cases Option.some.inj (h2.symm.trans (Stand.of_body B).code)
      intro x hx
      rw [Array.isEmpty_iff.mp h7] at hx
      cases hx
    obtain ⟨t, a1, o, b1, b2, b3⟩ := body p e s m args below meth c s₁ B hml ht hP s₁ hh0 (Stand.of_body B)
    exact ⟨t, o, a1, b1, b2, b3⟩
/-- the table of a body with handlers -/
theorem vx_table {p : Program} {x y : MethodName} {S : Spec} {cc bytes : ByteArray} {maxL maxL' : Nat} {ret ret' : Option FieldType} {e : Env} {s s₁ : State} {m : MethodId} {args : Array Value} {below : List Frame} {meth : Method} {c : Code} {hh : List (Nat × Nat × Nat × Nat)}
    (B : BodyLoose p l y S cc maxL ret e s m args below meth c s₁) (h : (Cond.codeWith y bytes maxL' ret' hh).before args s = true) : c.exceptionTable.toList = tableOf hh := by
  obtain ⟨m9, meth9, c9, hn9, h1, h2, -, -, h6, -⟩ := Cond.codeWith_spec h
  cases Option.some.inj (hn9.symm.trans B.named)
  cases Option.some.inj (h1.symm.trans B.method)
  cases Option.some.inj (h2.symm.trans (Stand.of_body B).code)
  rw [← h6, table_eq]
end Bodies
end VXA
/-! ===== END ===== -/
/-! ===== BEGIN a static call of a method with an exception table ===== -/
section VXS
variable {p : Program} {l : Launch} {e : Env} {R : Room} {s : State} {m : MethodId} {args : Array Value} {below : List Frame} {meth : Method} {c : Code} {T : State} {H : Heap} {locs : List Loc} {cells slots : Nat}
abbrev vx_CSW (R : Room) (s : State) (args : Array Value) (own : String) (index : Nat) (y : MethodName) (bytes : ByteArray) (maxL : Nat) (ret : Option FieldType) (hh : List (Nat × Nat × Nat × Nat)) (ws : List Cond) (rm : Room) (mc ms n : Nat) : Prop :=
  (rm.cells = mc ∧ rm.slots = ms ∧ rm.frames + 1 ≤ R.frames ∧ 8 + (maxL + 11) + rm.locals ≤ R.locals ∧ (∀ w ∈ ws, ∀ (a' : Array Value) (U : State), s.WarmedH U.vm → w.before a' U = true) ∧ Cond.codeWith y bytes maxL ret hh ∈ ws) ∧
  (Cond.codeWith y bytes maxL ret hh).before args s = true ∧ (Cond.initialized y.cls).before args s = true ∧ (y.cls ≠ "java/lang/invoke/MethodHandle" ∧ y.cls ≠ "java/lang/invoke/VarHandle") ∧
  (∀ sig, parseMethodDescriptor y.desc = some sig → n = sig.parameters.length) ∧ (Cond.methodLink own index y).before args s = true ∧ (Cond.static y).before args s = true
theorem vx_cwSW {own : String} {index maxL mc ms : Nat} {y : MethodName} {bytes : ByteArray} {ret : Option FieldType} {hh : List (Nat × Nat × Nat × Nat)} {Ts ws ws' : List Cond} {rm : Room} (n : Nat) (ht : ∀ w ∈ Ts, w.before args s = true) (hT : GoodIn Ts (va_wsS own index y ws)) (hw : ws = Cond.codeWith y bytes maxL ret hh :: ws') (hrc : rm.cells = mc) (hrs : rm.slots = ms)
    (hd : y.cls ≠ "java/lang/invoke/MethodHandle" ∧ y.cls ≠ "java/lang/invoke/VarHandle" ∧ (parseMethodDescriptor y.desc).map (fun d => d.parameters.length) = some n) (hR : rm.frames + 1 ≤ R.frames ∧ 8 + (maxL + 11) + rm.locals ≤ R.locals) :
    vx_CSW R s args own index y bytes maxL ret hh ws rm mc ms n := by
  have ok : ∀ w ∈ va_wsS own index y ws, w.before args s = true := fun w h => ht w (hT w h).1
  have hG : GoodIn Ts ws := fun w h => hT w (by unfold va_wsS; exact List.mem_append_right _ h)
  have hc : Cond.codeWith y bytes maxL ret hh ∈ ws := by rw [hw]; exact List.mem_cons_self
  refine ⟨⟨hrc, hrs, hR.1, hR.2, pay_in ht hG, hc⟩, ht _ (hG _ hc).1, ok _ (by simp [va_wsS]), ⟨hd.1, hd.2.1⟩, fun sig h => ?_, ok _ (by simp [va_wsS]), ok _ (by simp [va_wsS])⟩
  have h2 := hd.2.2
  rw [h] at h2
  exact (Option.some.inj h2).symm
theorem vx_callSW (X : Stand p l e R s m args below meth c T locs cells slots) (hexec : p.tables.exec = Jvm.exec) {own : String} {index : Nat} {y : MethodName} {bytes : ByteArray} {maxL : Nat} {ret : Option FieldType} {hh : List (Nat × Nat × Nat × Nat)}
    (hown : s.vm.findClass own = some m.cls) (hlink : (Cond.methodLink own index y).before args s = true) (hstat : (Cond.static y).before args s = true) (hinit : (Cond.initialized y.cls).before args s = true)
    (hcode : (Cond.codeWith y bytes maxL ret hh).before args s = true) (hy : y.cls ≠ "java/lang/invoke/MethodHandle" ∧ y.cls ≠ "java/lang/invoke/VarHandle")
    {W9 : Nat} {Pre : Pt → Array Value → Prop} {Post : Pt → Array Value → Option Value → Pt → Prop} (hK : Back l R p e below s args y 3 W9 Pre Post)
    {g : JFrame} (hg : g.method = m) (hsize : g.locals.size = c.maxLocals) {argsL rest : List Value} (hlen : ∀ sig, parseMethodDescriptor y.desc = some sig → argsL.length = sig.parameters.length)
    (hstack : g.stack = argsL.reverse ++ rest) (hW : 2 * g.monitorRoom + (rest.map fun v => v.category).sum ≤ W9) (hdg : decode c.code g.pc = .ok (.invokestatic index, 3))
    (hpre : ∀ vm₁, s.WarmedH vm₁ → Pre ⟨T.setVm vm₁, locs, cells, slots⟩ argsL.toArray) :
    ∃ (v : Option Value) (vm₁ : Vm) (B : Pt), s.WarmedH vm₁ ∧ Stand p l e R s m args below meth c B.U B.locs B.cells B.slots ∧ Post ⟨T.setVm vm₁, locs, cells, slots⟩ argsL.toArray v B ∧
      ∀ target, Steps p.tables e below (B.U.setTop { g with pc := g.pc + 3, stack := v.toList ++ rest }) target → Steps p.tables e below (T.setTop g) target := by
  obtain ⟨mk, methM, cM, hnamed, hmethM, -, -, -, -, -, -, hsigM⟩ := Cond.codeWith_spec hcode
  have hstatic : methM.isStatic = true := Cond.static_spec hnamed hmethM hstat
  obtain ⟨kP, hkP, -⟩ := className_of_methodNamed hnamed
  have hinitP : kP.init = .initialized := Cond.initialized_spec (findClass_of_methodNamed hnamed) hkP hinit
  obtain ⟨vm₁, X₁, hstep₁⟩ := X.invokestatic hexec hown hlink hnamed hmethM hstatic hkP hinitP hy (g := g) hg (argsL := argsL) (rest := rest) (hlen _ hsigM) hstack hdg
  obtain ⟨v, B, X', hpost, hsteps⟩ := hK m meth c ⟨T.setVm vm₁, locs, cells, slots⟩ { g with stack := rest } (.invokestatic index) mk argsL.toArray X₁ hg hsize hdg hW (X₁.named hnamed) (hpre vm₁ X₁.warmed)
  exact ⟨v, vm₁, B, X₁.warmed, X', hpost, fun target h => hstep₁ _ fun acts => by rw [doInvoke_state]; exact hsteps.trans h⟩
theorem vx_runSW {y : MethodName} {bytes cc : ByteArray} {maxL nL mc ms n index : Nat} {ret : Option FieldType} {hh : List (Nat × Nat × Nat × Nat)} {ws : List Cond} {rm : Room} {Pc : Array Value → State → Prop} {Qc : Array Value → State → Outcome → State → Prop} {free : Addr → Prop} {Ts : List Cond} {own : String} {As rest : List Value} {g : JFrame}
    (S : CallFix p m c cc nL s args Ts own) (hM : Met l y ws rm Pc Qc mc ms free) (cw : vx_CSW R s args own index y bytes maxL ret hh ws rm mc ms n) (hp : PreS s H Pc As)
    (hg : g.method = m) (hn : As.length = n) (hsize : g.locals.size = nL) (hstack : g.stack = As.reverse ++ rest) (hW : 2 * g.monitorRoom + (rest.map fun v => v.category).sum ≤ 8) (hdg : decode cc g.pc = .ok (.invokestatic index, 3)) (hf : cells + mc ≤ R.cells ∧ slots + ms ≤ R.slots) :
    va_Run p l e R s m args below meth c H locs cells slots mc ms g rest (Qc As.toArray) (free) := by
  obtain ⟨⟨hrc, hrs, hfr, hlo, hws, hcw⟩, hcode, hini, hy, hlen, hl, hstt⟩ := cw
  have hK : Back l R p e below s args y 3 8 (PreOf R mc ms Pc) (PostOf Qc mc ms free) := va_backW (hh := hh) (bytes := bytes) (maxL := maxL) (ret := ret) hM hp.1 hrc hrs hfr hlo hws hcw (fun a' U hW => word_at hW (Or.inl (by first | rfl | simp [Cond.onTables, Cond.keeps, Cond.steady])) hini)
  obtain ⟨hx, hb, hml, ho, -⟩ := S
  intro T hT X
  obtain ⟨v, vm₁, ⟨U', l2, c2, s2⟩, hW₁, X', ⟨g', mk, t, L, e1, e2, hq, h1, hL, h2, h3⟩, st⟩ := vx_callSW X hx (hh := hh) (bytes := bytes) (maxL := maxL) (ret := ret) ho hl hstt hini hcode hy hK hg (hsize.trans hml.symm) (argsL := As) (rest := rest) (fun sig h => hn.trans (hlen sig h)) hstack hW (by rw [hb]; exact hdg)
    (fun vm₁ hW₁ => ⟨hf.1, hf.2, hp.2 (T.setVm vm₁) hT hW₁⟩)
  dsimp only [Pt.U, Pt.locs, Pt.cells, Pt.slots] at X' e1 e2 h1 h2 h3 st
  subst h1; subst h2; subst h3
  exact ⟨v, (T.setVm vm₁).calling g' mk As.toArray, t, U', L, hT, X', hL, e1, e2, hq, st⟩
/-- not caught here, past rows that name other classes: it goes on to the caller -/
theorem vx_outP {p : Program} {l : Launch} {e : Env} {R : Room} {s : State} {m : MethodId} {args : Array Value} {below : List Frame} {meth : Method} {c : Code} {H : Heap} {locs : List Loc} {cells slots : Nat} {free : Addr → Prop} {ls : Array Slot} {rest : List Value} {Qc : Array Value → State → Outcome → State → Prop} {XC : String → State → State → Prop}
    {pc : Nat} {own E : String} {ce : Cell} {q : Addr} {mc ms : Nat} (hown : s.vm.findClass own = some m.cls) (hlocks : meth.locks = false)
    (hpass : ∀ z ∈ c.exceptionTable.toList, covers z pc = false ∨ (z.catchType ≠ 0 ∧ ∃ nm : String, (Cond.classLink own z.catchType nm).before args s = true ∧ va_Nc E nm s)) (hcell : H[q]? = some ce) (hv : ce.vm = .none) (hcl : s.vm.findClass E = some ce.cls)
    (hx : ∀ t : State, t.heap = H → s.vm.Alike t.vm → XC E s t) (hf : ∀ z ∈ locs, free z.base) (hc : cells ≤ mc) (hs : slots ≤ ms) :
    vx_W p l e R s m args below meth c H locs cells slots (vx_MQ below Qc XC args s mc ms free) (F0 m pc ls rest) q := by
  intro T hT X
  have hpl : e.platform.magicAccessors = ({} : Platform).magicAccessors := by rw [X.admits.platform]
  obtain ⟨vm', hW', X', st⟩ := X.outThrough hlocks q (g := F0 m pc ls rest) rfl rfl rfl (cell := ce) (by rw [hT]; exact hcell) (by rw [hv]; rfl)
    (by obtain ⟨k9, h9, -⟩ := Vm.findClass_spec hcl; exact ⟨k9, h9⟩) (fun z hz => by
      rcases hpass z hz with h | ⟨hz0, nm, hl1, hn1⟩
      · exact Or.inl h
      · obtain ⟨c6, hc6, hcl6⟩ := Cond.classLink_spec hown hl1 e.platform hpl
        obtain ⟨a8, b8, h1, h2, h3⟩ := hn1
        cases Option.some.inj (h1.symm.trans hcl)
        cases Option.some.inj (h2.symm.trans hc6)
        exact Or.inr ⟨hz0, _, hcl6, h3⟩)
  obtain ⟨g₀, hfr⟩ := X'.frames_eq
  have hcell9 : ((T.setVm vm').setFrames (.throwing q :: below)).heap[q]? = some ce := by
    show T.heap[q]? = some ce
    rw [hT]; exact hcell
  have hend : Ended ((T.setVm vm').setFrames (.throwing q :: below)) below (.threw q) := State.frames_setFrames _ (State.cur_lt_of_frames hfr)
  refine ⟨(T.setVm vm').setFrames (.throwing q :: below), ?_, .threw q, X'.here.running, hend, Or.inr ⟨q, rfl, E, ce, locs, hx _ hT (X'.ends _).1.alike, hcell9, hv, hcl, (X'.ends _).1, (X'.ends _).2.mono hc hs, hf⟩⟩
  rw [X.pushThrowing_eq]
  exact st
/-- a thing of a world lies in the heap -/
theorem vx_lt {D : va_G} {cl : List vw_C} {ws : va_W} {H1 : Heap} (h : va_P D cl ws H1) {k : Nat} {q : Nat × va_E} (hk : ws[k]? = some q) : q.1 < H1.size := (h k q hk).lt
end VXS
/-! ===== END ===== -/
/-! ===== BEGIN methods with a table of their own: called by a name, returning or throwing ===== -/
section VXH
/-! vx_backW, vx_callVX, vx_callSX, vx_callVW, vx_runVW, vx_runVX, vx_runSX, vx_ofWH follow the same proofs as their sisters above (Free/Laws.lean, Shelf42/LK1.lean); vx_outP calls Shelf42/NT130.lean (outThrough). -/
section
variable {l : Launch} {R : Room} {p : Program} {e : Env} {below : List Frame} {s : State} {sargs : Array Value} {y : MethodName} {len W9 : Nat}
theorem vx_backW {ws : List Cond} {rm : Room} {Pc : Array Value → State → Prop} {Qc : Array Value → State → Outcome → State → Prop} {XC : String → State → State → Prop} {mc ms : Nat} {free : Addr → Prop} {bytes : ByteArray} {maxL : Nat} {ret : Option FieldType} {hh : List (Nat × Nat × Nat × Nat)}
    (hM : vx_Met l y ws rm Pc Qc XC mc ms free) (hblind : FrameBlind Pc) (hrc : rm.cells = mc) (hrs : rm.slots = ms)
    (hframes : rm.frames + 1 ≤ R.frames) (hlocals : W9 + (maxL + 11) + rm.locals ≤ R.locals)
    (hws : ∀ w ∈ ws, ∀ a' U, s.WarmedH U.vm → w.before a' U = true) (hcode : Cond.codeWith y bytes maxL ret hh ∈ ws) (hinit : ∀ a' U, s.WarmedH U.vm → (Cond.initialized y.cls).before a' U = true) :
    vx_Back l R p e below s sargs y len W9 (PreOf R mc ms Pc) (PostOf Qc mc ms free) (vx_Post XC mc ms free) := by
  intro m meth c A g ig mk a X hg hsize hdg hW hn hp
  have h1 : (headSpec ws rm).pre.before a A.U = true := atoms_intro fun w hw => hws w hw _ _ X.warmed
  have h2 : (Cond.codeWith y bytes maxL ret hh).before a A.U = true := hws _ hcode _ _ X.warmed
  have h3 : (Cond.initialized y.cls).before a A.U = true := hinit _ _ X.warmed
  have h4 : A.cells + (headSpec ws rm).room.cells ≤ R.cells := by rw [show (headSpec ws rm).room.cells = mc from hrc]; exact hp.1
  have h5 : A.slots + (headSpec ws rm).room.slots ≤ R.slots := by rw [show (headSpec ws rm).room.slots = ms from hrs]; exact hp.2.1
  have hPc : Pc a (A.U.calling g mk a) := hblind _ _ _ _ hp.2.2
  obtain ⟨U, Ls, c0, s0⟩ := A
  dsimp only [Pt.U, Pt.locs, Pt.cells, Pt.slots] at h1 h2 h3 h4 h5 X hn hPc ⊢
  obtain ⟨m9, methY, cY, hn9, hmY, hcY, -, hlY, -⟩ := Cond.codeWith_spec h2
  cases Option.some.inj (hn9.symm.trans hn)
  obtain ⟨kY, hkY, -⟩ := className_of_methodNamed hn
  have hinitY : kY.init = .initialized := Cond.initialized_spec (findClass_of_methodNamed hn) hkY h3
  have h : At U g.method c below := by rw [hg]; exact X.here
  have hlocals9 : W9 + (maxL + 11) + (headSpec ws rm).room.locals ≤ R.locals := hlocals
  have happ : (headSpec ws rm).appliesLoose y e.platform (U.calling g mk a) = true :=
    Spec.appliesLoose_calling (g := g) h hdg hn hkY hinitY
      (X.room_calling (g := g) (R' := (headSpec ws rm).room) hsize hmY hcY hframes (by rw [hlY]; omega) h4 h5) h1
  obtain ⟨mid, hmid⟩ := h.above
  have hfr : (U.setTop g).frames = (.java g :: mid) ++ below := by rw [State.frames_setTop' g h.top, hmid]; rfl
  obtain ⟨o, s₂, hsteps, -, hend, hq⟩ := Steps.callFree hM p X.admits X.cas X.clock (acts := []) hfr happ hPc trivial
  have hq' : vx_Q Qc XC mc ms free a (U.calling g mk a) o s₂ := hq
  rw [State.frames_setTop' g h.top] at hend
  obtain ⟨g₀, hg0⟩ := Option.isSome_iff_exists.mp h.top
  obtain ⟨r, hr⟩ := State.topJava?_eq_some.mp hg0
  have hr' : (({ U with heap := s₂.heap, slotsUsed := s₂.slotsUsed } : State).setVm s₂.vm).frames = .java g₀ :: r := hr
  rcases hq' with ⟨hqc, L, hfe, hL⟩ | ⟨q, rfl, E, ce, L, hx, hce, hcv, hcl, hW₂, hsm, hL⟩
  · obtain ⟨⟨v, rfl⟩, hW₂, e2, q2, q3, q4, q5, q6⟩ := id hfe
    have e3 : s₂ = ({ (U.calling g mk a).setFrames s₂.frames with heap := s₂.heap, slotsUsed := s₂.slotsUsed } : State).setVm s₂.vm := by
      have : s₂ = ({ s₂ with vm := (U.calling g mk a).vm } : State).setVm s₂.vm := rfl
      rw [e2] at this
      exact this
    obtain ⟨c₂, i₂, len₂, hc₂, hd₂, hf₂⟩ := hend
    have hW' : U.WarmedH s₂.vm := hW₂
    have hcc : c₂ = c := by
      have h1 : s₂.code? g.method = U.code? g.method := by
        rw [State.code?_eq, State.code?_eq, hW'.alike.method?]
      exact Option.some.inj (hc₂.symm.trans (h1.trans h.code))
    subst hcc
    have hlen : len₂ = len := by rw [hdg] at hd₂; cases hd₂; rfl
    subst hlen
    have hs₂ : s₂ = (({ U with heap := s₂.heap, slotsUsed := s₂.slotsUsed } : State).setVm s₂.vm).setTop { g with pc := g.pc + len₂, stack := v.toList ++ g.stack } := by
      refine e3.trans ?_
      rw [hf₂, State.calling_eq h.top, State.setFrames_setFrames, State.setTop_of_frames _ hr', hr]
      rfl
    have hsame : U.sameButNew ({ U with heap := s₂.heap, slotsUsed := s₂.slotsUsed } : State) L mc ms := by
      refine ⟨?_, q2, q3, q4, q5, q6⟩
      obtain ⟨t, ht, -⟩ := State.frames_cons hr
      show ({ U with heap := s₂.heap, slotsUsed := s₂.slotsUsed } : State) = { U.setFrames U.frames with heap := s₂.heap, slotsUsed := s₂.slotsUsed }
      rw [State.setFrames_self ht]
    subst hg
    refine Or.inl ⟨v, ⟨(({ U with heap := s₂.heap, slotsUsed := s₂.slotsUsed } : State).setVm s₂.vm), Ls ++ L, c0 + mc, s0 + ms⟩,
      ⟨X.admits, X.cas, X.clock, X.frames, X.room, X.hears, X.method, X.code, (X.here.setHeapUsed s₂.heap s₂.slotsUsed).setVm hW'.alike, X.tail, State.WarmedH.trans X.warmed hW', X.limits, X.bytes, X.same.trans (hsame.setVm s.vm)⟩,
      ⟨g, mk, s₂, L, rfl, rfl, hqc, rfl, hL, rfl, rfl⟩, ?_⟩
    show Steps p.tables e below _ ((({ U with heap := s₂.heap, slotsUsed := s₂.slotsUsed } : State).setVm s₂.vm).setTop { g with pc := g.pc + len₂, stack := v.toList ++ g.stack })
    rw [← hs₂]
    exact hsteps
  · obtain ⟨e2, q2, q3, q4, q5, q6⟩ := id hsm
    have e3 : s₂ = ({ (U.calling g mk a).setFrames s₂.frames with heap := s₂.heap, slotsUsed := s₂.slotsUsed } : State).setVm s₂.vm := by
      have : s₂ = ({ s₂ with vm := (U.calling g mk a).vm } : State).setVm s₂.vm := rfl
      rw [e2] at this
      exact this
    have hf₂ : s₂.frames = .throwing q :: .java g :: U.frames.tail := hend
    have hW' : U.WarmedH s₂.vm := hW₂
    have hs₂ : s₂ = ((({ U with heap := s₂.heap, slotsUsed := s₂.slotsUsed } : State).setVm s₂.vm).setTop g).pushFrame (.throwing q) := by
      refine e3.trans ?_
      rw [hf₂, State.calling_eq h.top, State.setFrames_setFrames, State.pushFrame, State.frames_setTop _ hr', State.setTop_of_frames _ hr', State.setFrames_setFrames, hr]
      rfl
    have hsame : U.sameButNew ({ U with heap := s₂.heap, slotsUsed := s₂.slotsUsed } : State) L mc ms := by
      refine ⟨?_, q2, q3, q4, q5, q6⟩
      obtain ⟨t, ht, -⟩ := State.frames_cons hr
      show ({ U with heap := s₂.heap, slotsUsed := s₂.slotsUsed } : State) = { U.setFrames U.frames with heap := s₂.heap, slotsUsed := s₂.slotsUsed }
      rw [State.setFrames_self ht]
    subst hg
    refine Or.inr ⟨q, ⟨(({ U with heap := s₂.heap, slotsUsed := s₂.slotsUsed } : State).setVm s₂.vm), Ls ++ L, c0 + mc, s0 + ms⟩,
      ⟨X.admits, X.cas, X.clock, X.frames, X.room, X.hears, X.method, X.code, (X.here.setHeapUsed s₂.heap s₂.slotsUsed).setVm hW'.alike, X.tail, State.WarmedH.trans X.warmed hW', X.limits, X.bytes, X.same.trans (hsame.setVm s.vm)⟩,
      ⟨g, mk, s₂, L, E, ce, rfl, rfl, hx, hce, hcv, hcl, rfl, hL, rfl, rfl⟩, ?_⟩
    show Steps p.tables e below _ (((({ U with heap := s₂.heap, slotsUsed := s₂.slotsUsed } : State).setVm s₂.vm).setTop g).pushFrame (.throwing q))
    rw [← hs₂]
    exact hsteps
end
variable {p : Program} {l : Launch} {e : Env} {R : Room} {s : State} {m : MethodId} {args : Array Value} {below : List Frame} {meth : Method} {c : Code} {T : State} {H : Heap} {locs : List Loc} {cells slots : Nat}
theorem vx_callVX (X : Stand p l e R s m args below meth c T locs cells slots) (hexec : p.tables.exec = Jvm.exec) {own C : String} {index : Nat} {y : MethodName} {bytes : ByteArray} {maxL : Nat} {ret : Option FieldType} {hh : List (Nat × Nat × Nat × Nat)}
    (hown : s.vm.findClass own = some m.cls) (hlink : (Cond.methodLink own index y).before args s = true) (hinst : (Cond.instanceMethod y).before args s = true) (hsel : (Cond.selects C y y).before args s = true)
    (hcode : (Cond.codeWith y bytes maxL ret hh).before args s = true) (hy : y.cls ≠ "java/lang/invoke/MethodHandle" ∧ y.cls ≠ "java/lang/invoke/VarHandle")
    {W9 : Nat} {Pre : Pt → Array Value → Prop} {Post : Pt → Array Value → Option Value → Pt → Prop} {PostX : Pt → Array Value → Addr → Pt → Prop} (hK : vx_Back l R p e below s args y 3 W9 Pre Post PostX)
    {b : Addr} {cellB : Cell} (hcell : T.heap[b]? = some cellB) (hobj : cellB.vm.isStatics = false) (hcls : s.vm.findClass C = some cellB.cls)
    {g : JFrame} (hg : g.method = m) (hsize : g.locals.size = c.maxLocals) {argsL rest : List Value} (hlen : ∀ sig, parseMethodDescriptor y.desc = some sig → argsL.length = sig.parameters.length)
    (hstack : g.stack = argsL.reverse ++ .ref b :: rest) (hW : 2 * g.monitorRoom + (rest.map fun v => v.category).sum ≤ W9) (hdg : decode c.code g.pc = .ok (.invokevirtual index, 3))
    (hpre : ∀ vm₁, s.WarmedH vm₁ → Pre ⟨T.setVm vm₁, locs, cells, slots⟩ (Value.ref b :: argsL).toArray) :
    (∃ (v : Option Value) (vm₁ : Vm) (B : Pt), s.WarmedH vm₁ ∧ Stand p l e R s m args below meth c B.U B.locs B.cells B.slots ∧ Post ⟨T.setVm vm₁, locs, cells, slots⟩ (Value.ref b :: argsL).toArray v B ∧
      ∀ target, Steps p.tables e below (B.U.setTop { g with pc := g.pc + 3, stack := v.toList ++ rest }) target → Steps p.tables e below (T.setTop g) target) ∨
    (∃ (q : Addr) (vm₁ : Vm) (B : Pt), s.WarmedH vm₁ ∧ Stand p l e R s m args below meth c B.U B.locs B.cells B.slots ∧ PostX ⟨T.setVm vm₁, locs, cells, slots⟩ (Value.ref b :: argsL).toArray q B ∧
      Steps p.tables e below (T.setTop g) ((B.U.setTop { g with stack := rest }).pushFrame (.throwing q))) := by
  obtain ⟨mk, methM, hnamed, hmethM, hstM, habM⟩ := Cond.instanceMethod_spec hinst
  obtain ⟨m8, methM', cM, hn8, hmethM', -, -, -, -, -, -, hsigM⟩ := Cond.codeWith_spec hcode
  cases Option.some.inj (hn8.symm.trans hnamed)
  cases hmethM.symm.trans hmethM'
  obtain ⟨c2, r2, m2, q1, q2, q3, q4, kP, hkP, hkPi⟩ := Cond.selects_spec hsel
  cases hcls.symm.trans q1
  cases (State.methodFound?_of_named hnamed hy).symm.trans q2
  cases hnamed.symm.trans q3
  have hselP : selectMethod e.platform s.vm cellB.cls mk = .method mk := by rw [Launch.admits_selectMethod X.admits]; exact q4
  obtain ⟨vm₁, X₁, hstep₁⟩ := X.invokevirtual hexec hown hlink hnamed hmethM hstM hkP hkPi hy (a := b) (cell := cellB) hcell
    (fun z h => by rw [h] at hobj; cases hobj) hselP hmethM habM hkP hkPi (g := g) hg (argsL := argsL) (rest := rest) (hlen _ hsigM) hstack hdg
  rcases hK m meth c ⟨T.setVm vm₁, locs, cells, slots⟩ { g with stack := rest } (.invokevirtual index) mk (Value.ref b :: argsL).toArray X₁ hg hsize hdg hW (X₁.named hnamed) (hpre vm₁ X₁.warmed) with ⟨v, B, X', hpost, hsteps⟩ | ⟨q, B, X', hpost, hsteps⟩
  · exact Or.inl ⟨v, vm₁, B, X₁.warmed, X', hpost, fun target h => hstep₁ _ fun acts => by rw [doInvoke_state]; exact hsteps.trans h⟩
  · exact Or.inr ⟨q, vm₁, B, X₁.warmed, X', hpost, hstep₁ _ fun acts => by rw [doInvoke_state]; exact hsteps⟩
theorem vx_callSX (X : Stand p l e R s m args below meth c T locs cells slots) (hexec : p.tables.exec = Jvm.exec) {own : String} {index : Nat} {y : MethodName} {bytes : ByteArray} {maxL : Nat} {ret : Option FieldType} {hh : List (Nat × Nat × Nat × Nat)}
    (hown : s.vm.findClass own = some m.cls) (hlink : (Cond.methodLink own index y).before args s = true) (hstat : (Cond.static y).before args s = true) (hinit : (Cond.initialized y.cls).before args s = true)
    (hcode : (Cond.codeWith y bytes maxL ret hh).before args s = true) (hy : y.cls ≠ "java/lang/invoke/MethodHandle" ∧ y.cls ≠ "java/lang/invoke/VarHandle")
    {W9 : Nat} {Pre : Pt → Array Value → Prop} {Post : Pt → Array Value → Option Value → Pt → Prop} {PostX : Pt → Array Value → Addr → Pt → Prop} (hK : vx_Back l R p e below s args y 3 W9 Pre Post PostX)
    {g : JFrame} (hg : g.method = m) (hsize : g.locals.size = c.maxLocals) {argsL rest : List Value} (hlen : ∀ sig, parseMethodDescriptor y.desc = some sig → argsL.length = sig.parameters.length)
    (hstack : g.stack = argsL.reverse ++ rest) (hW : 2 * g.monitorRoom + (rest.map fun v => v.category).sum ≤ W9) (hdg : decode c.code g.pc = .ok (.invokestatic index, 3))
    (hpre : ∀ vm₁, s.WarmedH vm₁ → Pre ⟨T.setVm vm₁, locs, cells, slots⟩ argsL.toArray) :
    (∃ (v : Option Value) (vm₁ : Vm) (B : Pt), s.WarmedH vm₁ ∧ Stand p l e R s m args below meth c B.U B.locs B.cells B.slots ∧ Post ⟨T.setVm vm₁, locs, cells, slots⟩ argsL.toArray v B ∧
      ∀ target, Steps p.tables e below (B.U.setTop { g with pc := g.pc + 3, stack := v.toList ++ rest }) target → Steps p.tables e below (T.setTop g) target) ∨
    (∃ (q : Addr) (vm₁ : Vm) (B : Pt), s.WarmedH vm₁ ∧ Stand p l e R s m args below meth c B.U B.locs B.cells B.slots ∧ PostX ⟨T.setVm vm₁, locs, cells, slots⟩ argsL.toArray q B ∧
      Steps p.tables e below (T.setTop g) ((B.U.setTop { g with stack := rest }).pushFrame (.throwing q))) := by
  obtain ⟨mk, methM, cM, hnamed, hmethM, -, -, -, -, -, -, hsigM⟩ := Cond.codeWith_spec hcode
  have hstatic : methM.isStatic = true := Cond.static_spec hnamed hmethM hstat
  obtain ⟨kP, hkP, -⟩ := className_of_methodNamed hnamed
  have hinitP : kP.init = .initialized := Cond.initialized_spec (findClass_of_methodNamed hnamed) hkP hinit
  obtain ⟨vm₁, X₁, hstep₁⟩ := X.invokestatic hexec hown hlink hnamed hmethM hstatic hkP hinitP hy (g := g) hg (argsL := argsL) (rest := rest) (hlen _ hsigM) hstack hdg
  rcases hK m meth c ⟨T.setVm vm₁, locs, cells, slots⟩ { g with stack := rest } (.invokestatic index) mk argsL.toArray X₁ hg hsize hdg hW (X₁.named hnamed) (hpre vm₁ X₁.warmed) with ⟨v, B, X', hpost, hsteps⟩ | ⟨q, B, X', hpost, hsteps⟩
  · exact Or.inl ⟨v, vm₁, B, X₁.warmed, X', hpost, fun target h => hstep₁ _ fun acts => by rw [doInvoke_state]; exact hsteps.trans h⟩
  · exact Or.inr ⟨q, vm₁, B, X₁.warmed, X', hpost, hstep₁ _ fun acts => by rw [doInvoke_state]; exact hsteps⟩
theorem vx_callVW (X : Stand p l e R s m args below meth c T locs cells slots) (hexec : p.tables.exec = Jvm.exec) {own C : String} {index : Nat} {y : MethodName} {bytes : ByteArray} {maxL : Nat} {ret : Option FieldType} {hh : List (Nat × Nat × Nat × Nat)}
    (hown : s.vm.findClass own = some m.cls) (hlink : (Cond.methodLink own index y).before args s = true) (hinst : (Cond.instanceMethod y).before args s = true) (hsel : (Cond.selects C y y).before args s = true)
    (hcode : (Cond.codeWith y bytes maxL ret hh).before args s = true) (hy : y.cls ≠ "java/lang/invoke/MethodHandle" ∧ y.cls ≠ "java/lang/invoke/VarHandle")
    {W9 : Nat} {Pre : Pt → Array Value → Prop} {Post : Pt → Array Value → Option Value → Pt → Prop} (hK : Back l R p e below s args y 3 W9 Pre Post)
    {b : Addr} {cellB : Cell} (hcell : T.heap[b]? = some cellB) (hobj : cellB.vm.isStatics = false) (hcls : s.vm.findClass C = some cellB.cls)
    {g : JFrame} (hg : g.method = m) (hsize : g.locals.size = c.maxLocals) {argsL rest : List Value} (hlen : ∀ sig, parseMethodDescriptor y.desc = some sig → argsL.length = sig.parameters.length)
    (hstack : g.stack = argsL.reverse ++ .ref b :: rest) (hW : 2 * g.monitorRoom + (rest.map fun v => v.category).sum ≤ W9) (hdg : decode c.code g.pc = .ok (.invokevirtual index, 3))
    (hpre : ∀ vm₁, s.WarmedH vm₁ → Pre ⟨T.setVm vm₁, locs, cells, slots⟩ (Value.ref b :: argsL).toArray) :
    ∃ (v : Option Value) (vm₁ : Vm) (B : Pt), s.WarmedH vm₁ ∧ Stand p l e R s m args below meth c B.U B.locs B.cells B.slots ∧ Post ⟨T.setVm vm₁, locs, cells, slots⟩ (Value.ref b :: argsL).toArray v B ∧
      ∀ target, Steps p.tables e below (B.U.setTop { g with pc := g.pc + 3, stack := v.toList ++ rest }) target → Steps p.tables e below (T.setTop g) target := by
  obtain ⟨mk, methM, hnamed, hmethM, hstM, habM⟩ := Cond.instanceMethod_spec hinst
  obtain ⟨m8, methM', cM, hn8, hmethM', -, -, -, -, -, -, hsigM⟩ := Cond.codeWith_spec hcode
  cases Option.some.inj (hn8.symm.trans hnamed)
  cases hmethM.symm.trans hmethM'
  obtain ⟨c2, r2, m2, q1, q2, q3, q4, kP, hkP, hkPi⟩ := Cond.selects_spec hsel
  cases hcls.symm.trans q1
  cases (State.methodFound?_of_named hnamed hy).symm.trans q2
  cases hnamed.symm.trans q3
  have hselP : selectMethod e.platform s.vm cellB.cls mk = .method mk := by rw [Launch.admits_selectMethod X.admits]; exact q4
  obtain ⟨vm₁, X₁, hstep₁⟩ := X.invokevirtual hexec hown hlink hnamed hmethM hstM hkP hkPi hy (a := b) (cell := cellB) hcell
    (fun z h => by rw [h] at hobj; cases hobj) hselP hmethM habM hkP hkPi (g := g) hg (argsL := argsL) (rest := rest) (hlen _ hsigM) hstack hdg
  obtain ⟨v, B, X', hpost, hsteps⟩ := hK m meth c ⟨T.setVm vm₁, locs, cells, slots⟩ { g with stack := rest } (.invokevirtual index) mk (Value.ref b :: argsL).toArray X₁ hg hsize hdg hW (X₁.named hnamed) (hpre vm₁ X₁.warmed)
  exact ⟨v, vm₁, B, X₁.warmed, X', hpost, fun target h => hstep₁ _ fun acts => by rw [doInvoke_state]; exact hsteps.trans h⟩
abbrev vx_CVW (R : Room) (s : State) (args : Array Value) (own C : String) (index : Nat) (y : MethodName) (bytes : ByteArray) (maxL : Nat) (ret : Option FieldType) (hh : List (Nat × Nat × Nat × Nat)) (ws : List Cond) (rm : Room) (mc ms n : Nat) : Prop :=
  (rm.cells = mc ∧ rm.slots = ms ∧ rm.frames + 1 ≤ R.frames ∧ 8 + (maxL + 11) + rm.locals ≤ R.locals ∧ (∀ w ∈ ws, ∀ (a' : Array Value) (U : State), s.WarmedH U.vm → w.before a' U = true) ∧ Cond.codeWith y bytes maxL ret hh ∈ ws) ∧
  (Cond.codeWith y bytes maxL ret hh).before args s = true ∧ (Cond.initialized y.cls).before args s = true ∧ (y.cls ≠ "java/lang/invoke/MethodHandle" ∧ y.cls ≠ "java/lang/invoke/VarHandle") ∧
  (∀ sig, parseMethodDescriptor y.desc = some sig → n = sig.parameters.length) ∧ (Cond.methodLink own index y).before args s = true ∧ (Cond.instanceMethod y).before args s = true ∧ (Cond.selects C y y).before args s = true
theorem vx_cwVW {own C : String} {index maxL mc ms : Nat} {y : MethodName} {bytes : ByteArray} {ret : Option FieldType} {hh : List (Nat × Nat × Nat × Nat)} {Ts ws ws' : List Cond} {rm : Room} (n : Nat) (ht : ∀ w ∈ Ts, w.before args s = true) (hT : GoodIn Ts (wsV own index C y ws)) (hw : ws = Cond.codeWith y bytes maxL ret hh :: ws') (hrc : rm.cells = mc) (hrs : rm.slots = ms)
    (hd : y.cls = C ∧ y.cls ≠ "java/lang/invoke/MethodHandle" ∧ y.cls ≠ "java/lang/invoke/VarHandle" ∧ (parseMethodDescriptor y.desc).map (fun d => d.parameters.length) = some n) (hR : rm.frames + 1 ≤ R.frames ∧ 8 + (maxL + 11) + rm.locals ≤ R.locals) :
    vx_CVW R s args own C index y bytes maxL ret hh ws rm mc ms n := by
  obtain ⟨hC, hd⟩ := hd
  subst hC
  have ok : ∀ w ∈ wsV own index y.cls y ws, w.before args s = true := fun w h => ht w (hT w h).1
  have hG : GoodIn Ts ws := fun w h => hT w (by unfold wsV; exact List.mem_append_right _ h)
  have hc : Cond.codeWith y bytes maxL ret hh ∈ ws := by rw [hw]; exact List.mem_cons_self
  refine ⟨⟨hrc, hrs, hR.1, hR.2, pay_in ht hG, hc⟩, ht _ (hG _ hc).1, ok _ (by simp [wsV]), ⟨hd.1, hd.2.1⟩, fun sig h => ?_, ok _ (by simp [wsV]), ok _ (by simp [wsV]), ok _ (by simp [wsV])⟩
  have h2 := hd.2.2
  rw [h] at h2
  exact (Option.some.inj h2).symm
theorem vx_runVW {y : MethodName} {bytes cc : ByteArray} {maxL nL mc ms n index : Nat} {ret : Option FieldType} {hh : List (Nat × Nat × Nat × Nat)} {ws : List Cond} {rm : Room} {Pc : Array Value → State → Prop} {Qc : Array Value → State → Outcome → State → Prop} {free : Addr → Prop} {Ts : List Cond} {own C : String} {b : Addr} {As rest : List Value} {g : JFrame}
    (S : CallFix p m c cc nL s args Ts own) (hM : Met l y ws rm Pc Qc mc ms free) (cw : vx_CVW R s args own C index y bytes maxL ret hh ws rm mc ms n) (hp : PreV s H C b Pc As)
    (hg : g.method = m) (hn : As.length = n) (hsize : g.locals.size = nL) (hstack : g.stack = As.reverse ++ .ref b :: rest) (hW : 2 * g.monitorRoom + (rest.map fun v => v.category).sum ≤ 8) (hdg : decode cc g.pc = .ok (.invokevirtual index, 3)) (hf : cells + mc ≤ R.cells ∧ slots + ms ≤ R.slots) :
    va_Run p l e R s m args below meth c H locs cells slots mc ms g rest (Qc (Value.ref b :: As).toArray) free := by
  obtain ⟨⟨hrc, hrs, hfr, hlo, hws, hcw⟩, hcode, hini, hy, hlen, hl, hin, hse⟩ := cw
  have hK : Back l R p e below s args y 3 8 (PreOf R mc ms Pc) (PostOf Qc mc ms free) := va_backW (hh := hh) (bytes := bytes) (maxL := maxL) (ret := ret) hM hp.1 hrc hrs hfr hlo hws hcw (fun a' U hW => word_at hW (Or.inl (by first | rfl | simp [Cond.onTables, Cond.keeps, Cond.steady])) hini)
  obtain ⟨hx, hb, hml, ho, -⟩ := S
  obtain ⟨-, ⟨cellB, hcB, hoB, hclB⟩, hPc⟩ := hp
  intro T hT X
  obtain ⟨v, vm₁, ⟨U', l2, c2, s2⟩, hW₁, X', ⟨g', mk, t, L, e1, e2, hq, h1, hL, h2, h3⟩, st⟩ := vx_callVW X hx (C := C) (hh := hh) (bytes := bytes) (maxL := maxL) (ret := ret) ho hl hin hse hcode hy hK (by rw [hT]; exact hcB) hoB hclB hg (hsize.trans hml.symm) (argsL := As) (rest := rest) (fun sig h => hn.trans (hlen sig h)) hstack hW (by rw [hb]; exact hdg)
    (fun vm₁ hW₁ => ⟨hf.1, hf.2, hPc (T.setVm vm₁) hT hW₁⟩)
  dsimp only [Pt.U, Pt.locs, Pt.cells, Pt.slots] at X' e1 e2 h1 h2 h3 st
  subst h1; subst h2; subst h3
  exact ⟨v, (T.setVm vm₁).calling g' mk (Value.ref b :: As).toArray, t, U', L, hT, X', hL, e1, e2, hq, st⟩
section
variable {y : MethodName} {bytes cc : ByteArray} {maxL nL mc ms n index : Nat} {ret : Option FieldType} {ws : List Cond} {rm : Room} {Pc : Array Value → State → Prop} {Qc : Array Value → State → Outcome → State → Prop} {XC : String → State → State → Prop} {free : Addr → Prop} {Ts : List Cond} {own C : String} {b : Addr} {As rest : List Value} {g : JFrame}
theorem vx_runVX {hh : List (Nat × Nat × Nat × Nat)} (S : CallFix p m c cc nL s args Ts own) (hM : vx_Met l y ws rm Pc Qc XC mc ms free) (cw : vx_CVW R s args own C index y bytes maxL ret hh ws rm mc ms n) (hp : PreV s H C b Pc As)
    (hg : g.method = m) (hn : As.length = n) (hsize : g.locals.size = nL) (hstack : g.stack = As.reverse ++ .ref b :: rest) (hW : 2 * g.monitorRoom + (rest.map fun v => v.category).sum ≤ 8) (hdg : decode cc g.pc = .ok (.invokevirtual index, 3)) (hf : cells + mc ≤ R.cells ∧ slots + ms ≤ R.slots) :
    vx_Run p l e R s m args below meth c H locs cells slots mc ms g rest (Qc (Value.ref b :: As).toArray) XC free := by
  obtain ⟨⟨hrc, hrs, hfr, hlo, hws, hcw⟩, hcode, hini, hy, hlen, hl, hin, hse⟩ := cw
  have hK : vx_Back l R p e below s args y 3 8 (PreOf R mc ms Pc) (PostOf Qc mc ms free) (vx_Post XC mc ms free) := vx_backW (hh := hh) (bytes := bytes) (maxL := maxL) (ret := ret) hM hp.1 hrc hrs hfr hlo hws hcw (fun a' U hW => word_at hW (Or.inl (by first | rfl | simp [Cond.onTables, Cond.keeps, Cond.steady])) hini)
  obtain ⟨hx, hb, hml, ho, -⟩ := S
  obtain ⟨-, ⟨cellB, hcB, hoB, hclB⟩, hPc⟩ := hp
  intro T hT X
  rcases vx_callVX X hx (C := C) (hh := hh) (bytes := bytes) (maxL := maxL) (ret := ret) ho hl hin hse hcode hy hK (by rw [hT]; exact hcB) hoB hclB hg (hsize.trans hml.symm) (argsL := As) (rest := rest) (fun sig h => hn.trans (hlen sig h)) hstack hW (by rw [hb]; exact hdg)
    (fun vm₁ hW₁ => ⟨hf.1, hf.2, hPc (T.setVm vm₁) hT hW₁⟩) with ⟨v, vm₁, ⟨U', l2, c2, s2⟩, hW₁, X', ⟨g', mk, t, L, e1, e2, hq, h1, hL, h2, h3⟩, st⟩ | ⟨q, vm₁, ⟨U', l2, c2, s2⟩, hW₁, X', ⟨g', mk, t, L, E, ce, e1, e2, hq, hce, hcv, hcl, h1, hL, h2, h3⟩, st⟩
  · dsimp only [Pt.U, Pt.locs, Pt.cells, Pt.slots] at X' e1 e2 h1 h2 h3 st
    subst h1; subst h2; subst h3
    exact Or.inl ⟨v, (T.setVm vm₁).calling g' mk (Value.ref b :: As).toArray, t, U', L, hT, X', hL, e1, e2, hq, st⟩
  · dsimp only [Pt.U, Pt.locs, Pt.cells, Pt.slots] at X' e1 e2 h1 h2 h3 st hcl
    subst h1; subst h2; subst h3
    exact Or.inr ⟨q, (T.setVm vm₁).calling g' mk (Value.ref b :: As).toArray, t, U', L, E, ce, hT, X', hL, e1, e2, hq, hce, hcv, vx_cls hW₁ hcl, st⟩
theorem vx_runSX {hh : List (Nat × Nat × Nat × Nat)} (S : CallFix p m c cc nL s args Ts own) (hM : vx_Met l y ws rm Pc Qc XC mc ms free) (cw : vx_CSW R s args own index y bytes maxL ret hh ws rm mc ms n) (hp : PreS s H Pc As)
    (hg : g.method = m) (hn : As.length = n) (hsize : g.locals.size = nL) (hstack : g.stack = As.reverse ++ rest) (hW : 2 * g.monitorRoom + (rest.map fun v => v.category).sum ≤ 8) (hdg : decode cc g.pc = .ok (.invokestatic index, 3)) (hf : cells + mc ≤ R.cells ∧ slots + ms ≤ R.slots) :
    vx_Run p l e R s m args below meth c H locs cells slots mc ms g rest (Qc As.toArray) XC free := by
  obtain ⟨⟨hrc, hrs, hfr, hlo, hws, hcw⟩, hcode, hini, hy, hlen, hl, hstt⟩ := cw
  have hK : vx_Back l R p e below s args y 3 8 (PreOf R mc ms Pc) (PostOf Qc mc ms free) (vx_Post XC mc ms free) := vx_backW (hh := hh) (bytes := bytes) (maxL := maxL) (ret := ret) hM hp.1 hrc hrs hfr hlo hws hcw (fun a' U hW => word_at hW (Or.inl (by first | rfl | simp [Cond.onTables, Cond.keeps, Cond.steady])) hini)
  obtain ⟨hx, hb, hml, ho, -⟩ := S
  intro T hT X
  rcases vx_callSX X hx (hh := hh) (bytes := bytes) (maxL := maxL) (ret := ret) ho hl hstt hini hcode hy hK hg (hsize.trans hml.symm) (argsL := As) (rest := rest) (fun sig h => hn.trans (hlen sig h)) hstack hW (by rw [hb]; exact hdg)
    (fun vm₁ hW₁ => ⟨hf.1, hf.2, hp.2 (T.setVm vm₁) hT hW₁⟩) with ⟨v, vm₁, ⟨U', l2, c2, s2⟩, hW₁, X', ⟨g', mk, t, L, e1, e2, hq, h1, hL, h2, h3⟩, st⟩ | ⟨q, vm₁, ⟨U', l2, c2, s2⟩, hW₁, X', ⟨g', mk, t, L, E, ce, e1, e2, hq, hce, hcv, hcl, h1, hL, h2, h3⟩, st⟩
  · dsimp only [Pt.U, Pt.locs, Pt.cells, Pt.slots] at X' e1 e2 h1 h2 h3 st
    subst h1; subst h2; subst h3
    exact Or.inl ⟨v, (T.setVm vm₁).calling g' mk As.toArray, t, U', L, hT, X', hL, e1, e2, hq, st⟩
  · dsimp only [Pt.U, Pt.locs, Pt.cells, Pt.slots] at X' e1 e2 h1 h2 h3 st hcl
    subst h1; subst h2; subst h3
    exact Or.inr ⟨q, (T.setVm vm₁).calling g' mk As.toArray, t, U', L, E, ce, hT, X', hL, e1, e2, hq, hce, hcv, vx_cls hW₁ hcl, st⟩
end
end VXH
theorem vx_ofWH {l : Launch} {y : MethodName} {ws ws' : List Cond} {rm : Room} {Pc : Array Value → State → Prop} {Qc : Array Value → State → Outcome → State → Prop} {XC : String → State → State → Prop} {mc ms : Nat} {free : Addr → Prop} {cc : ByteArray} {maxL : Nat} {ret : Option FieldType} {hh : List (Nat × Nat × Nat × Nat)}
    (hy : plainName y.cls = true) (hw : ws = Cond.codeWith y cc maxL ret hh :: ws')
    (body : ∀ p e s m args below meth c s₁, BodyLoose p l y (headSpec ws rm) cc maxL ret e s m args below meth c s₁ → c.maxLocals = maxL → Pc args s →
      W p l e (headSpec ws rm).room s m args below meth c s.heap [] 0 0 (vx_MQ below Qc XC args s mc ms free) (entryFrame m args maxL)) : vx_Met l y ws rm Pc Qc XC mc ms free := by
  refine MetFree.of_bodyS (code := cc) (maxLocals := maxL) (ret := ret) hy ?_ ?_
  · intro args s m h hn
    obtain ⟨m9, meth, c, hn9, h1, h2, h3, h4, -, h5, h6, -⟩ := Cond.codeWith_spec (atoms_spec (ws := ws) h _ (by rw [hw]; exact List.mem_cons_self))
    cases hn.symm.trans hn9
    exact ⟨meth, c, h1, h2, h3, h4, h5, h6⟩
  · intro p e s m args below meth c s₁ B hml hP _
    have hh0 : s₁.heap = s.heap := by rw [B.state]; rfl
    obtain ⟨t, a1, o, b1, b2, b3⟩ := body p e s m args below meth c s₁ B hml hP s₁ hh0 (Stand.of_body B)
    exact ⟨t, o, a1, b1, b2, b3⟩
/-! ===== END ===== -/
end
section
/-! ===== BEGIN printed: names, fields, word lists, decode rows ===== -/
def RX0 : String := "Groupbooks$Balances"
def TX0 : u_T := fun k => match k with
  | 0 => ("Groupbooks$Balances", "claims", "[I", true)
  | _ => ("Groupbooks$Balances", "admissions", "[I", true)
def tyX0 : Nat → FieldType := fun k => match k with
  | 0 => .array .int
  | _ => .array .int
abbrev wsX00 : List Cond := u_ws RX0 TX0 2
theorem nmX0 : ∀ a, a < 2 → ∀ b, b < 2 → a ≠ b → (TX0 a).2.1 ≠ (TX0 b).2.1 := by decide +kernel
theorem tyX0_ok : ∀ k, k < 2 → parseFieldDescriptor (TX0 k).2.2.1 = some (tyX0 k) := by decide +kernel
abbrev cX0_init : ByteArray := prog_2_method_1_code
def yX0_init : MethodName := ⟨RX0, "<init>", "()V"⟩
abbrev cX0_replaceClaim : ByteArray := prog_2_method_2_code
def yX0_replaceClaim : MethodName := ⟨RX0, "replaceClaim", "(III)I"⟩
abbrev cX0_replaceAdmitted : ByteArray := prog_2_method_3_code
def yX0_replaceAdmitted : MethodName := ⟨RX0, "replaceAdmitted", "(III)I"⟩
abbrev cX0_disputed : ByteArray := prog_2_method_4_code
def yX0_disputed : MethodName := ⟨RX0, "disputed", "(II)I"⟩
abbrev cX0_agreedAmong : ByteArray := prog_2_method_5_code
def yX0_agreedAmong : MethodName := ⟨RX0, "agreedAmong", "(I)I"⟩
def RX1 : String := "Groupbooks$Books"
def TX1 : u_T := fun k => match k with
  | 0 => ("Groupbooks$Books", "ownAssets", "[I", true)
  | 1 => ("Groupbooks$Books", "ownDebts", "[I", true)
  | 2 => ("Groupbooks$Books", "ownEquities", "[I", true)
  | 3 => ("Groupbooks$Books", "ownProfits", "[I", true)
  | 4 => ("Groupbooks$Books", "closingRates", "[I", true)
  | 5 => ("Groupbooks$Books", "averageRates", "[I", true)
  | _ => ("Groupbooks$Books", "historicalRates", "[I", true)
def tyX1 : Nat → FieldType := fun k => match k with
  | 0 => .array .int
  | 1 => .array .int
  | 2 => .array .int
  | 3 => .array .int
  | 4 => .array .int
  | 5 => .array .int
  | _ => .array .int
abbrev wsX10 : List Cond := u_ws RX1 TX1 7
theorem nmX1 : ∀ a, a < 7 → ∀ b, b < 7 → a ≠ b → (TX1 a).2.1 ≠ (TX1 b).2.1 := by decide +kernel
theorem tyX1_ok : ∀ k, k < 7 → parseFieldDescriptor (TX1 k).2.2.1 = some (tyX1 k) := by decide +kernel
abbrev cX1_init : ByteArray := prog_3_method_1_code
def yX1_init : MethodName := ⟨RX1, "<init>", "()V"⟩
abbrev cX1_enter : ByteArray := prog_3_method_2_code
def yX1_enter : MethodName := ⟨RX1, "enter", "(IIIII)V"⟩
abbrev cX1_enterRates : ByteArray := prog_3_method_3_code
def yX1_enterRates : MethodName := ⟨RX1, "enterRates", "(IIII)V"⟩
abbrev cX1_assetsOf : ByteArray := prog_3_method_4_code
def yX1_assetsOf : MethodName := ⟨RX1, "assetsOf", "(I)I"⟩
abbrev cX1_debtsOf : ByteArray := prog_3_method_5_code
def yX1_debtsOf : MethodName := ⟨RX1, "debtsOf", "(I)I"⟩
abbrev cX1_equityOf : ByteArray := prog_3_method_6_code
def yX1_equityOf : MethodName := ⟨RX1, "equityOf", "(I)I"⟩
abbrev cX1_profitOf : ByteArray := prog_3_method_7_code
def yX1_profitOf : MethodName := ⟨RX1, "profitOf", "(I)I"⟩
abbrev cX1_netOf : ByteArray := prog_3_method_8_code
def yX1_netOf : MethodName := ⟨RX1, "netOf", "(I)I"⟩
abbrev cX1_translate : ByteArray := prog_3_method_9_code
def yX1_translate : MethodName := ⟨RX1, "translate", "(II)I"⟩
abbrev cX1_carryResults : ByteArray := prog_3_method_10_code
def yX1_carryResults : MethodName := ⟨RX1, "carryResults", "()V"⟩
def RX2 : String := "Groupbooks$Holdings"
def TX2 : u_T := fun k => match k with
  | 0 => ("Groupbooks$Holdings", "percents", "[I", true)
  | 1 => ("Groupbooks$Holdings", "numerators", "[J", true)
  | 2 => ("Groupbooks$Holdings", "denominators", "[J", true)
  | 3 => ("Groupbooks$Holdings", "equations", "[J", true)
  | 4 => ("Groupbooks$Holdings", "amounts", "[I", true)
  | _ => ("Groupbooks$Holdings", "nextAmounts", "[I", true)
def tyX2 : Nat → FieldType := fun k => match k with
  | 0 => .array .int
  | 1 => .array .long
  | 2 => .array .long
  | 3 => .array .long
  | 4 => .array .int
  | _ => .array .int
abbrev wsX20 : List Cond := u_ws RX2 TX2 6
theorem nmX2 : ∀ a, a < 6 → ∀ b, b < 6 → a ≠ b → (TX2 a).2.1 ≠ (TX2 b).2.1 := by decide +kernel
theorem tyX2_ok : ∀ k, k < 6 → parseFieldDescriptor (TX2 k).2.2.1 = some (tyX2 k) := by decide +kernel
abbrev cX2_init : ByteArray := prog_4_method_1_code
def yX2_init : MethodName := ⟨RX2, "<init>", "()V"⟩
abbrev cX2_percentOf : ByteArray := prog_4_method_2_code
def yX2_percentOf : MethodName := ⟨RX2, "percentOf", "(II)I"⟩
abbrev cX2_numeratorOf : ByteArray := prog_4_method_3_code
def yX2_numeratorOf : MethodName := ⟨RX2, "numeratorOf", "(I)J"⟩
abbrev cX2_denominatorOf : ByteArray := prog_4_method_4_code
def yX2_denominatorOf : MethodName := ⟨RX2, "denominatorOf", "(I)J"⟩
abbrev cX2_partOfParent : ByteArray := prog_4_method_5_code
def yX2_partOfParent : MethodName := ⟨RX2, "partOfParent", "(II)I"⟩
abbrev cX2_partOfOthers : ByteArray := prog_4_method_6_code
def yX2_partOfOthers : MethodName := ⟨RX2, "partOfOthers", "(II)I"⟩
abbrev cX2_scale : ByteArray := prog_4_method_7_code
def yX2_scale : MethodName := ⟨RX2, "scale", "(IJJ)I"⟩
abbrev cX2_take : ByteArray := prog_4_method_8_code
def yX2_take : MethodName := ⟨RX2, "take", "(III)Z"⟩
abbrev cX2_heldByAll : ByteArray := prog_4_method_9_code
def yX2_heldByAll : MethodName := ⟨RX2, "heldByAll", "(I)I"⟩
abbrev cX2_determineShares : ByteArray := prog_4_method_10_code
def yX2_determineShares : MethodName := ⟨RX2, "determineShares", "()Z"⟩
abbrev cX2_writeEquations : ByteArray := prog_4_method_11_code
def yX2_writeEquations : MethodName := ⟨RX2, "writeEquations", "()V"⟩
abbrev cX2_clearColumn : ByteArray := prog_4_method_12_code
def yX2_clearColumn : MethodName := ⟨RX2, "clearColumn", "(IJJ)V"⟩
abbrev cX2_clearEntry : ByteArray := prog_4_method_13_code
def yX2_clearEntry : MethodName := ⟨RX2, "clearEntry", "(IIJJ)V"⟩
abbrev cX2_keepShares : ByteArray := prog_4_method_14_code
def yX2_keepShares : MethodName := ⟨RX2, "keepShares", "(J)V"⟩
abbrev cX2_commonDivisor : ByteArray := prog_4_method_15_code
def yX2_commonDivisor : MethodName := ⟨RX2, "commonDivisor", "(JJ)J"⟩
abbrev cX2_millionthsAfter : ByteArray := prog_4_method_16_code
def yX2_millionthsAfter : MethodName := ⟨RX2, "millionthsAfter", "(II)I"⟩
abbrev cX2_playRound : ByteArray := prog_4_method_17_code
def yX2_playRound : MethodName := ⟨RX2, "playRound", "()V"⟩
abbrev cX2_members : ByteArray := prog_4_method_18_code
def yX2_members : MethodName := ⟨RX2, "members", "()I"⟩
abbrev cX2_withControlled : ByteArray := prog_4_method_19_code
def yX2_withControlled : MethodName := ⟨RX2, "withControlled", "(I)I"⟩
abbrev cX2_heldAmong : ByteArray := prog_4_method_20_code
def yX2_heldAmong : MethodName := ⟨RX2, "heldAmong", "(II)I"⟩
def RX3 : String := "Groupbooks"
def TX3 : u_T := fun k => match k with
  | 0 => ("Groupbooks", "holdings", "LGroupbooks$Holdings;", true)
  | 1 => ("Groupbooks", "books", "LGroupbooks$Books;", true)
  | 2 => ("Groupbooks", "balances", "LGroupbooks$Balances;", true)
  | 3 => ("Groupbooks", "goodwills", "[I", true)
  | 4 => ("Groupbooks", "periodResults", "[I", true)
  | _ => ("Groupbooks", "closedPeriods", "I", false)
def tyX3 : Nat → FieldType := fun k => match k with
  | 0 => .object "Groupbooks$Holdings"
  | 1 => .object "Groupbooks$Books"
  | 2 => .object "Groupbooks$Balances"
  | 3 => .array .int
  | 4 => .array .int
  | _ => .int
abbrev wsX30 : List Cond := u_ws RX3 TX3 6
theorem nmX3 : ∀ a, a < 6 → ∀ b, b < 6 → a ≠ b → (TX3 a).2.1 ≠ (TX3 b).2.1 := by decide +kernel
theorem tyX3_ok : ∀ k, k < 6 → parseFieldDescriptor (TX3 k).2.2.1 = some (tyX3 k) := by decide +kernel
abbrev cX3_init : ByteArray := prog_1_method_1_code
def yX3_init : MethodName := ⟨RX3, "<init>", "()V"⟩
abbrev cX3_hold : ByteArray := prog_1_method_2_code
def yX3_hold : MethodName := ⟨RX3, "hold", "(III)I"⟩
abbrev cX3_acquire : ByteArray := prog_1_method_3_code
def yX3_acquire : MethodName := ⟨RX3, "acquire", "(IIII)I"⟩
abbrev cX3_held : ByteArray := prog_1_method_4_code
def yX3_held : MethodName := ⟨RX3, "held", "(II)I"⟩
abbrev cX3_shareNumerator : ByteArray := prog_1_method_5_code
def yX3_shareNumerator : MethodName := ⟨RX3, "shareNumerator", "(I)J"⟩
abbrev cX3_shareDenominator : ByteArray := prog_1_method_6_code
def yX3_shareDenominator : MethodName := ⟨RX3, "shareDenominator", "(I)J"⟩
abbrev cX3_shareByRounds : ByteArray := prog_1_method_7_code
def yX3_shareByRounds : MethodName := ⟨RX3, "shareByRounds", "(II)I"⟩
abbrev cX3_group : ByteArray := prog_1_method_8_code
def yX3_group : MethodName := ⟨RX3, "group", "()I"⟩
abbrev cX3_goodwill : ByteArray := prog_1_method_9_code
def yX3_goodwill : MethodName := ⟨RX3, "goodwill", "(I)I"⟩
abbrev cX3_setBooks : ByteArray := prog_1_method_10_code
def yX3_setBooks : MethodName := ⟨RX3, "setBooks", "(IIIII)V"⟩
abbrev cX3_setRates : ByteArray := prog_1_method_11_code
def yX3_setRates : MethodName := ⟨RX3, "setRates", "(IIII)V"⟩
abbrev cX3_netValue : ByteArray := prog_1_method_12_code
def yX3_netValue : MethodName := ⟨RX3, "netValue", "(I)I"⟩
abbrev cX3_translatedEquity : ByteArray := prog_1_method_13_code
def yX3_translatedEquity : MethodName := ⟨RX3, "translatedEquity", "(I)I"⟩
abbrev cX3_translatedResult : ByteArray := prog_1_method_14_code
def yX3_translatedResult : MethodName := ⟨RX3, "translatedResult", "(I)I"⟩
abbrev cX3_reserve : ByteArray := prog_1_method_15_code
def yX3_reserve : MethodName := ⟨RX3, "reserve", "(I)I"⟩
abbrev cX3_claim : ByteArray := prog_1_method_16_code
def yX3_claim : MethodName := ⟨RX3, "claim", "(III)I"⟩
abbrev cX3_admit : ByteArray := prog_1_method_17_code
def yX3_admit : MethodName := ⟨RX3, "admit", "(III)I"⟩
abbrev cX3_difference : ByteArray := prog_1_method_18_code
def yX3_difference : MethodName := ⟨RX3, "difference", "(II)I"⟩
abbrev cX3_eliminated : ByteArray := prog_1_method_19_code
def yX3_eliminated : MethodName := ⟨RX3, "eliminated", "()I"⟩
abbrev cX3_assets : ByteArray := prog_1_method_20_code
def yX3_assets : MethodName := ⟨RX3, "assets", "()I"⟩
abbrev cX3_debts : ByteArray := prog_1_method_21_code
def yX3_debts : MethodName := ⟨RX3, "debts", "()I"⟩
abbrev cX3_minority : ByteArray := prog_1_method_22_code
def yX3_minority : MethodName := ⟨RX3, "minority", "(I)I"⟩
abbrev cX3_equity : ByteArray := prog_1_method_23_code
def yX3_equity : MethodName := ⟨RX3, "equity", "()I"⟩
abbrev cX3_result : ByteArray := prog_1_method_24_code
def yX3_result : MethodName := ⟨RX3, "result", "()I"⟩
abbrev cX3_close : ByteArray := prog_1_method_25_code
def yX3_close : MethodName := ⟨RX3, "close", "()I"⟩
abbrev cX3_resultOf : ByteArray := prog_1_method_26_code
def yX3_resultOf : MethodName := ⟨RX3, "resultOf", "(I)I"⟩
abbrev cX3_minorityAmong : ByteArray := prog_1_method_27_code
def yX3_minorityAmong : MethodName := ⟨RX3, "minorityAmong", "(II)I"⟩
abbrev cX3_isMember : ByteArray := prog_1_method_28_code
def yX3_isMember : MethodName := ⟨RX3, "isMember", "(II)Z"⟩
abbrev cX3_requireCompany : ByteArray := prog_1_method_29_code
def yX3_requireCompany : MethodName := ⟨RX3, "requireCompany", "(I)V"⟩
abbrev cX3_requireTwoCompanies : ByteArray := prog_1_method_30_code
def yX3_requireTwoCompanies : MethodName := ⟨RX3, "requireTwoCompanies", "(II)V"⟩
abbrev cX3_requireRange : ByteArray := prog_1_method_31_code
def yX3_requireRange : MethodName := ⟨RX3, "requireRange", "(III)V"⟩
abbrev cX3_requireBalance : ByteArray := prog_1_method_32_code
def yX3_requireBalance : MethodName := ⟨RX3, "requireBalance", "(II)V"⟩
abbrev cX3_requireTaken : ByteArray := prog_1_method_33_code
def yX3_requireTaken : MethodName := ⟨RX3, "requireTaken", "(Z)V"⟩
abbrev cX3_pair : ByteArray := prog_1_method_34_code
def yX3_pair : MethodName := ⟨RX3, "pair", "(II)I"⟩
def RX4 : String := "GroupbooksModel"
def TX4 : u_T := fun k => match k with
  | 0 => ("GroupbooksModel", "thrown", "I", false)
  | 1 => ("GroupbooksModel", "held", "[I", true)
  | 2 => ("GroupbooksModel", "claimed", "[I", true)
  | 3 => ("GroupbooksModel", "admitted", "[I", true)
  | 4 => ("GroupbooksModel", "goodwill", "[I", true)
  | 5 => ("GroupbooksModel", "assets", "[I", true)
  | 6 => ("GroupbooksModel", "debts", "[I", true)
  | 7 => ("GroupbooksModel", "equity", "[I", true)
  | 8 => ("GroupbooksModel", "result", "[I", true)
  | 9 => ("GroupbooksModel", "closing", "[I", true)
  | 10 => ("GroupbooksModel", "average", "[I", true)
  | 11 => ("GroupbooksModel", "historical", "[I", true)
  | 12 => ("GroupbooksModel", "kept", "[I", true)
  | 13 => ("GroupbooksModel", "closed", "I", false)
  | 14 => ("GroupbooksModel", "square", "[J", true)
  | 15 => ("GroupbooksModel", "above", "[J", true)
  | 16 => ("GroupbooksModel", "below", "[J", true)
  | 17 => ("GroupbooksModel", "now", "[I", true)
  | _ => ("GroupbooksModel", "then", "[I", true)
def tyX4 : Nat → FieldType := fun k => match k with
  | 0 => .int
  | 1 => .array .int
  | 2 => .array .int
  | 3 => .array .int
  | 4 => .array .int
  | 5 => .array .int
  | 6 => .array .int
  | 7 => .array .int
  | 8 => .array .int
  | 9 => .array .int
  | 10 => .array .int
  | 11 => .array .int
  | 12 => .array .int
  | 13 => .int
  | 14 => .array .long
  | 15 => .array .long
  | 16 => .array .long
  | 17 => .array .int
  | _ => .array .int
abbrev wsX40 : List Cond := u_ws RX4 TX4 19
theorem nmX4 : ∀ a, a < 19 → ∀ b, b < 19 → a ≠ b → (TX4 a).2.1 ≠ (TX4 b).2.1 := by decide +kernel
theorem tyX4_ok : ∀ k, k < 19 → parseFieldDescriptor (TX4 k).2.2.1 = some (tyX4 k) := by decide +kernel
abbrev cX4_init : ByteArray := prog_6_method_1_code
def yX4_init : MethodName := ⟨RX4, "<init>", "()V"⟩
abbrev cX4_thrown : ByteArray := prog_6_method_2_code
def yX4_thrown : MethodName := ⟨RX4, "thrown", "()I"⟩
abbrev cX4_fails : ByteArray := prog_6_method_3_code
def yX4_fails : MethodName := ⟨RX4, "fails", "(I)I"⟩
abbrev cX4_in : ByteArray := prog_6_method_4_code
def yX4_in : MethodName := ⟨RX4, "in", "(III)Z"⟩
abbrev cX4_isCompany : ByteArray := prog_6_method_5_code
def yX4_isCompany : MethodName := ⟨RX4, "isCompany", "(I)Z"⟩
abbrev cX4_isPair : ByteArray := prog_6_method_6_code
def yX4_isPair : MethodName := ⟨RX4, "isPair", "(II)Z"⟩
abbrev cX4_floor : ByteArray := prog_6_method_7_code
def yX4_floor : MethodName := ⟨RX4, "floor", "(JJ)J"⟩
abbrev cX4_laySquare : ByteArray := prog_6_method_8_code
def yX4_laySquare : MethodName := ⟨RX4, "laySquare", "(I)V"⟩
abbrev cX4_exchange : ByteArray := prog_6_method_9_code
def yX4_exchange : MethodName := ⟨RX4, "exchange", "(II)V"⟩
abbrev cX4_determinant : ByteArray := prog_6_method_10_code
def yX4_determinant : MethodName := ⟨RX4, "determinant", "()J"⟩
abbrev cX4_common : ByteArray := prog_6_method_11_code
def yX4_common : MethodName := ⟨RX4, "common", "(JJ)J"⟩
abbrev cX4_layShares : ByteArray := prog_6_method_12_code
def yX4_layShares : MethodName := ⟨RX4, "layShares", "()Z"⟩
abbrev cX4_sets : ByteArray := prog_6_method_13_code
def yX4_sets : MethodName := ⟨RX4, "sets", "(III)Z"⟩
abbrev cX4_hold : ByteArray := prog_6_method_14_code
def yX4_hold : MethodName := ⟨RX4, "hold", "(III)I"⟩
abbrev cX4_acquire : ByteArray := prog_6_method_15_code
def yX4_acquire : MethodName := ⟨RX4, "acquire", "(IIII)I"⟩
abbrev cX4_held : ByteArray := prog_6_method_16_code
def yX4_held : MethodName := ⟨RX4, "held", "(II)I"⟩
abbrev cX4_shareNumerator : ByteArray := prog_6_method_17_code
def yX4_shareNumerator : MethodName := ⟨RX4, "shareNumerator", "(I)J"⟩
abbrev cX4_shareDenominator : ByteArray := prog_6_method_18_code
def yX4_shareDenominator : MethodName := ⟨RX4, "shareDenominator", "(I)J"⟩
abbrev cX4_shareByRounds : ByteArray := prog_6_method_19_code
def yX4_shareByRounds : MethodName := ⟨RX4, "shareByRounds", "(II)I"⟩
abbrev cX4_groupSet : ByteArray := prog_6_method_20_code
def yX4_groupSet : MethodName := ⟨RX4, "groupSet", "()I"⟩
abbrev cX4_group : ByteArray := prog_6_method_21_code
def yX4_group : MethodName := ⟨RX4, "group", "()I"⟩
abbrev cX4_goodwill : ByteArray := prog_6_method_22_code
def yX4_goodwill : MethodName := ⟨RX4, "goodwill", "(I)I"⟩
abbrev cX4_setBooks : ByteArray := prog_6_method_23_code
def yX4_setBooks : MethodName := ⟨RX4, "setBooks", "(IIIII)V"⟩
abbrev cX4_setRates : ByteArray := prog_6_method_24_code
def yX4_setRates : MethodName := ⟨RX4, "setRates", "(IIII)V"⟩
abbrev cX4_translated : ByteArray := prog_6_method_25_code
def yX4_translated : MethodName := ⟨RX4, "translated", "(II)I"⟩
abbrev cX4_net : ByteArray := prog_6_method_26_code
def yX4_net : MethodName := ⟨RX4, "net", "(I)I"⟩
abbrev cX4_netValue : ByteArray := prog_6_method_27_code
def yX4_netValue : MethodName := ⟨RX4, "netValue", "(I)I"⟩
abbrev cX4_translatedEquity : ByteArray := prog_6_method_28_code
def yX4_translatedEquity : MethodName := ⟨RX4, "translatedEquity", "(I)I"⟩
abbrev cX4_translatedResult : ByteArray := prog_6_method_29_code
def yX4_translatedResult : MethodName := ⟨RX4, "translatedResult", "(I)I"⟩
abbrev cX4_reserve : ByteArray := prog_6_method_30_code
def yX4_reserve : MethodName := ⟨RX4, "reserve", "(I)I"⟩
abbrev cX4_claim : ByteArray := prog_6_method_31_code
def yX4_claim : MethodName := ⟨RX4, "claim", "(III)I"⟩
abbrev cX4_admit : ByteArray := prog_6_method_32_code
def yX4_admit : MethodName := ⟨RX4, "admit", "(III)I"⟩
abbrev cX4_difference : ByteArray := prog_6_method_33_code
def yX4_difference : MethodName := ⟨RX4, "difference", "(II)I"⟩
abbrev cX4_eliminatedNow : ByteArray := prog_6_method_34_code
def yX4_eliminatedNow : MethodName := ⟨RX4, "eliminatedNow", "()I"⟩
abbrev cX4_eliminated : ByteArray := prog_6_method_35_code
def yX4_eliminated : MethodName := ⟨RX4, "eliminated", "()I"⟩
abbrev cX4_assetsNow : ByteArray := prog_6_method_36_code
def yX4_assetsNow : MethodName := ⟨RX4, "assetsNow", "()I"⟩
abbrev cX4_debtsNow : ByteArray := prog_6_method_37_code
def yX4_debtsNow : MethodName := ⟨RX4, "debtsNow", "()I"⟩
abbrev cX4_minorityNow : ByteArray := prog_6_method_38_code
def yX4_minorityNow : MethodName := ⟨RX4, "minorityNow", "(I)I"⟩
abbrev cX4_resultNow : ByteArray := prog_6_method_39_code
def yX4_resultNow : MethodName := ⟨RX4, "resultNow", "()I"⟩
abbrev cX4_assets : ByteArray := prog_6_method_40_code
def yX4_assets : MethodName := ⟨RX4, "assets", "()I"⟩
abbrev cX4_debts : ByteArray := prog_6_method_41_code
def yX4_debts : MethodName := ⟨RX4, "debts", "()I"⟩
abbrev cX4_minority : ByteArray := prog_6_method_42_code
def yX4_minority : MethodName := ⟨RX4, "minority", "(I)I"⟩
abbrev cX4_equity : ByteArray := prog_6_method_43_code
def yX4_equity : MethodName := ⟨RX4, "equity", "()I"⟩
abbrev cX4_result : ByteArray := prog_6_method_44_code
def yX4_result : MethodName := ⟨RX4, "result", "()I"⟩
abbrev cX4_close : ByteArray := prog_6_method_45_code
def yX4_close : MethodName := ⟨RX4, "close", "()I"⟩
abbrev cX4_resultOf : ByteArray := prog_6_method_46_code
def yX4_resultOf : MethodName := ⟨RX4, "resultOf", "(I)I"⟩
def RJ9 : String := "java/lang/Math"
def TJ9 : u_T := fun k => match k with
  | _ => ("", "", "", false)
def tyJ9 : Nat → FieldType := fun k => match k with
  | _ => .int
abbrev wsJ90 : List Cond := u_ws RJ9 TJ9 0
theorem nmJ9 : ∀ a, a < 0 → ∀ b, b < 0 → a ≠ b → (TJ9 a).2.1 ≠ (TJ9 b).2.1 := by decide +kernel
theorem tyJ9_ok : ∀ k, k < 0 → parseFieldDescriptor (TJ9 k).2.2.1 = some (tyJ9 k) := by decide +kernel
abbrev cJ9_floorDiv_7cf53 : ByteArray := prog_10_method_47_code
def yJ9_floorDiv_7cf53 : MethodName := ⟨RJ9, "floorDiv", "(II)I"⟩
abbrev cJ9_floorDiv_f86c9 : ByteArray := prog_10_method_49_code
def yJ9_floorDiv_f86c9 : MethodName := ⟨RJ9, "floorDiv", "(JJ)J"⟩
abbrev cJ9_min_7cf53 : ByteArray := prog_10_method_69_code
def yJ9_min_7cf53 : MethodName := ⟨RJ9, "min", "(II)I"⟩
def RJ0 : String := "java/lang/String"
def TJ0 : u_T := fun k => match k with
  | _ => ("", "", "", false)
def tyJ0 : Nat → FieldType := fun k => match k with
  | _ => .int
abbrev wsJ00 : List Cond := u_ws RJ0 TJ0 0
theorem nmJ0 : ∀ a, a < 0 → ∀ b, b < 0 → a ≠ b → (TJ0 a).2.1 ≠ (TJ0 b).2.1 := by decide +kernel
theorem tyJ0_ok : ∀ k, k < 0 → parseFieldDescriptor (TJ0 k).2.2.1 = some (tyJ0 k) := by decide +kernel
def RL : String := "GroupbooksLaw"
abbrev cL_hold : ByteArray := method_3_code
def yL_hold : MethodName := ⟨RL, "hold", "(LGroupbooks;III[J)I"⟩
abbrev cL_acquire : ByteArray := method_4_code
def yL_acquire : MethodName := ⟨RL, "acquire", "(LGroupbooks;IIII[J)I"⟩
abbrev cL_held : ByteArray := method_5_code
def yL_held : MethodName := ⟨RL, "held", "(LGroupbooks;II[J)I"⟩
abbrev cL_shareNumerator : ByteArray := method_6_code
def yL_shareNumerator : MethodName := ⟨RL, "shareNumerator", "(LGroupbooks;I[J)I"⟩
abbrev cL_shareDenominator : ByteArray := method_7_code
def yL_shareDenominator : MethodName := ⟨RL, "shareDenominator", "(LGroupbooks;I[J)I"⟩
abbrev cL_shareByRounds : ByteArray := method_8_code
def yL_shareByRounds : MethodName := ⟨RL, "shareByRounds", "(LGroupbooks;II[J)I"⟩
abbrev cL_goodwill : ByteArray := method_9_code
def yL_goodwill : MethodName := ⟨RL, "goodwill", "(LGroupbooks;I[J)I"⟩
abbrev cL_setBooks : ByteArray := method_10_code
def yL_setBooks : MethodName := ⟨RL, "setBooks", "(LGroupbooks;IIIII)I"⟩
abbrev cL_setRates : ByteArray := method_11_code
def yL_setRates : MethodName := ⟨RL, "setRates", "(LGroupbooks;IIII)I"⟩
abbrev cL_netValue : ByteArray := method_12_code
def yL_netValue : MethodName := ⟨RL, "netValue", "(LGroupbooks;I[J)I"⟩
abbrev cL_translatedEquity : ByteArray := method_13_code
def yL_translatedEquity : MethodName := ⟨RL, "translatedEquity", "(LGroupbooks;I[J)I"⟩
abbrev cL_translatedResult : ByteArray := method_14_code
def yL_translatedResult : MethodName := ⟨RL, "translatedResult", "(LGroupbooks;I[J)I"⟩
abbrev cL_reserve : ByteArray := method_15_code
def yL_reserve : MethodName := ⟨RL, "reserve", "(LGroupbooks;I[J)I"⟩
abbrev cL_claim : ByteArray := method_16_code
def yL_claim : MethodName := ⟨RL, "claim", "(LGroupbooks;III[J)I"⟩
abbrev cL_admit : ByteArray := method_17_code
def yL_admit : MethodName := ⟨RL, "admit", "(LGroupbooks;III[J)I"⟩
abbrev cL_difference : ByteArray := method_18_code
def yL_difference : MethodName := ⟨RL, "difference", "(LGroupbooks;II[J)I"⟩
abbrev cL_minority : ByteArray := method_19_code
def yL_minority : MethodName := ⟨RL, "minority", "(LGroupbooks;I[J)I"⟩
abbrev cL_close : ByteArray := method_20_code
def yL_close : MethodName := ⟨RL, "close", "(LGroupbooks;[J)I"⟩
abbrev cL_resultOf : ByteArray := method_21_code
def yL_resultOf : MethodName := ⟨RL, "resultOf", "(LGroupbooks;I[J)I"⟩
abbrev cL_law : ByteArray := code
def yL_law : MethodName := ⟨RL, "law", "([I)Z"⟩
def wsX0_init : List Cond := .code yX0_init cX0_init 1 none :: ([.methodLink RX0 3 objectInit, .instanceMethod objectInit, .code objectInit ⟨#[0xb1]⟩ 1 none, .arrayClass .int, .fieldLink RX0 9 "Groupbooks$Balances" "claims" "[I", .fieldLink RX0 15 "Groupbooks$Balances" "admissions" "[I"] ++ wsX00)
def wsX3_pair : List Cond := .code yX3_pair cX3_pair 2 (some .int) :: ([])
def wsX0_replaceClaim : List Cond := .code yX0_replaceClaim cX0_replaceClaim 6 (some .int) :: ([.fieldLink RX0 9 "Groupbooks$Balances" "claims" "[I", .static yX3_pair, .initialized RX3, .code yX3_pair cX3_pair 2 (some .int)] ++ wsX00)
def wsX0_replaceAdmitted : List Cond := .code yX0_replaceAdmitted cX0_replaceAdmitted 6 (some .int) :: ([.fieldLink RX0 15 "Groupbooks$Balances" "admissions" "[I", .static yX3_pair, .initialized RX3, .code yX3_pair cX3_pair 2 (some .int)] ++ wsX00)
def wsX0_disputed : List Cond := .code yX0_disputed cX0_disputed 4 (some .int) :: ([.fieldLink RX0 9 "Groupbooks$Balances" "claims" "[I", .fieldLink RX0 15 "Groupbooks$Balances" "admissions" "[I", .static yX3_pair, .initialized RX3, .code yX3_pair cX3_pair 2 (some .int)] ++ wsX00)
def wsX3_isMember : List Cond := .code yX3_isMember cX3_isMember 2 (some .boolean) :: ([])
def wsX0_agreedAmong : List Cond := .code yX0_agreedAmong cX0_agreedAmong 6 (some .int) :: ([.fieldLink RX0 9 "Groupbooks$Balances" "claims" "[I", .fieldLink RX0 15 "Groupbooks$Balances" "admissions" "[I", .methodLink RX0 26 Lib.Math.min.name, .static Lib.Math.min.name, .initialized "java/lang/Math", .code Lib.Math.min.name Lib.Math.min.code 2 (some .int), .static yX3_isMember, .initialized RX3, .code yX3_isMember cX3_isMember 2 (some .boolean), .static yX3_pair, .code yX3_pair cX3_pair 2 (some .int)] ++ wsX00)
def wsX1_init : List Cond := .code yX1_init cX1_init 2 none :: ([.methodLink RX1 3 objectInit, .instanceMethod objectInit, .code objectInit ⟨#[0xb1]⟩ 1 none, .arrayClass .int, .fieldLink RX1 9 "Groupbooks$Books" "ownAssets" "[I", .fieldLink RX1 15 "Groupbooks$Books" "ownDebts" "[I", .fieldLink RX1 18 "Groupbooks$Books" "ownEquities" "[I", .fieldLink RX1 21 "Groupbooks$Books" "ownProfits" "[I", .fieldLink RX1 24 "Groupbooks$Books" "closingRates" "[I", .fieldLink RX1 27 "Groupbooks$Books" "averageRates" "[I", .fieldLink RX1 30 "Groupbooks$Books" "historicalRates" "[I"] ++ wsX10)
def wsX1_enter : List Cond := .code yX1_enter cX1_enter 6 none :: ([.fieldLink RX1 9 "Groupbooks$Books" "ownAssets" "[I", .fieldLink RX1 15 "Groupbooks$Books" "ownDebts" "[I", .fieldLink RX1 18 "Groupbooks$Books" "ownEquities" "[I", .fieldLink RX1 21 "Groupbooks$Books" "ownProfits" "[I"] ++ wsX10)
def wsX1_enterRates : List Cond := .code yX1_enterRates cX1_enterRates 5 none :: ([.fieldLink RX1 24 "Groupbooks$Books" "closingRates" "[I", .fieldLink RX1 27 "Groupbooks$Books" "averageRates" "[I", .fieldLink RX1 30 "Groupbooks$Books" "historicalRates" "[I"] ++ wsX10)
def wsJ9_floorDiv_7cf53 : List Cond := .code yJ9_floorDiv_7cf53 cJ9_floorDiv_7cf53 3 (some .int) :: ([])
def wsX1_translate : List Cond := .code yX1_translate cX1_translate 2 (some .int) :: ([.methodLink RX1 44 yJ9_floorDiv_7cf53, .static yJ9_floorDiv_7cf53, .initialized RJ9, .code yJ9_floorDiv_7cf53 cJ9_floorDiv_7cf53 3 (some .int)])
def wsX1_assetsOf : List Cond := .code yX1_assetsOf cX1_assetsOf 2 (some .int) :: ([.fieldLink RX1 9 "Groupbooks$Books" "ownAssets" "[I", .fieldLink RX1 24 "Groupbooks$Books" "closingRates" "[I", .methodLink RX1 33 yX1_translate, .static yX1_translate, .initialized RX1, .code yX1_translate cX1_translate 2 (some .int), .methodLink RX1 44 yJ9_floorDiv_7cf53, .static yJ9_floorDiv_7cf53, .initialized RJ9, .code yJ9_floorDiv_7cf53 cJ9_floorDiv_7cf53 3 (some .int)] ++ wsX10)
def wsX1_debtsOf : List Cond := .code yX1_debtsOf cX1_debtsOf 2 (some .int) :: ([.fieldLink RX1 15 "Groupbooks$Books" "ownDebts" "[I", .fieldLink RX1 24 "Groupbooks$Books" "closingRates" "[I", .methodLink RX1 33 yX1_translate, .static yX1_translate, .initialized RX1, .code yX1_translate cX1_translate 2 (some .int), .methodLink RX1 44 yJ9_floorDiv_7cf53, .static yJ9_floorDiv_7cf53, .initialized RJ9, .code yJ9_floorDiv_7cf53 cJ9_floorDiv_7cf53 3 (some .int)] ++ wsX10)
def wsX1_equityOf : List Cond := .code yX1_equityOf cX1_equityOf 2 (some .int) :: ([.fieldLink RX1 18 "Groupbooks$Books" "ownEquities" "[I", .fieldLink RX1 30 "Groupbooks$Books" "historicalRates" "[I", .methodLink RX1 33 yX1_translate, .static yX1_translate, .initialized RX1, .code yX1_translate cX1_translate 2 (some .int), .methodLink RX1 44 yJ9_floorDiv_7cf53, .static yJ9_floorDiv_7cf53, .initialized RJ9, .code yJ9_floorDiv_7cf53 cJ9_floorDiv_7cf53 3 (some .int)] ++ wsX10)
def wsX1_profitOf : List Cond := .code yX1_profitOf cX1_profitOf 2 (some .int) :: ([.fieldLink RX1 21 "Groupbooks$Books" "ownProfits" "[I", .fieldLink RX1 27 "Groupbooks$Books" "averageRates" "[I", .methodLink RX1 33 yX1_translate, .static yX1_translate, .initialized RX1, .code yX1_translate cX1_translate 2 (some .int), .methodLink RX1 44 yJ9_floorDiv_7cf53, .static yJ9_floorDiv_7cf53, .initialized RJ9, .code yJ9_floorDiv_7cf53 cJ9_floorDiv_7cf53 3 (some .int)] ++ wsX10)
def wsX1_netOf : List Cond := .code yX1_netOf cX1_netOf 2 (some .int) :: ([.methodLink RX1 37 yX1_assetsOf, .instanceMethod yX1_assetsOf, .selects RX1 yX1_assetsOf yX1_assetsOf, .initialized RX1, .code yX1_assetsOf cX1_assetsOf 2 (some .int), .fieldLink RX1 9 "Groupbooks$Books" "ownAssets" "[I", .fieldLink RX1 24 "Groupbooks$Books" "closingRates" "[I", .methodLink RX1 33 yX1_translate, .static yX1_translate, .code yX1_translate cX1_translate 2 (some .int), .methodLink RX1 44 yJ9_floorDiv_7cf53, .static yJ9_floorDiv_7cf53, .initialized RJ9, .code yJ9_floorDiv_7cf53 cJ9_floorDiv_7cf53 3 (some .int), .methodLink RX1 41 yX1_debtsOf, .instanceMethod yX1_debtsOf, .selects RX1 yX1_debtsOf yX1_debtsOf, .code yX1_debtsOf cX1_debtsOf 2 (some .int), .fieldLink RX1 15 "Groupbooks$Books" "ownDebts" "[I"] ++ wsX10)
def wsX1_carryResults : List Cond := .code yX1_carryResults cX1_carryResults 2 none :: ([.fieldLink RX1 18 "Groupbooks$Books" "ownEquities" "[I", .fieldLink RX1 21 "Groupbooks$Books" "ownProfits" "[I"] ++ wsX10)
def wsX2_init : List Cond := .code yX2_init cX2_init 2 none :: ([.methodLink RX2 3 objectInit, .instanceMethod objectInit, .code objectInit ⟨#[0xb1]⟩ 1 none, .arrayClass .int, .fieldLink RX2 9 "Groupbooks$Holdings" "percents" "[I", .arrayClass .long, .fieldLink RX2 15 "Groupbooks$Holdings" "numerators" "[J", .fieldLink RX2 19 "Groupbooks$Holdings" "denominators" "[J", .fieldLink RX2 22 "Groupbooks$Holdings" "equations" "[J", .fieldLink RX2 25 "Groupbooks$Holdings" "amounts" "[I", .fieldLink RX2 28 "Groupbooks$Holdings" "nextAmounts" "[I"] ++ wsX20)
def wsX2_percentOf : List Cond := .code yX2_percentOf cX2_percentOf 3 (some .int) :: ([.fieldLink RX2 9 "Groupbooks$Holdings" "percents" "[I", .static yX3_pair, .initialized RX3, .code yX3_pair cX3_pair 2 (some .int)] ++ wsX20)
def wsX2_numeratorOf : List Cond := .code yX2_numeratorOf cX2_numeratorOf 2 (some .long) :: ([.fieldLink RX2 15 "Groupbooks$Holdings" "numerators" "[J"] ++ wsX20)
def wsX2_denominatorOf : List Cond := .code yX2_denominatorOf cX2_denominatorOf 2 (some .long) :: ([.fieldLink RX2 19 "Groupbooks$Holdings" "denominators" "[J"] ++ wsX20)
def wsJ9_floorDiv_f86c9 : List Cond := .code yJ9_floorDiv_f86c9 cJ9_floorDiv_f86c9 6 (some .long) :: ([])
def wsX2_scale : List Cond := .code yX2_scale cX2_scale 5 (some .int) :: ([.methodLink RX2 39 yJ9_floorDiv_f86c9, .static yJ9_floorDiv_f86c9, .initialized RJ9, .code yJ9_floorDiv_f86c9 cJ9_floorDiv_f86c9 6 (some .long)])
def wsX2_partOfParent : List Cond := .code yX2_partOfParent cX2_partOfParent 3 (some .int) :: ([.fieldLink RX2 15 "Groupbooks$Holdings" "numerators" "[J", .fieldLink RX2 19 "Groupbooks$Holdings" "denominators" "[J", .methodLink RX2 35 yX2_scale, .static yX2_scale, .initialized RX2, .code yX2_scale cX2_scale 5 (some .int), .methodLink RX2 39 yJ9_floorDiv_f86c9, .static yJ9_floorDiv_f86c9, .initialized RJ9, .code yJ9_floorDiv_f86c9 cJ9_floorDiv_f86c9 6 (some .long)] ++ wsX20)
def wsX2_partOfOthers : List Cond := .code yX2_partOfOthers cX2_partOfOthers 5 (some .int) :: ([.fieldLink RX2 19 "Groupbooks$Holdings" "denominators" "[J", .fieldLink RX2 15 "Groupbooks$Holdings" "numerators" "[J", .methodLink RX2 35 yX2_scale, .static yX2_scale, .initialized RX2, .code yX2_scale cX2_scale 5 (some .int), .methodLink RX2 39 yJ9_floorDiv_f86c9, .static yJ9_floorDiv_f86c9, .initialized RJ9, .code yJ9_floorDiv_f86c9 cJ9_floorDiv_f86c9 6 (some .long)] ++ wsX20)
def wsX2_heldByAll : List Cond := .code yX2_heldByAll cX2_heldByAll 4 (some .int) :: ([.fieldLink RX2 9 "Groupbooks$Holdings" "percents" "[I", .static yX3_pair, .initialized RX3, .code yX3_pair cX3_pair 2 (some .int)] ++ wsX20)
def wsX2_writeEquations : List Cond := .code yX2_writeEquations cX2_writeEquations 3 none :: ([.fieldLink RX2 22 "Groupbooks$Holdings" "equations" "[J", .fieldLink RX2 9 "Groupbooks$Holdings" "percents" "[I", .constantLong RX2 64 (100), .static yX3_pair, .initialized RX3, .code yX3_pair cX3_pair 2 (some .int)] ++ wsX20)
def wsX2_clearEntry : List Cond := .code yX2_clearEntry cX2_clearEntry 13 none :: ([.fieldLink RX2 22 "Groupbooks$Holdings" "equations" "[J", .static yX3_pair, .initialized RX3, .code yX3_pair cX3_pair 2 (some .int)] ++ wsX20)
def wsX2_clearColumn : List Cond := .code yX2_clearColumn cX2_clearColumn 7 none :: ([.methodLink RX2 66 yX2_clearEntry, .instanceMethod yX2_clearEntry, .selects RX2 yX2_clearEntry yX2_clearEntry, .initialized RX2, .code yX2_clearEntry cX2_clearEntry 13 none, .fieldLink RX2 22 "Groupbooks$Holdings" "equations" "[J", .static yX3_pair, .initialized RX3, .code yX3_pair cX3_pair 2 (some .int)] ++ wsX20)
def wsX2_commonDivisor : List Cond := .code yX2_commonDivisor cX2_commonDivisor 11 (some .long) :: ([])
def wsX2_keepShares : List Cond := .code yX2_keepShares cX2_keepShares 8 none :: ([.fieldLink RX2 22 "Groupbooks$Holdings" "equations" "[J", .fieldLink RX2 15 "Groupbooks$Holdings" "numerators" "[J", .fieldLink RX2 19 "Groupbooks$Holdings" "denominators" "[J", .static yX3_pair, .initialized RX3, .code yX3_pair cX3_pair 2 (some .int), .methodLink RX2 70 yX2_commonDivisor, .static yX2_commonDivisor, .initialized RX2, .code yX2_commonDivisor cX2_commonDivisor 11 (some .long)] ++ wsX20)
def wsX2_determineShares_r1 : List Cond := [Cond.fieldLink RX2 22 "Groupbooks$Holdings" "equations" "[J", Cond.methodLink RX2 53 yX2_writeEquations, Cond.instanceMethod yX2_writeEquations, Cond.selects RX2 yX2_writeEquations yX2_writeEquations, Cond.initialized RX2, Cond.code yX2_writeEquations cX2_writeEquations 3 none, Cond.fieldLink RX2 9 "Groupbooks$Holdings" "percents" "[I", Cond.constantLong RX2 64 (100), Cond.static yX3_pair, Cond.initialized RX3, Cond.code yX3_pair cX3_pair 2 (some .int), Cond.methodLink RX2 56 yX2_clearColumn, Cond.instanceMethod yX2_clearColumn, Cond.selects RX2 yX2_clearColumn yX2_clearColumn, Cond.code yX2_clearColumn cX2_clearColumn 7 none, Cond.methodLink RX2 66 yX2_clearEntry, Cond.instanceMethod yX2_clearEntry, Cond.selects RX2 yX2_clearEntry yX2_clearEntry, Cond.code yX2_clearEntry cX2_clearEntry 13 none, Cond.methodLink RX2 60 yX2_keepShares, Cond.instanceMethod yX2_keepShares, Cond.selects RX2 yX2_keepShares yX2_keepShares, Cond.code yX2_keepShares cX2_keepShares 8 none, Cond.fieldLink RX2 15 "Groupbooks$Holdings" "numerators" "[J"]
def wsX2_determineShares_r2 : List Cond := [Cond.fieldLink RX2 19 "Groupbooks$Holdings" "denominators" "[J", Cond.methodLink RX2 70 yX2_commonDivisor, Cond.static yX2_commonDivisor, Cond.code yX2_commonDivisor cX2_commonDivisor 11 (some .long)]
def wsX2_determineShares : List Cond := .code yX2_determineShares cX2_determineShares 6 (some .boolean) :: ((wsX2_determineShares_r1 ++ wsX2_determineShares_r2) ++ wsX20)
def wsX2_take_r1 : List Cond := [Cond.fieldLink RX2 9 "Groupbooks$Holdings" "percents" "[I", Cond.static yX3_pair, Cond.initialized RX3, Cond.code yX3_pair cX3_pair 2 (some .int), Cond.methodLink RX2 45 yX2_heldByAll, Cond.instanceMethod yX2_heldByAll, Cond.selects RX2 yX2_heldByAll yX2_heldByAll, Cond.initialized RX2, Cond.code yX2_heldByAll cX2_heldByAll 4 (some .int), Cond.methodLink RX2 49 yX2_determineShares, Cond.instanceMethod yX2_determineShares, Cond.selects RX2 yX2_determineShares yX2_determineShares, Cond.code yX2_determineShares cX2_determineShares 6 (some .boolean), Cond.fieldLink RX2 22 "Groupbooks$Holdings" "equations" "[J", Cond.methodLink RX2 53 yX2_writeEquations, Cond.instanceMethod yX2_writeEquations, Cond.selects RX2 yX2_writeEquations yX2_writeEquations, Cond.code yX2_writeEquations cX2_writeEquations 3 none, Cond.constantLong RX2 64 (100), Cond.methodLink RX2 56 yX2_clearColumn, Cond.instanceMethod yX2_clearColumn, Cond.selects RX2 yX2_clearColumn yX2_clearColumn, Cond.code yX2_clearColumn cX2_clearColumn 7 none, Cond.methodLink RX2 66 yX2_clearEntry]
def wsX2_take_r2 : List Cond := [Cond.instanceMethod yX2_clearEntry, Cond.selects RX2 yX2_clearEntry yX2_clearEntry, Cond.code yX2_clearEntry cX2_clearEntry 13 none, Cond.methodLink RX2 60 yX2_keepShares, Cond.instanceMethod yX2_keepShares, Cond.selects RX2 yX2_keepShares yX2_keepShares, Cond.code yX2_keepShares cX2_keepShares 8 none, Cond.fieldLink RX2 15 "Groupbooks$Holdings" "numerators" "[J", Cond.fieldLink RX2 19 "Groupbooks$Holdings" "denominators" "[J", Cond.methodLink RX2 70 yX2_commonDivisor, Cond.static yX2_commonDivisor, Cond.code yX2_commonDivisor cX2_commonDivisor 11 (some .long)]
def wsX2_take : List Cond := .code yX2_take cX2_take 7 (some .boolean) :: ((wsX2_take_r1 ++ wsX2_take_r2) ++ wsX20)
def wsX2_playRound : List Cond := .code yX2_playRound cX2_playRound 4 none :: ([.fieldLink RX2 9 "Groupbooks$Holdings" "percents" "[I", .fieldLink RX2 25 "Groupbooks$Holdings" "amounts" "[I", .fieldLink RX2 28 "Groupbooks$Holdings" "nextAmounts" "[I", .static yX3_pair, .initialized RX3, .code yX3_pair cX3_pair 2 (some .int)] ++ wsX20)
def wsX2_millionthsAfter : List Cond := .code yX2_millionthsAfter cX2_millionthsAfter 4 (some .int) :: ([.fieldLink RX2 25 "Groupbooks$Holdings" "amounts" "[I", .constant RX2 73 (1000000), .methodLink RX2 74 yX2_playRound, .instanceMethod yX2_playRound, .selects RX2 yX2_playRound yX2_playRound, .initialized RX2, .code yX2_playRound cX2_playRound 4 none, .fieldLink RX2 9 "Groupbooks$Holdings" "percents" "[I", .fieldLink RX2 28 "Groupbooks$Holdings" "nextAmounts" "[I", .static yX3_pair, .initialized RX3, .code yX3_pair cX3_pair 2 (some .int)] ++ wsX20)
def wsX2_heldAmong : List Cond := .code yX2_heldAmong cX2_heldAmong 5 (some .int) :: ([.fieldLink RX2 9 "Groupbooks$Holdings" "percents" "[I", .static yX3_isMember, .initialized RX3, .code yX3_isMember cX3_isMember 2 (some .boolean), .static yX3_pair, .code yX3_pair cX3_pair 2 (some .int)] ++ wsX20)
def wsX2_withControlled : List Cond := .code yX2_withControlled cX2_withControlled 4 (some .int) :: ([.methodLink RX2 80 yX2_heldAmong, .instanceMethod yX2_heldAmong, .selects RX2 yX2_heldAmong yX2_heldAmong, .initialized RX2, .code yX2_heldAmong cX2_heldAmong 5 (some .int), .fieldLink RX2 9 "Groupbooks$Holdings" "percents" "[I", .static yX3_isMember, .initialized RX3, .code yX3_isMember cX3_isMember 2 (some .boolean), .static yX3_pair, .code yX3_pair cX3_pair 2 (some .int)] ++ wsX20)
def wsX2_members : List Cond := .code yX2_members cX2_members 3 (some .int) :: ([.methodLink RX2 77 yX2_withControlled, .instanceMethod yX2_withControlled, .selects RX2 yX2_withControlled yX2_withControlled, .initialized RX2, .code yX2_withControlled cX2_withControlled 4 (some .int), .methodLink RX2 80 yX2_heldAmong, .instanceMethod yX2_heldAmong, .selects RX2 yX2_heldAmong yX2_heldAmong, .code yX2_heldAmong cX2_heldAmong 5 (some .int), .fieldLink RX2 9 "Groupbooks$Holdings" "percents" "[I", .static yX3_isMember, .initialized RX3, .code yX3_isMember cX3_isMember 2 (some .boolean), .static yX3_pair, .code yX3_pair cX3_pair 2 (some .int)] ++ wsX20)
def wsX3_init_r1 : List Cond := [Cond.methodLink RX3 1 objectInit, Cond.instanceMethod objectInit, Cond.code objectInit ⟨#[0xb1]⟩ 1 none, Cond.classLink RX3 7 RX2, Cond.instantiable RX2 6, Cond.initialized RX2, Cond.fieldLink RX3 10 "Groupbooks" "holdings" "LGroupbooks$Holdings;", Cond.classLink RX3 16 RX1, Cond.instantiable RX1 7, Cond.initialized RX1, Cond.fieldLink RX3 19 "Groupbooks" "books" "LGroupbooks$Books;", Cond.classLink RX3 23 RX0, Cond.instantiable RX0 2, Cond.initialized RX0, Cond.fieldLink RX3 26 "Groupbooks" "balances" "LGroupbooks$Balances;", Cond.arrayClass .int, Cond.fieldLink RX3 30 "Groupbooks" "goodwills" "[I", Cond.fieldLink RX3 34 "Groupbooks" "periodResults" "[I", Cond.fieldLink RX3 37 "Groupbooks" "closedPeriods" "I", Cond.instanceMethod yX2_init, Cond.code yX2_init cX2_init 2 none, Cond.methodLink RX2 3 objectInit, Cond.fieldLink RX2 9 "Groupbooks$Holdings" "percents" "[I", Cond.arrayClass .long]
def wsX3_init_r2 : List Cond := [Cond.fieldLink RX2 15 "Groupbooks$Holdings" "numerators" "[J", Cond.fieldLink RX2 19 "Groupbooks$Holdings" "denominators" "[J", Cond.fieldLink RX2 22 "Groupbooks$Holdings" "equations" "[J", Cond.fieldLink RX2 25 "Groupbooks$Holdings" "amounts" "[I", Cond.fieldLink RX2 28 "Groupbooks$Holdings" "nextAmounts" "[I", Cond.instanceMethod yX1_init, Cond.code yX1_init cX1_init 2 none, Cond.methodLink RX1 3 objectInit, Cond.fieldLink RX1 9 "Groupbooks$Books" "ownAssets" "[I", Cond.fieldLink RX1 15 "Groupbooks$Books" "ownDebts" "[I", Cond.fieldLink RX1 18 "Groupbooks$Books" "ownEquities" "[I", Cond.fieldLink RX1 21 "Groupbooks$Books" "ownProfits" "[I", Cond.fieldLink RX1 24 "Groupbooks$Books" "closingRates" "[I", Cond.fieldLink RX1 27 "Groupbooks$Books" "averageRates" "[I", Cond.fieldLink RX1 30 "Groupbooks$Books" "historicalRates" "[I", Cond.instanceMethod yX0_init, Cond.code yX0_init cX0_init 1 none, Cond.methodLink RX0 3 objectInit, Cond.fieldLink RX0 9 "Groupbooks$Balances" "claims" "[I", Cond.fieldLink RX0 15 "Groupbooks$Balances" "admissions" "[I"]
def wsX3_init : List Cond := .code yX3_init cX3_init 1 none :: ((wsX3_init_r1 ++ wsX3_init_r2) ++ wsX20 ++ wsX30 ++ wsX10 ++ wsX00)
def wsX3_requireRange : List Cond := .code yX3_requireRange cX3_requireRange 3 none :: ([.classLink RX3 155 "java/lang/IllegalArgumentException", .initialized "java/lang/IllegalArgumentException"] ++ (vx_atS RX3 159 "java/lang/IllegalArgumentException" ["java/lang/RuntimeException", "java/lang/Exception"]).filter goodWord)
def wsX3_requireCompany : List Cond := .code yX3_requireCompany cX3_requireCompany 1 none :: ([.methodLink RX3 45 yX3_requireRange, .static yX3_requireRange, .initialized RX3, .code yX3_requireRange cX3_requireRange 3 none, .classLink RX3 155 "java/lang/IllegalArgumentException", .initialized "java/lang/IllegalArgumentException"] ++ (vx_atS RX3 159 "java/lang/IllegalArgumentException" ["java/lang/RuntimeException", "java/lang/Exception"]).filter goodWord)
def wsX3_requireTwoCompanies : List Cond := .code yX3_requireTwoCompanies cX3_requireTwoCompanies 2 none :: ([.classLink RX3 155 "java/lang/IllegalArgumentException", .initialized "java/lang/IllegalArgumentException", .methodLink RX3 71 yX3_requireCompany, .static yX3_requireCompany, .initialized RX3, .code yX3_requireCompany cX3_requireCompany 1 none, .methodLink RX3 45 yX3_requireRange, .static yX3_requireRange, .code yX3_requireRange cX3_requireRange 3 none] ++ (vx_atS RX3 159 "java/lang/IllegalArgumentException" ["java/lang/RuntimeException", "java/lang/Exception"]).filter goodWord)
def wsX3_requireTaken : List Cond := .code yX3_requireTaken cX3_requireTaken 1 none :: ([.classLink RX3 142 "java/lang/IllegalStateException", .initialized "java/lang/IllegalStateException"] ++ (vx_atS RX3 146 "java/lang/IllegalStateException" ["java/lang/RuntimeException", "java/lang/Exception"]).filter goodWord)
def wsX3_hold_r1 : List Cond := [Cond.fieldLink RX3 10 "Groupbooks" "holdings" "LGroupbooks$Holdings;", Cond.methodLink RX3 41 yX3_requireTwoCompanies, Cond.static yX3_requireTwoCompanies, Cond.initialized RX3, Cond.code yX3_requireTwoCompanies cX3_requireTwoCompanies 2 none, Cond.classLink RX3 155 "java/lang/IllegalArgumentException", Cond.initialized "java/lang/IllegalArgumentException", Cond.methodLink RX3 71 yX3_requireCompany, Cond.static yX3_requireCompany, Cond.code yX3_requireCompany cX3_requireCompany 1 none, Cond.methodLink RX3 45 yX3_requireRange, Cond.static yX3_requireRange, Cond.code yX3_requireRange cX3_requireRange 3 none, Cond.instanceMethod yX2_percentOf, Cond.initialized RX2, Cond.selects RX2 yX2_percentOf yX2_percentOf, Cond.code yX2_percentOf cX2_percentOf 3 (some .int), Cond.fieldLink RX2 9 "Groupbooks$Holdings" "percents" "[I", Cond.static yX3_pair, Cond.code yX3_pair cX3_pair 2 (some .int), Cond.instanceMethod yX2_take, Cond.selects RX2 yX2_take yX2_take, Cond.code yX2_take cX2_take 7 (some .boolean), Cond.methodLink RX2 45 yX2_heldByAll]
def wsX3_hold_r2 : List Cond := [Cond.instanceMethod yX2_heldByAll, Cond.selects RX2 yX2_heldByAll yX2_heldByAll, Cond.code yX2_heldByAll cX2_heldByAll 4 (some .int), Cond.methodLink RX2 49 yX2_determineShares, Cond.instanceMethod yX2_determineShares, Cond.selects RX2 yX2_determineShares yX2_determineShares, Cond.code yX2_determineShares cX2_determineShares 6 (some .boolean), Cond.fieldLink RX2 22 "Groupbooks$Holdings" "equations" "[J", Cond.methodLink RX2 53 yX2_writeEquations, Cond.instanceMethod yX2_writeEquations, Cond.selects RX2 yX2_writeEquations yX2_writeEquations, Cond.code yX2_writeEquations cX2_writeEquations 3 none, Cond.constantLong RX2 64 (100), Cond.methodLink RX2 56 yX2_clearColumn, Cond.instanceMethod yX2_clearColumn, Cond.selects RX2 yX2_clearColumn yX2_clearColumn, Cond.code yX2_clearColumn cX2_clearColumn 7 none, Cond.methodLink RX2 66 yX2_clearEntry, Cond.instanceMethod yX2_clearEntry, Cond.selects RX2 yX2_clearEntry yX2_clearEntry, Cond.code yX2_clearEntry cX2_clearEntry 13 none, Cond.methodLink RX2 60 yX2_keepShares, Cond.instanceMethod yX2_keepShares, Cond.selects RX2 yX2_keepShares yX2_keepShares]
def wsX3_hold_r3 : List Cond := [Cond.code yX2_keepShares cX2_keepShares 8 none, Cond.fieldLink RX2 15 "Groupbooks$Holdings" "numerators" "[J", Cond.fieldLink RX2 19 "Groupbooks$Holdings" "denominators" "[J", Cond.methodLink RX2 70 yX2_commonDivisor, Cond.static yX2_commonDivisor, Cond.code yX2_commonDivisor cX2_commonDivisor 11 (some .long), Cond.methodLink RX3 57 yX3_requireTaken, Cond.static yX3_requireTaken, Cond.code yX3_requireTaken cX3_requireTaken 1 none, Cond.classLink RX3 142 "java/lang/IllegalStateException", Cond.initialized "java/lang/IllegalStateException"]
def wsX3_hold : List Cond := .code yX3_hold cX3_hold 5 (some .int) :: ((wsX3_hold_r1 ++ (wsX3_hold_r2 ++ wsX3_hold_r3)) ++ wsX30 ++ wsX20 ++ (vx_atS RX3 159 "java/lang/IllegalArgumentException" ["java/lang/RuntimeException", "java/lang/Exception"]).filter goodWord ++ (vx_atS RX3 146 "java/lang/IllegalStateException" ["java/lang/RuntimeException", "java/lang/Exception"]).filter goodWord)
def wsX3_acquire_r1 : List Cond := [Cond.constant RX3 61 (1000000), Cond.fieldLink RX3 10 "Groupbooks" "holdings" "LGroupbooks$Holdings;", Cond.fieldLink RX3 30 "Groupbooks" "goodwills" "[I", Cond.fieldLink RX3 19 "Groupbooks" "books" "LGroupbooks$Books;", Cond.methodLink RX3 41 yX3_requireTwoCompanies, Cond.static yX3_requireTwoCompanies, Cond.initialized RX3, Cond.code yX3_requireTwoCompanies cX3_requireTwoCompanies 2 none, Cond.classLink RX3 155 "java/lang/IllegalArgumentException", Cond.initialized "java/lang/IllegalArgumentException", Cond.methodLink RX3 71 yX3_requireCompany, Cond.static yX3_requireCompany, Cond.code yX3_requireCompany cX3_requireCompany 1 none, Cond.methodLink RX3 45 yX3_requireRange, Cond.static yX3_requireRange, Cond.code yX3_requireRange cX3_requireRange 3 none, Cond.instanceMethod yX2_percentOf, Cond.initialized RX2, Cond.selects RX2 yX2_percentOf yX2_percentOf, Cond.code yX2_percentOf cX2_percentOf 3 (some .int), Cond.fieldLink RX2 9 "Groupbooks$Holdings" "percents" "[I", Cond.static yX3_pair, Cond.code yX3_pair cX3_pair 2 (some .int), Cond.instanceMethod yX2_take]
def wsX3_acquire_r2 : List Cond := [Cond.selects RX2 yX2_take yX2_take, Cond.code yX2_take cX2_take 7 (some .boolean), Cond.methodLink RX2 45 yX2_heldByAll, Cond.instanceMethod yX2_heldByAll, Cond.selects RX2 yX2_heldByAll yX2_heldByAll, Cond.code yX2_heldByAll cX2_heldByAll 4 (some .int), Cond.methodLink RX2 49 yX2_determineShares, Cond.instanceMethod yX2_determineShares, Cond.selects RX2 yX2_determineShares yX2_determineShares, Cond.code yX2_determineShares cX2_determineShares 6 (some .boolean), Cond.fieldLink RX2 22 "Groupbooks$Holdings" "equations" "[J", Cond.methodLink RX2 53 yX2_writeEquations, Cond.instanceMethod yX2_writeEquations, Cond.selects RX2 yX2_writeEquations yX2_writeEquations, Cond.code yX2_writeEquations cX2_writeEquations 3 none, Cond.constantLong RX2 64 (100), Cond.methodLink RX2 56 yX2_clearColumn, Cond.instanceMethod yX2_clearColumn, Cond.selects RX2 yX2_clearColumn yX2_clearColumn, Cond.code yX2_clearColumn cX2_clearColumn 7 none, Cond.methodLink RX2 66 yX2_clearEntry, Cond.instanceMethod yX2_clearEntry, Cond.selects RX2 yX2_clearEntry yX2_clearEntry, Cond.code yX2_clearEntry cX2_clearEntry 13 none]
def wsX3_acquire_r3 : List Cond := [Cond.methodLink RX2 60 yX2_keepShares, Cond.instanceMethod yX2_keepShares, Cond.selects RX2 yX2_keepShares yX2_keepShares, Cond.code yX2_keepShares cX2_keepShares 8 none, Cond.fieldLink RX2 15 "Groupbooks$Holdings" "numerators" "[J", Cond.fieldLink RX2 19 "Groupbooks$Holdings" "denominators" "[J", Cond.methodLink RX2 70 yX2_commonDivisor, Cond.static yX2_commonDivisor, Cond.code yX2_commonDivisor cX2_commonDivisor 11 (some .long), Cond.methodLink RX3 57 yX3_requireTaken, Cond.static yX3_requireTaken, Cond.code yX3_requireTaken cX3_requireTaken 1 none, Cond.classLink RX3 142 "java/lang/IllegalStateException", Cond.initialized "java/lang/IllegalStateException", Cond.instanceMethod yX1_netOf, Cond.initialized RX1, Cond.selects RX1 yX1_netOf yX1_netOf, Cond.code yX1_netOf cX1_netOf 2 (some .int), Cond.methodLink RX1 37 yX1_assetsOf, Cond.instanceMethod yX1_assetsOf, Cond.selects RX1 yX1_assetsOf yX1_assetsOf, Cond.code yX1_assetsOf cX1_assetsOf 2 (some .int), Cond.fieldLink RX1 9 "Groupbooks$Books" "ownAssets" "[I", Cond.fieldLink RX1 24 "Groupbooks$Books" "closingRates" "[I"]
def wsX3_acquire_r4 : List Cond := [Cond.methodLink RX1 33 yX1_translate, Cond.static yX1_translate, Cond.code yX1_translate cX1_translate 2 (some .int), Cond.methodLink RX1 44 yJ9_floorDiv_7cf53, Cond.static yJ9_floorDiv_7cf53, Cond.initialized RJ9, Cond.code yJ9_floorDiv_7cf53 cJ9_floorDiv_7cf53 3 (some .int), Cond.methodLink RX1 41 yX1_debtsOf, Cond.instanceMethod yX1_debtsOf, Cond.selects RX1 yX1_debtsOf yX1_debtsOf, Cond.code yX1_debtsOf cX1_debtsOf 2 (some .int), Cond.fieldLink RX1 15 "Groupbooks$Books" "ownDebts" "[I", Cond.methodLink RX3 66 yJ9_floorDiv_7cf53]
def wsX3_acquire : List Cond := .code yX3_acquire cX3_acquire 6 (some .int) :: ((wsX3_acquire_r1 ++ (wsX3_acquire_r2 ++ (wsX3_acquire_r3 ++ wsX3_acquire_r4))) ++ wsX30 ++ wsX20 ++ wsX10 ++ (vx_atS RX3 159 "java/lang/IllegalArgumentException" ["java/lang/RuntimeException", "java/lang/Exception"]).filter goodWord ++ (vx_atS RX3 146 "java/lang/IllegalStateException" ["java/lang/RuntimeException", "java/lang/Exception"]).filter goodWord)
def wsX3_held : List Cond := .code yX3_held cX3_held 3 (some .int) :: ([.fieldLink RX3 10 "Groupbooks" "holdings" "LGroupbooks$Holdings;", .methodLink RX3 71 yX3_requireCompany, .static yX3_requireCompany, .initialized RX3, .code yX3_requireCompany cX3_requireCompany 1 none, .methodLink RX3 45 yX3_requireRange, .static yX3_requireRange, .code yX3_requireRange cX3_requireRange 3 none, .classLink RX3 155 "java/lang/IllegalArgumentException", .initialized "java/lang/IllegalArgumentException", .instanceMethod yX2_percentOf, .initialized RX2, .selects RX2 yX2_percentOf yX2_percentOf, .code yX2_percentOf cX2_percentOf 3 (some .int), .fieldLink RX2 9 "Groupbooks$Holdings" "percents" "[I", .static yX3_pair, .code yX3_pair cX3_pair 2 (some .int)] ++ wsX30 ++ wsX20 ++ (vx_atS RX3 159 "java/lang/IllegalArgumentException" ["java/lang/RuntimeException", "java/lang/Exception"]).filter goodWord)
def wsX3_shareNumerator : List Cond := .code yX3_shareNumerator cX3_shareNumerator 2 (some .long) :: ([.fieldLink RX3 10 "Groupbooks" "holdings" "LGroupbooks$Holdings;", .methodLink RX3 71 yX3_requireCompany, .static yX3_requireCompany, .initialized RX3, .code yX3_requireCompany cX3_requireCompany 1 none, .methodLink RX3 45 yX3_requireRange, .static yX3_requireRange, .code yX3_requireRange cX3_requireRange 3 none, .classLink RX3 155 "java/lang/IllegalArgumentException", .initialized "java/lang/IllegalArgumentException", .instanceMethod yX2_numeratorOf, .initialized RX2, .selects RX2 yX2_numeratorOf yX2_numeratorOf, .code yX2_numeratorOf cX2_numeratorOf 2 (some .long), .fieldLink RX2 15 "Groupbooks$Holdings" "numerators" "[J"] ++ wsX30 ++ wsX20 ++ (vx_atS RX3 159 "java/lang/IllegalArgumentException" ["java/lang/RuntimeException", "java/lang/Exception"]).filter goodWord)
def wsX3_shareDenominator : List Cond := .code yX3_shareDenominator cX3_shareDenominator 2 (some .long) :: ([.fieldLink RX3 10 "Groupbooks" "holdings" "LGroupbooks$Holdings;", .methodLink RX3 71 yX3_requireCompany, .static yX3_requireCompany, .initialized RX3, .code yX3_requireCompany cX3_requireCompany 1 none, .methodLink RX3 45 yX3_requireRange, .static yX3_requireRange, .code yX3_requireRange cX3_requireRange 3 none, .classLink RX3 155 "java/lang/IllegalArgumentException", .initialized "java/lang/IllegalArgumentException", .instanceMethod yX2_denominatorOf, .initialized RX2, .selects RX2 yX2_denominatorOf yX2_denominatorOf, .code yX2_denominatorOf cX2_denominatorOf 2 (some .long), .fieldLink RX2 19 "Groupbooks$Holdings" "denominators" "[J"] ++ wsX30 ++ wsX20 ++ (vx_atS RX3 159 "java/lang/IllegalArgumentException" ["java/lang/RuntimeException", "java/lang/Exception"]).filter goodWord)
def wsX3_shareByRounds : List Cond := .code yX3_shareByRounds cX3_shareByRounds 3 (some .int) :: ([.fieldLink RX3 10 "Groupbooks" "holdings" "LGroupbooks$Holdings;", .methodLink RX3 71 yX3_requireCompany, .static yX3_requireCompany, .initialized RX3, .code yX3_requireCompany cX3_requireCompany 1 none, .methodLink RX3 45 yX3_requireRange, .static yX3_requireRange, .code yX3_requireRange cX3_requireRange 3 none, .classLink RX3 155 "java/lang/IllegalArgumentException", .initialized "java/lang/IllegalArgumentException", .instanceMethod yX2_millionthsAfter, .initialized RX2, .selects RX2 yX2_millionthsAfter yX2_millionthsAfter, .code yX2_millionthsAfter cX2_millionthsAfter 4 (some .int), .fieldLink RX2 25 "Groupbooks$Holdings" "amounts" "[I", .constant RX2 73 (1000000), .methodLink RX2 74 yX2_playRound, .instanceMethod yX2_playRound, .selects RX2 yX2_playRound yX2_playRound, .code yX2_playRound cX2_playRound 4 none, .fieldLink RX2 9 "Groupbooks$Holdings" "percents" "[I", .fieldLink RX2 28 "Groupbooks$Holdings" "nextAmounts" "[I", .static yX3_pair, .code yX3_pair cX3_pair 2 (some .int)] ++ wsX30 ++ wsX20 ++ (vx_atS RX3 159 "java/lang/IllegalArgumentException" ["java/lang/RuntimeException", "java/lang/Exception"]).filter goodWord)
def wsX3_group : List Cond := .code yX3_group cX3_group 1 (some .int) :: ([.fieldLink RX3 10 "Groupbooks" "holdings" "LGroupbooks$Holdings;", .instanceMethod yX2_members, .initialized RX2, .selects RX2 yX2_members yX2_members, .code yX2_members cX2_members 3 (some .int), .methodLink RX2 77 yX2_withControlled, .instanceMethod yX2_withControlled, .selects RX2 yX2_withControlled yX2_withControlled, .code yX2_withControlled cX2_withControlled 4 (some .int), .methodLink RX2 80 yX2_heldAmong, .instanceMethod yX2_heldAmong, .selects RX2 yX2_heldAmong yX2_heldAmong, .code yX2_heldAmong cX2_heldAmong 5 (some .int), .fieldLink RX2 9 "Groupbooks$Holdings" "percents" "[I", .static yX3_isMember, .initialized RX3, .code yX3_isMember cX3_isMember 2 (some .boolean), .static yX3_pair, .code yX3_pair cX3_pair 2 (some .int)] ++ wsX30 ++ wsX20)
def wsX3_goodwill : List Cond := .code yX3_goodwill cX3_goodwill 2 (some .int) :: ([.fieldLink RX3 30 "Groupbooks" "goodwills" "[I", .methodLink RX3 71 yX3_requireCompany, .static yX3_requireCompany, .initialized RX3, .code yX3_requireCompany cX3_requireCompany 1 none, .methodLink RX3 45 yX3_requireRange, .static yX3_requireRange, .code yX3_requireRange cX3_requireRange 3 none, .classLink RX3 155 "java/lang/IllegalArgumentException", .initialized "java/lang/IllegalArgumentException"] ++ wsX30 ++ (vx_atS RX3 159 "java/lang/IllegalArgumentException" ["java/lang/RuntimeException", "java/lang/Exception"]).filter goodWord)
def wsX3_requireBalance : List Cond := .code yX3_requireBalance cX3_requireBalance 2 none :: ([.classLink RX3 155 "java/lang/IllegalArgumentException", .initialized "java/lang/IllegalArgumentException"] ++ (vx_atS RX3 159 "java/lang/IllegalArgumentException" ["java/lang/RuntimeException", "java/lang/Exception"]).filter goodWord)
def wsX3_setBooks : List Cond := .code yX3_setBooks cX3_setBooks 6 none :: ([.constant RX3 61 (1000000), .constant RX3 89 (-1000000), .fieldLink RX3 19 "Groupbooks" "books" "LGroupbooks$Books;", .methodLink RX3 71 yX3_requireCompany, .static yX3_requireCompany, .initialized RX3, .code yX3_requireCompany cX3_requireCompany 1 none, .methodLink RX3 45 yX3_requireRange, .static yX3_requireRange, .code yX3_requireRange cX3_requireRange 3 none, .classLink RX3 155 "java/lang/IllegalArgumentException", .initialized "java/lang/IllegalArgumentException", .methodLink RX3 90 yX3_requireBalance, .static yX3_requireBalance, .code yX3_requireBalance cX3_requireBalance 2 none, .instanceMethod yX1_enter, .initialized RX1, .selects RX1 yX1_enter yX1_enter, .code yX1_enter cX1_enter 6 none, .fieldLink RX1 9 "Groupbooks$Books" "ownAssets" "[I", .fieldLink RX1 15 "Groupbooks$Books" "ownDebts" "[I", .fieldLink RX1 18 "Groupbooks$Books" "ownEquities" "[I", .fieldLink RX1 21 "Groupbooks$Books" "ownProfits" "[I"] ++ wsX30 ++ wsX10 ++ (vx_atS RX3 159 "java/lang/IllegalArgumentException" ["java/lang/RuntimeException", "java/lang/Exception"]).filter goodWord)
def wsX3_setRates : List Cond := .code yX3_setRates cX3_setRates 5 none :: ([.fieldLink RX3 19 "Groupbooks" "books" "LGroupbooks$Books;", .methodLink RX3 71 yX3_requireCompany, .static yX3_requireCompany, .initialized RX3, .code yX3_requireCompany cX3_requireCompany 1 none, .methodLink RX3 45 yX3_requireRange, .static yX3_requireRange, .code yX3_requireRange cX3_requireRange 3 none, .classLink RX3 155 "java/lang/IllegalArgumentException", .initialized "java/lang/IllegalArgumentException", .instanceMethod yX1_enterRates, .initialized RX1, .selects RX1 yX1_enterRates yX1_enterRates, .code yX1_enterRates cX1_enterRates 5 none, .fieldLink RX1 24 "Groupbooks$Books" "closingRates" "[I", .fieldLink RX1 27 "Groupbooks$Books" "averageRates" "[I", .fieldLink RX1 30 "Groupbooks$Books" "historicalRates" "[I"] ++ wsX30 ++ wsX10 ++ (vx_atS RX3 159 "java/lang/IllegalArgumentException" ["java/lang/RuntimeException", "java/lang/Exception"]).filter goodWord)
def wsX3_netValue_r1 : List Cond := [Cond.fieldLink RX3 19 "Groupbooks" "books" "LGroupbooks$Books;", Cond.methodLink RX3 71 yX3_requireCompany, Cond.static yX3_requireCompany, Cond.initialized RX3, Cond.code yX3_requireCompany cX3_requireCompany 1 none, Cond.methodLink RX3 45 yX3_requireRange, Cond.static yX3_requireRange, Cond.code yX3_requireRange cX3_requireRange 3 none, Cond.classLink RX3 155 "java/lang/IllegalArgumentException", Cond.initialized "java/lang/IllegalArgumentException", Cond.instanceMethod yX1_netOf, Cond.initialized RX1, Cond.selects RX1 yX1_netOf yX1_netOf, Cond.code yX1_netOf cX1_netOf 2 (some .int), Cond.methodLink RX1 37 yX1_assetsOf, Cond.instanceMethod yX1_assetsOf, Cond.selects RX1 yX1_assetsOf yX1_assetsOf, Cond.code yX1_assetsOf cX1_assetsOf 2 (some .int), Cond.fieldLink RX1 9 "Groupbooks$Books" "ownAssets" "[I", Cond.fieldLink RX1 24 "Groupbooks$Books" "closingRates" "[I", Cond.methodLink RX1 33 yX1_translate, Cond.static yX1_translate, Cond.code yX1_translate cX1_translate 2 (some .int), Cond.methodLink RX1 44 yJ9_floorDiv_7cf53]
def wsX3_netValue_r2 : List Cond := [Cond.static yJ9_floorDiv_7cf53, Cond.initialized RJ9, Cond.code yJ9_floorDiv_7cf53 cJ9_floorDiv_7cf53 3 (some .int), Cond.methodLink RX1 41 yX1_debtsOf, Cond.instanceMethod yX1_debtsOf, Cond.selects RX1 yX1_debtsOf yX1_debtsOf, Cond.code yX1_debtsOf cX1_debtsOf 2 (some .int), Cond.fieldLink RX1 15 "Groupbooks$Books" "ownDebts" "[I"]
def wsX3_netValue : List Cond := .code yX3_netValue cX3_netValue 2 (some .int) :: ((wsX3_netValue_r1 ++ wsX3_netValue_r2) ++ wsX30 ++ wsX10 ++ (vx_atS RX3 159 "java/lang/IllegalArgumentException" ["java/lang/RuntimeException", "java/lang/Exception"]).filter goodWord)
def wsX3_translatedEquity : List Cond := .code yX3_translatedEquity cX3_translatedEquity 2 (some .int) :: ([.fieldLink RX3 19 "Groupbooks" "books" "LGroupbooks$Books;", .methodLink RX3 71 yX3_requireCompany, .static yX3_requireCompany, .initialized RX3, .code yX3_requireCompany cX3_requireCompany 1 none, .methodLink RX3 45 yX3_requireRange, .static yX3_requireRange, .code yX3_requireRange cX3_requireRange 3 none, .classLink RX3 155 "java/lang/IllegalArgumentException", .initialized "java/lang/IllegalArgumentException", .instanceMethod yX1_equityOf, .initialized RX1, .selects RX1 yX1_equityOf yX1_equityOf, .code yX1_equityOf cX1_equityOf 2 (some .int), .fieldLink RX1 18 "Groupbooks$Books" "ownEquities" "[I", .fieldLink RX1 30 "Groupbooks$Books" "historicalRates" "[I", .methodLink RX1 33 yX1_translate, .static yX1_translate, .code yX1_translate cX1_translate 2 (some .int), .methodLink RX1 44 yJ9_floorDiv_7cf53, .static yJ9_floorDiv_7cf53, .initialized RJ9, .code yJ9_floorDiv_7cf53 cJ9_floorDiv_7cf53 3 (some .int)] ++ wsX30 ++ wsX10 ++ (vx_atS RX3 159 "java/lang/IllegalArgumentException" ["java/lang/RuntimeException", "java/lang/Exception"]).filter goodWord)
def wsX3_translatedResult : List Cond := .code yX3_translatedResult cX3_translatedResult 2 (some .int) :: ([.fieldLink RX3 19 "Groupbooks" "books" "LGroupbooks$Books;", .methodLink RX3 71 yX3_requireCompany, .static yX3_requireCompany, .initialized RX3, .code yX3_requireCompany cX3_requireCompany 1 none, .methodLink RX3 45 yX3_requireRange, .static yX3_requireRange, .code yX3_requireRange cX3_requireRange 3 none, .classLink RX3 155 "java/lang/IllegalArgumentException", .initialized "java/lang/IllegalArgumentException", .instanceMethod yX1_profitOf, .initialized RX1, .selects RX1 yX1_profitOf yX1_profitOf, .code yX1_profitOf cX1_profitOf 2 (some .int), .fieldLink RX1 21 "Groupbooks$Books" "ownProfits" "[I", .fieldLink RX1 27 "Groupbooks$Books" "averageRates" "[I", .methodLink RX1 33 yX1_translate, .static yX1_translate, .code yX1_translate cX1_translate 2 (some .int), .methodLink RX1 44 yJ9_floorDiv_7cf53, .static yJ9_floorDiv_7cf53, .initialized RJ9, .code yJ9_floorDiv_7cf53 cJ9_floorDiv_7cf53 3 (some .int)] ++ wsX30 ++ wsX10 ++ (vx_atS RX3 159 "java/lang/IllegalArgumentException" ["java/lang/RuntimeException", "java/lang/Exception"]).filter goodWord)
def wsX3_reserve_r1 : List Cond := [Cond.fieldLink RX3 19 "Groupbooks" "books" "LGroupbooks$Books;", Cond.methodLink RX3 71 yX3_requireCompany, Cond.static yX3_requireCompany, Cond.initialized RX3, Cond.code yX3_requireCompany cX3_requireCompany 1 none, Cond.methodLink RX3 45 yX3_requireRange, Cond.static yX3_requireRange, Cond.code yX3_requireRange cX3_requireRange 3 none, Cond.classLink RX3 155 "java/lang/IllegalArgumentException", Cond.initialized "java/lang/IllegalArgumentException", Cond.instanceMethod yX1_netOf, Cond.initialized RX1, Cond.selects RX1 yX1_netOf yX1_netOf, Cond.code yX1_netOf cX1_netOf 2 (some .int), Cond.methodLink RX1 37 yX1_assetsOf, Cond.instanceMethod yX1_assetsOf, Cond.selects RX1 yX1_assetsOf yX1_assetsOf, Cond.code yX1_assetsOf cX1_assetsOf 2 (some .int), Cond.fieldLink RX1 9 "Groupbooks$Books" "ownAssets" "[I", Cond.fieldLink RX1 24 "Groupbooks$Books" "closingRates" "[I", Cond.methodLink RX1 33 yX1_translate, Cond.static yX1_translate, Cond.code yX1_translate cX1_translate 2 (some .int), Cond.methodLink RX1 44 yJ9_floorDiv_7cf53]
def wsX3_reserve_r2 : List Cond := [Cond.static yJ9_floorDiv_7cf53, Cond.initialized RJ9, Cond.code yJ9_floorDiv_7cf53 cJ9_floorDiv_7cf53 3 (some .int), Cond.methodLink RX1 41 yX1_debtsOf, Cond.instanceMethod yX1_debtsOf, Cond.selects RX1 yX1_debtsOf yX1_debtsOf, Cond.code yX1_debtsOf cX1_debtsOf 2 (some .int), Cond.fieldLink RX1 15 "Groupbooks$Books" "ownDebts" "[I", Cond.instanceMethod yX1_equityOf, Cond.selects RX1 yX1_equityOf yX1_equityOf, Cond.code yX1_equityOf cX1_equityOf 2 (some .int), Cond.fieldLink RX1 18 "Groupbooks$Books" "ownEquities" "[I", Cond.fieldLink RX1 30 "Groupbooks$Books" "historicalRates" "[I", Cond.instanceMethod yX1_profitOf, Cond.selects RX1 yX1_profitOf yX1_profitOf, Cond.code yX1_profitOf cX1_profitOf 2 (some .int), Cond.fieldLink RX1 21 "Groupbooks$Books" "ownProfits" "[I", Cond.fieldLink RX1 27 "Groupbooks$Books" "averageRates" "[I"]
def wsX3_reserve : List Cond := .code yX3_reserve cX3_reserve 2 (some .int) :: ((wsX3_reserve_r1 ++ wsX3_reserve_r2) ++ wsX30 ++ wsX10 ++ (vx_atS RX3 159 "java/lang/IllegalArgumentException" ["java/lang/RuntimeException", "java/lang/Exception"]).filter goodWord)
def wsX3_claim : List Cond := .code yX3_claim cX3_claim 4 (some .int) :: ([.constant RX3 61 (1000000), .fieldLink RX3 26 "Groupbooks" "balances" "LGroupbooks$Balances;", .methodLink RX3 41 yX3_requireTwoCompanies, .static yX3_requireTwoCompanies, .initialized RX3, .code yX3_requireTwoCompanies cX3_requireTwoCompanies 2 none, .classLink RX3 155 "java/lang/IllegalArgumentException", .initialized "java/lang/IllegalArgumentException", .methodLink RX3 71 yX3_requireCompany, .static yX3_requireCompany, .code yX3_requireCompany cX3_requireCompany 1 none, .methodLink RX3 45 yX3_requireRange, .static yX3_requireRange, .code yX3_requireRange cX3_requireRange 3 none, .instanceMethod yX0_replaceClaim, .initialized RX0, .selects RX0 yX0_replaceClaim yX0_replaceClaim, .code yX0_replaceClaim cX0_replaceClaim 6 (some .int), .fieldLink RX0 9 "Groupbooks$Balances" "claims" "[I", .static yX3_pair, .code yX3_pair cX3_pair 2 (some .int)] ++ wsX30 ++ wsX00 ++ (vx_atS RX3 159 "java/lang/IllegalArgumentException" ["java/lang/RuntimeException", "java/lang/Exception"]).filter goodWord)
def wsX3_admit : List Cond := .code yX3_admit cX3_admit 4 (some .int) :: ([.constant RX3 61 (1000000), .fieldLink RX3 26 "Groupbooks" "balances" "LGroupbooks$Balances;", .methodLink RX3 41 yX3_requireTwoCompanies, .static yX3_requireTwoCompanies, .initialized RX3, .code yX3_requireTwoCompanies cX3_requireTwoCompanies 2 none, .classLink RX3 155 "java/lang/IllegalArgumentException", .initialized "java/lang/IllegalArgumentException", .methodLink RX3 71 yX3_requireCompany, .static yX3_requireCompany, .code yX3_requireCompany cX3_requireCompany 1 none, .methodLink RX3 45 yX3_requireRange, .static yX3_requireRange, .code yX3_requireRange cX3_requireRange 3 none, .instanceMethod yX0_replaceAdmitted, .initialized RX0, .selects RX0 yX0_replaceAdmitted yX0_replaceAdmitted, .code yX0_replaceAdmitted cX0_replaceAdmitted 6 (some .int), .fieldLink RX0 15 "Groupbooks$Balances" "admissions" "[I", .static yX3_pair, .code yX3_pair cX3_pair 2 (some .int)] ++ wsX30 ++ wsX00 ++ (vx_atS RX3 159 "java/lang/IllegalArgumentException" ["java/lang/RuntimeException", "java/lang/Exception"]).filter goodWord)
def wsX3_difference : List Cond := .code yX3_difference cX3_difference 3 (some .int) :: ([.fieldLink RX3 26 "Groupbooks" "balances" "LGroupbooks$Balances;", .methodLink RX3 41 yX3_requireTwoCompanies, .static yX3_requireTwoCompanies, .initialized RX3, .code yX3_requireTwoCompanies cX3_requireTwoCompanies 2 none, .classLink RX3 155 "java/lang/IllegalArgumentException", .initialized "java/lang/IllegalArgumentException", .methodLink RX3 71 yX3_requireCompany, .static yX3_requireCompany, .code yX3_requireCompany cX3_requireCompany 1 none, .methodLink RX3 45 yX3_requireRange, .static yX3_requireRange, .code yX3_requireRange cX3_requireRange 3 none, .instanceMethod yX0_disputed, .initialized RX0, .selects RX0 yX0_disputed yX0_disputed, .code yX0_disputed cX0_disputed 4 (some .int), .fieldLink RX0 9 "Groupbooks$Balances" "claims" "[I", .fieldLink RX0 15 "Groupbooks$Balances" "admissions" "[I", .static yX3_pair, .code yX3_pair cX3_pair 2 (some .int)] ++ wsX30 ++ wsX00 ++ (vx_atS RX3 159 "java/lang/IllegalArgumentException" ["java/lang/RuntimeException", "java/lang/Exception"]).filter goodWord)
def wsX3_eliminated_r1 : List Cond := [Cond.fieldLink RX3 26 "Groupbooks" "balances" "LGroupbooks$Balances;", Cond.fieldLink RX3 10 "Groupbooks" "holdings" "LGroupbooks$Holdings;", Cond.instanceMethod yX2_members, Cond.initialized RX2, Cond.selects RX2 yX2_members yX2_members, Cond.code yX2_members cX2_members 3 (some .int), Cond.methodLink RX2 77 yX2_withControlled, Cond.instanceMethod yX2_withControlled, Cond.selects RX2 yX2_withControlled yX2_withControlled, Cond.code yX2_withControlled cX2_withControlled 4 (some .int), Cond.methodLink RX2 80 yX2_heldAmong, Cond.instanceMethod yX2_heldAmong, Cond.selects RX2 yX2_heldAmong yX2_heldAmong, Cond.code yX2_heldAmong cX2_heldAmong 5 (some .int), Cond.fieldLink RX2 9 "Groupbooks$Holdings" "percents" "[I", Cond.static yX3_isMember, Cond.initialized RX3, Cond.code yX3_isMember cX3_isMember 2 (some .boolean), Cond.static yX3_pair, Cond.code yX3_pair cX3_pair 2 (some .int), Cond.instanceMethod yX0_agreedAmong, Cond.initialized RX0, Cond.selects RX0 yX0_agreedAmong yX0_agreedAmong, Cond.code yX0_agreedAmong cX0_agreedAmong 6 (some .int)]
def wsX3_eliminated_r2 : List Cond := [Cond.fieldLink RX0 9 "Groupbooks$Balances" "claims" "[I", Cond.fieldLink RX0 15 "Groupbooks$Balances" "admissions" "[I", Cond.methodLink RX0 26 Lib.Math.min.name, Cond.static Lib.Math.min.name, Cond.initialized "java/lang/Math", Cond.code Lib.Math.min.name Lib.Math.min.code 2 (some .int)]
def wsX3_eliminated : List Cond := .code yX3_eliminated cX3_eliminated 1 (some .int) :: ((wsX3_eliminated_r1 ++ wsX3_eliminated_r2) ++ wsX30 ++ wsX20 ++ wsX00)
def wsX3_assets_r1 : List Cond := [Cond.fieldLink RX3 10 "Groupbooks" "holdings" "LGroupbooks$Holdings;", Cond.fieldLink RX3 19 "Groupbooks" "books" "LGroupbooks$Books;", Cond.fieldLink RX3 26 "Groupbooks" "balances" "LGroupbooks$Balances;", Cond.instanceMethod yX2_members, Cond.initialized RX2, Cond.selects RX2 yX2_members yX2_members, Cond.code yX2_members cX2_members 3 (some .int), Cond.methodLink RX2 77 yX2_withControlled, Cond.instanceMethod yX2_withControlled, Cond.selects RX2 yX2_withControlled yX2_withControlled, Cond.code yX2_withControlled cX2_withControlled 4 (some .int), Cond.methodLink RX2 80 yX2_heldAmong, Cond.instanceMethod yX2_heldAmong, Cond.selects RX2 yX2_heldAmong yX2_heldAmong, Cond.code yX2_heldAmong cX2_heldAmong 5 (some .int), Cond.fieldLink RX2 9 "Groupbooks$Holdings" "percents" "[I", Cond.static yX3_isMember, Cond.initialized RX3, Cond.code yX3_isMember cX3_isMember 2 (some .boolean), Cond.static yX3_pair, Cond.code yX3_pair cX3_pair 2 (some .int), Cond.methodLink RX3 120 yX3_isMember, Cond.instanceMethod yX1_assetsOf, Cond.initialized RX1]
def wsX3_assets_r2 : List Cond := [Cond.selects RX1 yX1_assetsOf yX1_assetsOf, Cond.code yX1_assetsOf cX1_assetsOf 2 (some .int), Cond.fieldLink RX1 9 "Groupbooks$Books" "ownAssets" "[I", Cond.fieldLink RX1 24 "Groupbooks$Books" "closingRates" "[I", Cond.methodLink RX1 33 yX1_translate, Cond.static yX1_translate, Cond.code yX1_translate cX1_translate 2 (some .int), Cond.methodLink RX1 44 yJ9_floorDiv_7cf53, Cond.static yJ9_floorDiv_7cf53, Cond.initialized RJ9, Cond.code yJ9_floorDiv_7cf53 cJ9_floorDiv_7cf53 3 (some .int), Cond.instanceMethod yX0_agreedAmong, Cond.initialized RX0, Cond.selects RX0 yX0_agreedAmong yX0_agreedAmong, Cond.code yX0_agreedAmong cX0_agreedAmong 6 (some .int), Cond.fieldLink RX0 9 "Groupbooks$Balances" "claims" "[I", Cond.fieldLink RX0 15 "Groupbooks$Balances" "admissions" "[I", Cond.methodLink RX0 26 Lib.Math.min.name, Cond.static Lib.Math.min.name, Cond.initialized "java/lang/Math", Cond.code Lib.Math.min.name Lib.Math.min.code 2 (some .int)]
def wsX3_assets : List Cond := .code yX3_assets cX3_assets 4 (some .int) :: ((wsX3_assets_r1 ++ wsX3_assets_r2) ++ wsX30 ++ wsX20 ++ wsX10 ++ wsX00)
def wsX3_debts_r1 : List Cond := [Cond.fieldLink RX3 10 "Groupbooks" "holdings" "LGroupbooks$Holdings;", Cond.fieldLink RX3 19 "Groupbooks" "books" "LGroupbooks$Books;", Cond.fieldLink RX3 26 "Groupbooks" "balances" "LGroupbooks$Balances;", Cond.instanceMethod yX2_members, Cond.initialized RX2, Cond.selects RX2 yX2_members yX2_members, Cond.code yX2_members cX2_members 3 (some .int), Cond.methodLink RX2 77 yX2_withControlled, Cond.instanceMethod yX2_withControlled, Cond.selects RX2 yX2_withControlled yX2_withControlled, Cond.code yX2_withControlled cX2_withControlled 4 (some .int), Cond.methodLink RX2 80 yX2_heldAmong, Cond.instanceMethod yX2_heldAmong, Cond.selects RX2 yX2_heldAmong yX2_heldAmong, Cond.code yX2_heldAmong cX2_heldAmong 5 (some .int), Cond.fieldLink RX2 9 "Groupbooks$Holdings" "percents" "[I", Cond.static yX3_isMember, Cond.initialized RX3, Cond.code yX3_isMember cX3_isMember 2 (some .boolean), Cond.static yX3_pair, Cond.code yX3_pair cX3_pair 2 (some .int), Cond.methodLink RX3 120 yX3_isMember, Cond.instanceMethod yX1_debtsOf, Cond.initialized RX1]
def wsX3_debts_r2 : List Cond := [Cond.selects RX1 yX1_debtsOf yX1_debtsOf, Cond.code yX1_debtsOf cX1_debtsOf 2 (some .int), Cond.fieldLink RX1 15 "Groupbooks$Books" "ownDebts" "[I", Cond.fieldLink RX1 24 "Groupbooks$Books" "closingRates" "[I", Cond.methodLink RX1 33 yX1_translate, Cond.static yX1_translate, Cond.code yX1_translate cX1_translate 2 (some .int), Cond.methodLink RX1 44 yJ9_floorDiv_7cf53, Cond.static yJ9_floorDiv_7cf53, Cond.initialized RJ9, Cond.code yJ9_floorDiv_7cf53 cJ9_floorDiv_7cf53 3 (some .int), Cond.instanceMethod yX0_agreedAmong, Cond.initialized RX0, Cond.selects RX0 yX0_agreedAmong yX0_agreedAmong, Cond.code yX0_agreedAmong cX0_agreedAmong 6 (some .int), Cond.fieldLink RX0 9 "Groupbooks$Balances" "claims" "[I", Cond.fieldLink RX0 15 "Groupbooks$Balances" "admissions" "[I", Cond.methodLink RX0 26 Lib.Math.min.name, Cond.static Lib.Math.min.name, Cond.initialized "java/lang/Math", Cond.code Lib.Math.min.name Lib.Math.min.code 2 (some .int)]
def wsX3_debts : List Cond := .code yX3_debts cX3_debts 4 (some .int) :: ((wsX3_debts_r1 ++ wsX3_debts_r2) ++ wsX30 ++ wsX20 ++ wsX10 ++ wsX00)
def wsX3_minorityAmong_r1 : List Cond := [Cond.fieldLink RX3 10 "Groupbooks" "holdings" "LGroupbooks$Holdings;", Cond.fieldLink RX3 19 "Groupbooks" "books" "LGroupbooks$Books;", Cond.methodLink RX3 120 yX3_isMember, Cond.static yX3_isMember, Cond.initialized RX3, Cond.code yX3_isMember cX3_isMember 2 (some .boolean), Cond.instanceMethod yX1_netOf, Cond.initialized RX1, Cond.selects RX1 yX1_netOf yX1_netOf, Cond.code yX1_netOf cX1_netOf 2 (some .int), Cond.methodLink RX1 37 yX1_assetsOf, Cond.instanceMethod yX1_assetsOf, Cond.selects RX1 yX1_assetsOf yX1_assetsOf, Cond.code yX1_assetsOf cX1_assetsOf 2 (some .int), Cond.fieldLink RX1 9 "Groupbooks$Books" "ownAssets" "[I", Cond.fieldLink RX1 24 "Groupbooks$Books" "closingRates" "[I", Cond.methodLink RX1 33 yX1_translate, Cond.static yX1_translate, Cond.code yX1_translate cX1_translate 2 (some .int), Cond.methodLink RX1 44 yJ9_floorDiv_7cf53, Cond.static yJ9_floorDiv_7cf53, Cond.initialized RJ9, Cond.code yJ9_floorDiv_7cf53 cJ9_floorDiv_7cf53 3 (some .int), Cond.methodLink RX1 41 yX1_debtsOf]
def wsX3_minorityAmong_r2 : List Cond := [Cond.instanceMethod yX1_debtsOf, Cond.selects RX1 yX1_debtsOf yX1_debtsOf, Cond.code yX1_debtsOf cX1_debtsOf 2 (some .int), Cond.fieldLink RX1 15 "Groupbooks$Books" "ownDebts" "[I", Cond.instanceMethod yX2_partOfOthers, Cond.initialized RX2, Cond.selects RX2 yX2_partOfOthers yX2_partOfOthers, Cond.code yX2_partOfOthers cX2_partOfOthers 5 (some .int), Cond.fieldLink RX2 19 "Groupbooks$Holdings" "denominators" "[J", Cond.fieldLink RX2 15 "Groupbooks$Holdings" "numerators" "[J", Cond.methodLink RX2 35 yX2_scale, Cond.static yX2_scale, Cond.code yX2_scale cX2_scale 5 (some .int), Cond.methodLink RX2 39 yJ9_floorDiv_f86c9, Cond.static yJ9_floorDiv_f86c9, Cond.code yJ9_floorDiv_f86c9 cJ9_floorDiv_f86c9 6 (some .long)]
def wsX3_minorityAmong : List Cond := .code yX3_minorityAmong cX3_minorityAmong 3 (some .int) :: ((wsX3_minorityAmong_r1 ++ wsX3_minorityAmong_r2) ++ wsX30 ++ wsX10 ++ wsX20)
def wsX3_minority_r1 : List Cond := [Cond.fieldLink RX3 10 "Groupbooks" "holdings" "LGroupbooks$Holdings;", Cond.methodLink RX3 71 yX3_requireCompany, Cond.static yX3_requireCompany, Cond.initialized RX3, Cond.code yX3_requireCompany cX3_requireCompany 1 none, Cond.methodLink RX3 45 yX3_requireRange, Cond.static yX3_requireRange, Cond.code yX3_requireRange cX3_requireRange 3 none, Cond.classLink RX3 155 "java/lang/IllegalArgumentException", Cond.initialized "java/lang/IllegalArgumentException", Cond.instanceMethod yX2_members, Cond.initialized RX2, Cond.selects RX2 yX2_members yX2_members, Cond.code yX2_members cX2_members 3 (some .int), Cond.methodLink RX2 77 yX2_withControlled, Cond.instanceMethod yX2_withControlled, Cond.selects RX2 yX2_withControlled yX2_withControlled, Cond.code yX2_withControlled cX2_withControlled 4 (some .int), Cond.methodLink RX2 80 yX2_heldAmong, Cond.instanceMethod yX2_heldAmong, Cond.selects RX2 yX2_heldAmong yX2_heldAmong, Cond.code yX2_heldAmong cX2_heldAmong 5 (some .int), Cond.fieldLink RX2 9 "Groupbooks$Holdings" "percents" "[I", Cond.static yX3_isMember]
def wsX3_minority_r2 : List Cond := [Cond.code yX3_isMember cX3_isMember 2 (some .boolean), Cond.static yX3_pair, Cond.code yX3_pair cX3_pair 2 (some .int), Cond.methodLink RX3 130 yX3_minorityAmong, Cond.instanceMethod yX3_minorityAmong, Cond.selects RX3 yX3_minorityAmong yX3_minorityAmong, Cond.code yX3_minorityAmong cX3_minorityAmong 3 (some .int), Cond.fieldLink RX3 19 "Groupbooks" "books" "LGroupbooks$Books;", Cond.methodLink RX3 120 yX3_isMember, Cond.instanceMethod yX1_netOf, Cond.initialized RX1, Cond.selects RX1 yX1_netOf yX1_netOf, Cond.code yX1_netOf cX1_netOf 2 (some .int), Cond.methodLink RX1 37 yX1_assetsOf, Cond.instanceMethod yX1_assetsOf, Cond.selects RX1 yX1_assetsOf yX1_assetsOf, Cond.code yX1_assetsOf cX1_assetsOf 2 (some .int), Cond.fieldLink RX1 9 "Groupbooks$Books" "ownAssets" "[I", Cond.fieldLink RX1 24 "Groupbooks$Books" "closingRates" "[I", Cond.methodLink RX1 33 yX1_translate, Cond.static yX1_translate, Cond.code yX1_translate cX1_translate 2 (some .int), Cond.methodLink RX1 44 yJ9_floorDiv_7cf53, Cond.static yJ9_floorDiv_7cf53]
def wsX3_minority_r3 : List Cond := [Cond.initialized RJ9, Cond.code yJ9_floorDiv_7cf53 cJ9_floorDiv_7cf53 3 (some .int), Cond.methodLink RX1 41 yX1_debtsOf, Cond.instanceMethod yX1_debtsOf, Cond.selects RX1 yX1_debtsOf yX1_debtsOf, Cond.code yX1_debtsOf cX1_debtsOf 2 (some .int), Cond.fieldLink RX1 15 "Groupbooks$Books" "ownDebts" "[I", Cond.instanceMethod yX2_partOfOthers, Cond.selects RX2 yX2_partOfOthers yX2_partOfOthers, Cond.code yX2_partOfOthers cX2_partOfOthers 5 (some .int), Cond.fieldLink RX2 19 "Groupbooks$Holdings" "denominators" "[J", Cond.fieldLink RX2 15 "Groupbooks$Holdings" "numerators" "[J", Cond.methodLink RX2 35 yX2_scale, Cond.static yX2_scale, Cond.code yX2_scale cX2_scale 5 (some .int), Cond.methodLink RX2 39 yJ9_floorDiv_f86c9, Cond.static yJ9_floorDiv_f86c9, Cond.code yJ9_floorDiv_f86c9 cJ9_floorDiv_f86c9 6 (some .long)]
def wsX3_minority : List Cond := .code yX3_minority cX3_minority 2 (some .int) :: ((wsX3_minority_r1 ++ (wsX3_minority_r2 ++ wsX3_minority_r3)) ++ wsX30 ++ wsX20 ++ wsX10 ++ (vx_atS RX3 159 "java/lang/IllegalArgumentException" ["java/lang/RuntimeException", "java/lang/Exception"]).filter goodWord)
def wsX3_equity_r1 : List Cond := [Cond.fieldLink RX3 10 "Groupbooks" "holdings" "LGroupbooks$Holdings;", Cond.instanceMethod yX2_members, Cond.initialized RX2, Cond.selects RX2 yX2_members yX2_members, Cond.code yX2_members cX2_members 3 (some .int), Cond.methodLink RX2 77 yX2_withControlled, Cond.instanceMethod yX2_withControlled, Cond.selects RX2 yX2_withControlled yX2_withControlled, Cond.code yX2_withControlled cX2_withControlled 4 (some .int), Cond.methodLink RX2 80 yX2_heldAmong, Cond.instanceMethod yX2_heldAmong, Cond.selects RX2 yX2_heldAmong yX2_heldAmong, Cond.code yX2_heldAmong cX2_heldAmong 5 (some .int), Cond.fieldLink RX2 9 "Groupbooks$Holdings" "percents" "[I", Cond.static yX3_isMember, Cond.initialized RX3, Cond.code yX3_isMember cX3_isMember 2 (some .boolean), Cond.static yX3_pair, Cond.code yX3_pair cX3_pair 2 (some .int), Cond.methodLink RX3 130 yX3_minorityAmong, Cond.instanceMethod yX3_minorityAmong, Cond.selects RX3 yX3_minorityAmong yX3_minorityAmong, Cond.code yX3_minorityAmong cX3_minorityAmong 3 (some .int), Cond.fieldLink RX3 19 "Groupbooks" "books" "LGroupbooks$Books;"]
def wsX3_equity_r2 : List Cond := [Cond.methodLink RX3 120 yX3_isMember, Cond.instanceMethod yX1_netOf, Cond.initialized RX1, Cond.selects RX1 yX1_netOf yX1_netOf, Cond.code yX1_netOf cX1_netOf 2 (some .int), Cond.methodLink RX1 37 yX1_assetsOf, Cond.instanceMethod yX1_assetsOf, Cond.selects RX1 yX1_assetsOf yX1_assetsOf, Cond.code yX1_assetsOf cX1_assetsOf 2 (some .int), Cond.fieldLink RX1 9 "Groupbooks$Books" "ownAssets" "[I", Cond.fieldLink RX1 24 "Groupbooks$Books" "closingRates" "[I", Cond.methodLink RX1 33 yX1_translate, Cond.static yX1_translate, Cond.code yX1_translate cX1_translate 2 (some .int), Cond.methodLink RX1 44 yJ9_floorDiv_7cf53, Cond.static yJ9_floorDiv_7cf53, Cond.initialized RJ9, Cond.code yJ9_floorDiv_7cf53 cJ9_floorDiv_7cf53 3 (some .int), Cond.methodLink RX1 41 yX1_debtsOf, Cond.instanceMethod yX1_debtsOf, Cond.selects RX1 yX1_debtsOf yX1_debtsOf, Cond.code yX1_debtsOf cX1_debtsOf 2 (some .int), Cond.fieldLink RX1 15 "Groupbooks$Books" "ownDebts" "[I", Cond.instanceMethod yX2_partOfOthers]
def wsX3_equity_r3 : List Cond := [Cond.selects RX2 yX2_partOfOthers yX2_partOfOthers, Cond.code yX2_partOfOthers cX2_partOfOthers 5 (some .int), Cond.fieldLink RX2 19 "Groupbooks$Holdings" "denominators" "[J", Cond.fieldLink RX2 15 "Groupbooks$Holdings" "numerators" "[J", Cond.methodLink RX2 35 yX2_scale, Cond.static yX2_scale, Cond.code yX2_scale cX2_scale 5 (some .int), Cond.methodLink RX2 39 yJ9_floorDiv_f86c9, Cond.static yJ9_floorDiv_f86c9, Cond.code yJ9_floorDiv_f86c9 cJ9_floorDiv_f86c9 6 (some .long), Cond.methodLink RX3 133 yX3_assets, Cond.instanceMethod yX3_assets, Cond.selects RX3 yX3_assets yX3_assets, Cond.code yX3_assets cX3_assets 4 (some .int), Cond.fieldLink RX3 26 "Groupbooks" "balances" "LGroupbooks$Balances;", Cond.instanceMethod yX0_agreedAmong, Cond.initialized RX0, Cond.selects RX0 yX0_agreedAmong yX0_agreedAmong, Cond.code yX0_agreedAmong cX0_agreedAmong 6 (some .int), Cond.fieldLink RX0 9 "Groupbooks$Balances" "claims" "[I", Cond.fieldLink RX0 15 "Groupbooks$Balances" "admissions" "[I", Cond.methodLink RX0 26 Lib.Math.min.name, Cond.static Lib.Math.min.name, Cond.initialized "java/lang/Math"]
def wsX3_equity_r4 : List Cond := [Cond.code Lib.Math.min.name Lib.Math.min.code 2 (some .int), Cond.methodLink RX3 136 yX3_debts, Cond.instanceMethod yX3_debts, Cond.selects RX3 yX3_debts yX3_debts, Cond.code yX3_debts cX3_debts 4 (some .int)]
def wsX3_equity : List Cond := .code yX3_equity cX3_equity 4 (some .int) :: ((wsX3_equity_r1 ++ (wsX3_equity_r2 ++ (wsX3_equity_r3 ++ wsX3_equity_r4))) ++ wsX30 ++ wsX20 ++ wsX10 ++ wsX00)
def wsX3_result_r1 : List Cond := [Cond.fieldLink RX3 10 "Groupbooks" "holdings" "LGroupbooks$Holdings;", Cond.fieldLink RX3 19 "Groupbooks" "books" "LGroupbooks$Books;", Cond.instanceMethod yX2_members, Cond.initialized RX2, Cond.selects RX2 yX2_members yX2_members, Cond.code yX2_members cX2_members 3 (some .int), Cond.methodLink RX2 77 yX2_withControlled, Cond.instanceMethod yX2_withControlled, Cond.selects RX2 yX2_withControlled yX2_withControlled, Cond.code yX2_withControlled cX2_withControlled 4 (some .int), Cond.methodLink RX2 80 yX2_heldAmong, Cond.instanceMethod yX2_heldAmong, Cond.selects RX2 yX2_heldAmong yX2_heldAmong, Cond.code yX2_heldAmong cX2_heldAmong 5 (some .int), Cond.fieldLink RX2 9 "Groupbooks$Holdings" "percents" "[I", Cond.static yX3_isMember, Cond.initialized RX3, Cond.code yX3_isMember cX3_isMember 2 (some .boolean), Cond.static yX3_pair, Cond.code yX3_pair cX3_pair 2 (some .int), Cond.methodLink RX3 120 yX3_isMember, Cond.instanceMethod yX1_profitOf, Cond.initialized RX1, Cond.selects RX1 yX1_profitOf yX1_profitOf]
def wsX3_result_r2 : List Cond := [Cond.code yX1_profitOf cX1_profitOf 2 (some .int), Cond.fieldLink RX1 21 "Groupbooks$Books" "ownProfits" "[I", Cond.fieldLink RX1 27 "Groupbooks$Books" "averageRates" "[I", Cond.methodLink RX1 33 yX1_translate, Cond.static yX1_translate, Cond.code yX1_translate cX1_translate 2 (some .int), Cond.methodLink RX1 44 yJ9_floorDiv_7cf53, Cond.static yJ9_floorDiv_7cf53, Cond.initialized RJ9, Cond.code yJ9_floorDiv_7cf53 cJ9_floorDiv_7cf53 3 (some .int), Cond.instanceMethod yX2_partOfParent, Cond.selects RX2 yX2_partOfParent yX2_partOfParent, Cond.code yX2_partOfParent cX2_partOfParent 3 (some .int), Cond.fieldLink RX2 15 "Groupbooks$Holdings" "numerators" "[J", Cond.fieldLink RX2 19 "Groupbooks$Holdings" "denominators" "[J", Cond.methodLink RX2 35 yX2_scale, Cond.static yX2_scale, Cond.code yX2_scale cX2_scale 5 (some .int), Cond.methodLink RX2 39 yJ9_floorDiv_f86c9, Cond.static yJ9_floorDiv_f86c9, Cond.code yJ9_floorDiv_f86c9 cJ9_floorDiv_f86c9 6 (some .long)]
def wsX3_result : List Cond := .code yX3_result cX3_result 4 (some .int) :: ((wsX3_result_r1 ++ wsX3_result_r2) ++ wsX30 ++ wsX20 ++ wsX10)
def wsX3_close_r1 : List Cond := [Cond.classLink RX3 142 "java/lang/IllegalStateException", Cond.initialized "java/lang/IllegalStateException", Cond.fieldLink RX3 37 "Groupbooks" "closedPeriods" "I", Cond.fieldLink RX3 34 "Groupbooks" "periodResults" "[I", Cond.fieldLink RX3 19 "Groupbooks" "books" "LGroupbooks$Books;", Cond.methodLink RX3 149 yX3_result, Cond.instanceMethod yX3_result, Cond.selects RX3 yX3_result yX3_result, Cond.initialized RX3, Cond.code yX3_result cX3_result 4 (some .int), Cond.fieldLink RX3 10 "Groupbooks" "holdings" "LGroupbooks$Holdings;", Cond.instanceMethod yX2_members, Cond.initialized RX2, Cond.selects RX2 yX2_members yX2_members, Cond.code yX2_members cX2_members 3 (some .int), Cond.methodLink RX2 77 yX2_withControlled, Cond.instanceMethod yX2_withControlled, Cond.selects RX2 yX2_withControlled yX2_withControlled, Cond.code yX2_withControlled cX2_withControlled 4 (some .int), Cond.methodLink RX2 80 yX2_heldAmong, Cond.instanceMethod yX2_heldAmong, Cond.selects RX2 yX2_heldAmong yX2_heldAmong, Cond.code yX2_heldAmong cX2_heldAmong 5 (some .int), Cond.fieldLink RX2 9 "Groupbooks$Holdings" "percents" "[I"]
def wsX3_close_r2 : List Cond := [Cond.static yX3_isMember, Cond.code yX3_isMember cX3_isMember 2 (some .boolean), Cond.static yX3_pair, Cond.code yX3_pair cX3_pair 2 (some .int), Cond.methodLink RX3 120 yX3_isMember, Cond.instanceMethod yX1_profitOf, Cond.initialized RX1, Cond.selects RX1 yX1_profitOf yX1_profitOf, Cond.code yX1_profitOf cX1_profitOf 2 (some .int), Cond.fieldLink RX1 21 "Groupbooks$Books" "ownProfits" "[I", Cond.fieldLink RX1 27 "Groupbooks$Books" "averageRates" "[I", Cond.methodLink RX1 33 yX1_translate, Cond.static yX1_translate, Cond.code yX1_translate cX1_translate 2 (some .int), Cond.methodLink RX1 44 yJ9_floorDiv_7cf53, Cond.static yJ9_floorDiv_7cf53, Cond.initialized RJ9, Cond.code yJ9_floorDiv_7cf53 cJ9_floorDiv_7cf53 3 (some .int), Cond.instanceMethod yX2_partOfParent, Cond.selects RX2 yX2_partOfParent yX2_partOfParent, Cond.code yX2_partOfParent cX2_partOfParent 3 (some .int), Cond.fieldLink RX2 15 "Groupbooks$Holdings" "numerators" "[J", Cond.fieldLink RX2 19 "Groupbooks$Holdings" "denominators" "[J", Cond.methodLink RX2 35 yX2_scale]
def wsX3_close_r3 : List Cond := [Cond.static yX2_scale, Cond.code yX2_scale cX2_scale 5 (some .int), Cond.methodLink RX2 39 yJ9_floorDiv_f86c9, Cond.static yJ9_floorDiv_f86c9, Cond.code yJ9_floorDiv_f86c9 cJ9_floorDiv_f86c9 6 (some .long), Cond.instanceMethod yX1_carryResults, Cond.selects RX1 yX1_carryResults yX1_carryResults, Cond.code yX1_carryResults cX1_carryResults 2 none, Cond.fieldLink RX1 18 "Groupbooks$Books" "ownEquities" "[I"]
def wsX3_close : List Cond := .code yX3_close cX3_close 2 (some .int) :: ((wsX3_close_r1 ++ (wsX3_close_r2 ++ wsX3_close_r3)) ++ wsX30 ++ wsX20 ++ wsX10 ++ (vx_atS RX3 146 "java/lang/IllegalStateException" ["java/lang/RuntimeException", "java/lang/Exception"]).filter goodWord)
def wsX3_resultOf : List Cond := .code yX3_resultOf cX3_resultOf 2 (some .int) :: ([.classLink RX3 155 "java/lang/IllegalArgumentException", .initialized "java/lang/IllegalArgumentException", .fieldLink RX3 37 "Groupbooks" "closedPeriods" "I", .fieldLink RX3 34 "Groupbooks" "periodResults" "[I", .methodLink RX3 45 yX3_requireRange, .static yX3_requireRange, .initialized RX3, .code yX3_requireRange cX3_requireRange 3 none] ++ wsX30 ++ (vx_atS RX3 159 "java/lang/IllegalArgumentException" ["java/lang/RuntimeException", "java/lang/Exception"]).filter goodWord)
def wsX4_init : List Cond := .code yX4_init cX4_init 2 none :: ([.methodLink RX4 1 objectInit, .instanceMethod objectInit, .code objectInit ⟨#[0xb1]⟩ 1 none, .arrayClass .int, .fieldLink RX4 7 "GroupbooksModel" "held" "[I", .fieldLink RX4 13 "GroupbooksModel" "claimed" "[I", .fieldLink RX4 16 "GroupbooksModel" "admitted" "[I", .fieldLink RX4 19 "GroupbooksModel" "goodwill" "[I", .fieldLink RX4 22 "GroupbooksModel" "assets" "[I", .fieldLink RX4 25 "GroupbooksModel" "debts" "[I", .fieldLink RX4 28 "GroupbooksModel" "equity" "[I", .fieldLink RX4 31 "GroupbooksModel" "result" "[I", .fieldLink RX4 34 "GroupbooksModel" "closing" "[I", .fieldLink RX4 37 "GroupbooksModel" "average" "[I", .fieldLink RX4 40 "GroupbooksModel" "historical" "[I", .fieldLink RX4 43 "GroupbooksModel" "kept" "[I", .arrayClass .long, .fieldLink RX4 46 "GroupbooksModel" "square" "[J", .fieldLink RX4 50 "GroupbooksModel" "above" "[J", .fieldLink RX4 53 "GroupbooksModel" "below" "[J", .fieldLink RX4 56 "GroupbooksModel" "now" "[I", .fieldLink RX4 59 "GroupbooksModel" "then" "[I"] ++ wsX40)
def wsX4_thrown : List Cond := .code yX4_thrown cX4_thrown 1 (some .int) :: ([.fieldLink RX4 62 "GroupbooksModel" "thrown" "I"] ++ wsX40)
def wsX4_fails : List Cond := .code yX4_fails cX4_fails 2 (some .int) :: ([.fieldLink RX4 62 "GroupbooksModel" "thrown" "I"] ++ wsX40)
def wsX4_in : List Cond := .code yX4_in cX4_in 3 (some .boolean) :: ([])
def wsX4_isCompany : List Cond := .code yX4_isCompany cX4_isCompany 1 (some .boolean) :: ([.methodLink RX4 66 yX4_in, .static yX4_in, .initialized RX4, .code yX4_in cX4_in 3 (some .boolean)])
def wsX4_isPair : List Cond := .code yX4_isPair cX4_isPair 2 (some .boolean) :: ([.methodLink RX4 70 yX4_isCompany, .static yX4_isCompany, .initialized RX4, .code yX4_isCompany cX4_isCompany 1 (some .boolean), .methodLink RX4 66 yX4_in, .static yX4_in, .code yX4_in cX4_in 3 (some .boolean)])
def wsX4_floor : List Cond := .code yX4_floor cX4_floor 6 (some .long) :: ([])
def wsX4_laySquare : List Cond := .code yX4_laySquare cX4_laySquare 5 none :: ([.fieldLink RX4 7 "GroupbooksModel" "held" "[I", .fieldLink RX4 46 "GroupbooksModel" "square" "[J"] ++ wsX40)
def wsX4_exchange : List Cond := .code yX4_exchange cX4_exchange 6 none :: ([.fieldLink RX4 46 "GroupbooksModel" "square" "[J"] ++ wsX40)
def wsX4_determinant : List Cond := .code yX4_determinant cX4_determinant 9 (some .long) :: ([.fieldLink RX4 46 "GroupbooksModel" "square" "[J", .methodLink RX4 74 yX4_exchange, .instanceMethod yX4_exchange, .selects RX4 yX4_exchange yX4_exchange, .initialized RX4, .code yX4_exchange cX4_exchange 6 none] ++ wsX40)
def wsX4_common : List Cond := .code yX4_common cX4_common 10 (some .long) :: ([])
def wsX4_layShares : List Cond := .code yX4_layShares cX4_layShares 8 (some .boolean) :: ([.fieldLink RX4 50 "GroupbooksModel" "above" "[J", .fieldLink RX4 53 "GroupbooksModel" "below" "[J", .methodLink RX4 78 yX4_laySquare, .instanceMethod yX4_laySquare, .selects RX4 yX4_laySquare yX4_laySquare, .initialized RX4, .code yX4_laySquare cX4_laySquare 5 none, .fieldLink RX4 7 "GroupbooksModel" "held" "[I", .fieldLink RX4 46 "GroupbooksModel" "square" "[J", .methodLink RX4 82 yX4_determinant, .instanceMethod yX4_determinant, .selects RX4 yX4_determinant yX4_determinant, .code yX4_determinant cX4_determinant 9 (some .long), .methodLink RX4 74 yX4_exchange, .instanceMethod yX4_exchange, .selects RX4 yX4_exchange yX4_exchange, .code yX4_exchange cX4_exchange 6 none, .methodLink RX4 86 yX4_common, .static yX4_common, .code yX4_common cX4_common 10 (some .long)] ++ wsX40)
def wsX4_sets : List Cond := .code yX4_sets cX4_sets 7 (some .boolean) :: ([.fieldLink RX4 7 "GroupbooksModel" "held" "[I", .methodLink RX4 90 yX4_layShares, .instanceMethod yX4_layShares, .selects RX4 yX4_layShares yX4_layShares, .initialized RX4, .code yX4_layShares cX4_layShares 8 (some .boolean), .fieldLink RX4 50 "GroupbooksModel" "above" "[J", .fieldLink RX4 53 "GroupbooksModel" "below" "[J", .methodLink RX4 78 yX4_laySquare, .instanceMethod yX4_laySquare, .selects RX4 yX4_laySquare yX4_laySquare, .code yX4_laySquare cX4_laySquare 5 none, .fieldLink RX4 46 "GroupbooksModel" "square" "[J", .methodLink RX4 82 yX4_determinant, .instanceMethod yX4_determinant, .selects RX4 yX4_determinant yX4_determinant, .code yX4_determinant cX4_determinant 9 (some .long), .methodLink RX4 74 yX4_exchange, .instanceMethod yX4_exchange, .selects RX4 yX4_exchange yX4_exchange, .code yX4_exchange cX4_exchange 6 none, .methodLink RX4 86 yX4_common, .static yX4_common, .code yX4_common cX4_common 10 (some .long)] ++ wsX40)
def wsX4_hold_r1 : List Cond := [Cond.fieldLink RX4 62 "GroupbooksModel" "thrown" "I", Cond.fieldLink RX4 7 "GroupbooksModel" "held" "[I", Cond.methodLink RX4 94 yX4_isPair, Cond.static yX4_isPair, Cond.initialized RX4, Cond.code yX4_isPair cX4_isPair 2 (some .boolean), Cond.methodLink RX4 70 yX4_isCompany, Cond.static yX4_isCompany, Cond.code yX4_isCompany cX4_isCompany 1 (some .boolean), Cond.methodLink RX4 66 yX4_in, Cond.static yX4_in, Cond.code yX4_in cX4_in 3 (some .boolean), Cond.methodLink RX4 98 yX4_fails, Cond.instanceMethod yX4_fails, Cond.selects RX4 yX4_fails yX4_fails, Cond.code yX4_fails cX4_fails 2 (some .int), Cond.methodLink RX4 102 yX4_sets, Cond.instanceMethod yX4_sets, Cond.selects RX4 yX4_sets yX4_sets, Cond.code yX4_sets cX4_sets 7 (some .boolean), Cond.methodLink RX4 90 yX4_layShares, Cond.instanceMethod yX4_layShares, Cond.selects RX4 yX4_layShares yX4_layShares, Cond.code yX4_layShares cX4_layShares 8 (some .boolean)]
def wsX4_hold_r2 : List Cond := [Cond.fieldLink RX4 50 "GroupbooksModel" "above" "[J", Cond.fieldLink RX4 53 "GroupbooksModel" "below" "[J", Cond.methodLink RX4 78 yX4_laySquare, Cond.instanceMethod yX4_laySquare, Cond.selects RX4 yX4_laySquare yX4_laySquare, Cond.code yX4_laySquare cX4_laySquare 5 none, Cond.fieldLink RX4 46 "GroupbooksModel" "square" "[J", Cond.methodLink RX4 82 yX4_determinant, Cond.instanceMethod yX4_determinant, Cond.selects RX4 yX4_determinant yX4_determinant, Cond.code yX4_determinant cX4_determinant 9 (some .long), Cond.methodLink RX4 74 yX4_exchange, Cond.instanceMethod yX4_exchange, Cond.selects RX4 yX4_exchange yX4_exchange, Cond.code yX4_exchange cX4_exchange 6 none, Cond.methodLink RX4 86 yX4_common, Cond.static yX4_common, Cond.code yX4_common cX4_common 10 (some .long)]
def wsX4_hold : List Cond := .code yX4_hold cX4_hold 5 (some .int) :: ((wsX4_hold_r1 ++ wsX4_hold_r2) ++ wsX40)
def wsX4_translated : List Cond := .code yX4_translated cX4_translated 2 (some .int) :: ([.constantLong RX4 109 (100), .methodLink RX4 111 yX4_floor, .static yX4_floor, .initialized RX4, .code yX4_floor cX4_floor 6 (some .long)])
def wsX4_net : List Cond := .code yX4_net cX4_net 2 (some .int) :: ([.fieldLink RX4 22 "GroupbooksModel" "assets" "[I", .fieldLink RX4 34 "GroupbooksModel" "closing" "[I", .fieldLink RX4 25 "GroupbooksModel" "debts" "[I", .methodLink RX4 119 yX4_translated, .static yX4_translated, .initialized RX4, .code yX4_translated cX4_translated 2 (some .int), .constantLong RX4 109 (100), .methodLink RX4 111 yX4_floor, .static yX4_floor, .code yX4_floor cX4_floor 6 (some .long)] ++ wsX40)
def wsX4_acquire_r1 : List Cond := [Cond.fieldLink RX4 62 "GroupbooksModel" "thrown" "I", Cond.constant RX4 105 (1000000), Cond.fieldLink RX4 7 "GroupbooksModel" "held" "[I", Cond.fieldLink RX4 19 "GroupbooksModel" "goodwill" "[I", Cond.constantLong RX4 109 (100), Cond.methodLink RX4 94 yX4_isPair, Cond.static yX4_isPair, Cond.initialized RX4, Cond.code yX4_isPair cX4_isPair 2 (some .boolean), Cond.methodLink RX4 70 yX4_isCompany, Cond.static yX4_isCompany, Cond.code yX4_isCompany cX4_isCompany 1 (some .boolean), Cond.methodLink RX4 66 yX4_in, Cond.static yX4_in, Cond.code yX4_in cX4_in 3 (some .boolean), Cond.methodLink RX4 98 yX4_fails, Cond.instanceMethod yX4_fails, Cond.selects RX4 yX4_fails yX4_fails, Cond.code yX4_fails cX4_fails 2 (some .int), Cond.methodLink RX4 102 yX4_sets, Cond.instanceMethod yX4_sets, Cond.selects RX4 yX4_sets yX4_sets, Cond.code yX4_sets cX4_sets 7 (some .boolean), Cond.methodLink RX4 90 yX4_layShares]
def wsX4_acquire_r2 : List Cond := [Cond.instanceMethod yX4_layShares, Cond.selects RX4 yX4_layShares yX4_layShares, Cond.code yX4_layShares cX4_layShares 8 (some .boolean), Cond.fieldLink RX4 50 "GroupbooksModel" "above" "[J", Cond.fieldLink RX4 53 "GroupbooksModel" "below" "[J", Cond.methodLink RX4 78 yX4_laySquare, Cond.instanceMethod yX4_laySquare, Cond.selects RX4 yX4_laySquare yX4_laySquare, Cond.code yX4_laySquare cX4_laySquare 5 none, Cond.fieldLink RX4 46 "GroupbooksModel" "square" "[J", Cond.methodLink RX4 82 yX4_determinant, Cond.instanceMethod yX4_determinant, Cond.selects RX4 yX4_determinant yX4_determinant, Cond.code yX4_determinant cX4_determinant 9 (some .long), Cond.methodLink RX4 74 yX4_exchange, Cond.instanceMethod yX4_exchange, Cond.selects RX4 yX4_exchange yX4_exchange, Cond.code yX4_exchange cX4_exchange 6 none, Cond.methodLink RX4 86 yX4_common, Cond.static yX4_common, Cond.code yX4_common cX4_common 10 (some .long), Cond.methodLink RX4 106 yX4_net, Cond.instanceMethod yX4_net, Cond.selects RX4 yX4_net yX4_net]
def wsX4_acquire_r3 : List Cond := [Cond.code yX4_net cX4_net 2 (some .int), Cond.fieldLink RX4 22 "GroupbooksModel" "assets" "[I", Cond.fieldLink RX4 34 "GroupbooksModel" "closing" "[I", Cond.fieldLink RX4 25 "GroupbooksModel" "debts" "[I", Cond.methodLink RX4 119 yX4_translated, Cond.static yX4_translated, Cond.code yX4_translated cX4_translated 2 (some .int), Cond.methodLink RX4 111 yX4_floor, Cond.static yX4_floor, Cond.code yX4_floor cX4_floor 6 (some .long)]
def wsX4_acquire : List Cond := .code yX4_acquire cX4_acquire 6 (some .int) :: ((wsX4_acquire_r1 ++ (wsX4_acquire_r2 ++ wsX4_acquire_r3)) ++ wsX40)
def wsX4_held : List Cond := .code yX4_held cX4_held 3 (some .int) :: ([.fieldLink RX4 62 "GroupbooksModel" "thrown" "I", .fieldLink RX4 7 "GroupbooksModel" "held" "[I", .methodLink RX4 70 yX4_isCompany, .static yX4_isCompany, .initialized RX4, .code yX4_isCompany cX4_isCompany 1 (some .boolean), .methodLink RX4 66 yX4_in, .static yX4_in, .code yX4_in cX4_in 3 (some .boolean), .methodLink RX4 98 yX4_fails, .instanceMethod yX4_fails, .selects RX4 yX4_fails yX4_fails, .code yX4_fails cX4_fails 2 (some .int)] ++ wsX40)
def wsX4_shareNumerator_r1 : List Cond := [Cond.fieldLink RX4 62 "GroupbooksModel" "thrown" "I", Cond.fieldLink RX4 50 "GroupbooksModel" "above" "[J", Cond.methodLink RX4 70 yX4_isCompany, Cond.static yX4_isCompany, Cond.initialized RX4, Cond.code yX4_isCompany cX4_isCompany 1 (some .boolean), Cond.methodLink RX4 66 yX4_in, Cond.static yX4_in, Cond.code yX4_in cX4_in 3 (some .boolean), Cond.methodLink RX4 98 yX4_fails, Cond.instanceMethod yX4_fails, Cond.selects RX4 yX4_fails yX4_fails, Cond.code yX4_fails cX4_fails 2 (some .int), Cond.methodLink RX4 90 yX4_layShares, Cond.instanceMethod yX4_layShares, Cond.selects RX4 yX4_layShares yX4_layShares, Cond.code yX4_layShares cX4_layShares 8 (some .boolean), Cond.fieldLink RX4 53 "GroupbooksModel" "below" "[J", Cond.methodLink RX4 78 yX4_laySquare, Cond.instanceMethod yX4_laySquare, Cond.selects RX4 yX4_laySquare yX4_laySquare, Cond.code yX4_laySquare cX4_laySquare 5 none, Cond.fieldLink RX4 7 "GroupbooksModel" "held" "[I", Cond.fieldLink RX4 46 "GroupbooksModel" "square" "[J"]
def wsX4_shareNumerator_r2 : List Cond := [Cond.methodLink RX4 82 yX4_determinant, Cond.instanceMethod yX4_determinant, Cond.selects RX4 yX4_determinant yX4_determinant, Cond.code yX4_determinant cX4_determinant 9 (some .long), Cond.methodLink RX4 74 yX4_exchange, Cond.instanceMethod yX4_exchange, Cond.selects RX4 yX4_exchange yX4_exchange, Cond.code yX4_exchange cX4_exchange 6 none, Cond.methodLink RX4 86 yX4_common, Cond.static yX4_common, Cond.code yX4_common cX4_common 10 (some .long)]
def wsX4_shareNumerator : List Cond := .code yX4_shareNumerator cX4_shareNumerator 3 (some .long) :: ((wsX4_shareNumerator_r1 ++ wsX4_shareNumerator_r2) ++ wsX40)
def wsX4_shareDenominator_r1 : List Cond := [Cond.fieldLink RX4 62 "GroupbooksModel" "thrown" "I", Cond.fieldLink RX4 53 "GroupbooksModel" "below" "[J", Cond.methodLink RX4 70 yX4_isCompany, Cond.static yX4_isCompany, Cond.initialized RX4, Cond.code yX4_isCompany cX4_isCompany 1 (some .boolean), Cond.methodLink RX4 66 yX4_in, Cond.static yX4_in, Cond.code yX4_in cX4_in 3 (some .boolean), Cond.methodLink RX4 98 yX4_fails, Cond.instanceMethod yX4_fails, Cond.selects RX4 yX4_fails yX4_fails, Cond.code yX4_fails cX4_fails 2 (some .int), Cond.methodLink RX4 90 yX4_layShares, Cond.instanceMethod yX4_layShares, Cond.selects RX4 yX4_layShares yX4_layShares, Cond.code yX4_layShares cX4_layShares 8 (some .boolean), Cond.fieldLink RX4 50 "GroupbooksModel" "above" "[J", Cond.methodLink RX4 78 yX4_laySquare, Cond.instanceMethod yX4_laySquare, Cond.selects RX4 yX4_laySquare yX4_laySquare, Cond.code yX4_laySquare cX4_laySquare 5 none, Cond.fieldLink RX4 7 "GroupbooksModel" "held" "[I", Cond.fieldLink RX4 46 "GroupbooksModel" "square" "[J"]
def wsX4_shareDenominator_r2 : List Cond := [Cond.methodLink RX4 82 yX4_determinant, Cond.instanceMethod yX4_determinant, Cond.selects RX4 yX4_determinant yX4_determinant, Cond.code yX4_determinant cX4_determinant 9 (some .long), Cond.methodLink RX4 74 yX4_exchange, Cond.instanceMethod yX4_exchange, Cond.selects RX4 yX4_exchange yX4_exchange, Cond.code yX4_exchange cX4_exchange 6 none, Cond.methodLink RX4 86 yX4_common, Cond.static yX4_common, Cond.code yX4_common cX4_common 10 (some .long)]
def wsX4_shareDenominator : List Cond := .code yX4_shareDenominator cX4_shareDenominator 3 (some .long) :: ((wsX4_shareDenominator_r1 ++ wsX4_shareDenominator_r2) ++ wsX40)
def wsX4_shareByRounds : List Cond := .code yX4_shareByRounds cX4_shareByRounds 7 (some .int) :: ([.fieldLink RX4 62 "GroupbooksModel" "thrown" "I", .fieldLink RX4 56 "GroupbooksModel" "now" "[I", .constant RX4 105 (1000000), .fieldLink RX4 7 "GroupbooksModel" "held" "[I", .fieldLink RX4 59 "GroupbooksModel" "then" "[I", .methodLink RX4 70 yX4_isCompany, .static yX4_isCompany, .initialized RX4, .code yX4_isCompany cX4_isCompany 1 (some .boolean), .methodLink RX4 66 yX4_in, .static yX4_in, .code yX4_in cX4_in 3 (some .boolean), .methodLink RX4 98 yX4_fails, .instanceMethod yX4_fails, .selects RX4 yX4_fails yX4_fails, .code yX4_fails cX4_fails 2 (some .int)] ++ wsX40)
def wsX4_groupSet : List Cond := .code yX4_groupSet cX4_groupSet 6 (some .int) :: ([.fieldLink RX4 7 "GroupbooksModel" "held" "[I"] ++ wsX40)
def wsX4_group : List Cond := .code yX4_group cX4_group 1 (some .int) :: ([.fieldLink RX4 62 "GroupbooksModel" "thrown" "I", .methodLink RX4 114 yX4_groupSet, .instanceMethod yX4_groupSet, .selects RX4 yX4_groupSet yX4_groupSet, .initialized RX4, .code yX4_groupSet cX4_groupSet 6 (some .int), .fieldLink RX4 7 "GroupbooksModel" "held" "[I"] ++ wsX40)
def wsX4_goodwill : List Cond := .code yX4_goodwill cX4_goodwill 2 (some .int) :: ([.fieldLink RX4 62 "GroupbooksModel" "thrown" "I", .fieldLink RX4 19 "GroupbooksModel" "goodwill" "[I", .methodLink RX4 70 yX4_isCompany, .static yX4_isCompany, .initialized RX4, .code yX4_isCompany cX4_isCompany 1 (some .boolean), .methodLink RX4 66 yX4_in, .static yX4_in, .code yX4_in cX4_in 3 (some .boolean), .methodLink RX4 98 yX4_fails, .instanceMethod yX4_fails, .selects RX4 yX4_fails yX4_fails, .code yX4_fails cX4_fails 2 (some .int)] ++ wsX40)
def wsX4_setBooks : List Cond := .code yX4_setBooks cX4_setBooks 7 none :: ([.constant RX4 105 (1000000), .constant RX4 118 (-1000000), .fieldLink RX4 62 "GroupbooksModel" "thrown" "I", .fieldLink RX4 22 "GroupbooksModel" "assets" "[I", .fieldLink RX4 25 "GroupbooksModel" "debts" "[I", .fieldLink RX4 28 "GroupbooksModel" "equity" "[I", .fieldLink RX4 31 "GroupbooksModel" "result" "[I", .methodLink RX4 70 yX4_isCompany, .static yX4_isCompany, .initialized RX4, .code yX4_isCompany cX4_isCompany 1 (some .boolean), .methodLink RX4 66 yX4_in, .static yX4_in, .code yX4_in cX4_in 3 (some .boolean)] ++ wsX40)
def wsX4_setRates : List Cond := .code yX4_setRates cX4_setRates 6 none :: ([.fieldLink RX4 62 "GroupbooksModel" "thrown" "I", .fieldLink RX4 34 "GroupbooksModel" "closing" "[I", .fieldLink RX4 37 "GroupbooksModel" "average" "[I", .fieldLink RX4 40 "GroupbooksModel" "historical" "[I", .methodLink RX4 70 yX4_isCompany, .static yX4_isCompany, .initialized RX4, .code yX4_isCompany cX4_isCompany 1 (some .boolean), .methodLink RX4 66 yX4_in, .static yX4_in, .code yX4_in cX4_in 3 (some .boolean)] ++ wsX40)
def wsX4_netValue_r1 : List Cond := [Cond.fieldLink RX4 62 "GroupbooksModel" "thrown" "I", Cond.methodLink RX4 70 yX4_isCompany, Cond.static yX4_isCompany, Cond.initialized RX4, Cond.code yX4_isCompany cX4_isCompany 1 (some .boolean), Cond.methodLink RX4 66 yX4_in, Cond.static yX4_in, Cond.code yX4_in cX4_in 3 (some .boolean), Cond.methodLink RX4 106 yX4_net, Cond.instanceMethod yX4_net, Cond.selects RX4 yX4_net yX4_net, Cond.code yX4_net cX4_net 2 (some .int), Cond.fieldLink RX4 22 "GroupbooksModel" "assets" "[I", Cond.fieldLink RX4 34 "GroupbooksModel" "closing" "[I", Cond.fieldLink RX4 25 "GroupbooksModel" "debts" "[I", Cond.methodLink RX4 119 yX4_translated, Cond.static yX4_translated, Cond.code yX4_translated cX4_translated 2 (some .int), Cond.constantLong RX4 109 (100), Cond.methodLink RX4 111 yX4_floor, Cond.static yX4_floor, Cond.code yX4_floor cX4_floor 6 (some .long), Cond.methodLink RX4 98 yX4_fails, Cond.instanceMethod yX4_fails]
def wsX4_netValue_r2 : List Cond := [Cond.selects RX4 yX4_fails yX4_fails, Cond.code yX4_fails cX4_fails 2 (some .int)]
def wsX4_netValue : List Cond := .code yX4_netValue cX4_netValue 2 (some .int) :: ((wsX4_netValue_r1 ++ wsX4_netValue_r2) ++ wsX40)
def wsX4_translatedEquity : List Cond := .code yX4_translatedEquity cX4_translatedEquity 2 (some .int) :: ([.fieldLink RX4 62 "GroupbooksModel" "thrown" "I", .fieldLink RX4 28 "GroupbooksModel" "equity" "[I", .fieldLink RX4 40 "GroupbooksModel" "historical" "[I", .methodLink RX4 70 yX4_isCompany, .static yX4_isCompany, .initialized RX4, .code yX4_isCompany cX4_isCompany 1 (some .boolean), .methodLink RX4 66 yX4_in, .static yX4_in, .code yX4_in cX4_in 3 (some .boolean), .methodLink RX4 119 yX4_translated, .static yX4_translated, .code yX4_translated cX4_translated 2 (some .int), .constantLong RX4 109 (100), .methodLink RX4 111 yX4_floor, .static yX4_floor, .code yX4_floor cX4_floor 6 (some .long), .methodLink RX4 98 yX4_fails, .instanceMethod yX4_fails, .selects RX4 yX4_fails yX4_fails, .code yX4_fails cX4_fails 2 (some .int)] ++ wsX40)
def wsX4_translatedResult : List Cond := .code yX4_translatedResult cX4_translatedResult 2 (some .int) :: ([.fieldLink RX4 62 "GroupbooksModel" "thrown" "I", .fieldLink RX4 31 "GroupbooksModel" "result" "[I", .fieldLink RX4 37 "GroupbooksModel" "average" "[I", .methodLink RX4 70 yX4_isCompany, .static yX4_isCompany, .initialized RX4, .code yX4_isCompany cX4_isCompany 1 (some .boolean), .methodLink RX4 66 yX4_in, .static yX4_in, .code yX4_in cX4_in 3 (some .boolean), .methodLink RX4 119 yX4_translated, .static yX4_translated, .code yX4_translated cX4_translated 2 (some .int), .constantLong RX4 109 (100), .methodLink RX4 111 yX4_floor, .static yX4_floor, .code yX4_floor cX4_floor 6 (some .long), .methodLink RX4 98 yX4_fails, .instanceMethod yX4_fails, .selects RX4 yX4_fails yX4_fails, .code yX4_fails cX4_fails 2 (some .int)] ++ wsX40)
def wsX4_reserve_r1 : List Cond := [Cond.fieldLink RX4 62 "GroupbooksModel" "thrown" "I", Cond.fieldLink RX4 28 "GroupbooksModel" "equity" "[I", Cond.fieldLink RX4 40 "GroupbooksModel" "historical" "[I", Cond.fieldLink RX4 31 "GroupbooksModel" "result" "[I", Cond.fieldLink RX4 37 "GroupbooksModel" "average" "[I", Cond.methodLink RX4 70 yX4_isCompany, Cond.static yX4_isCompany, Cond.initialized RX4, Cond.code yX4_isCompany cX4_isCompany 1 (some .boolean), Cond.methodLink RX4 66 yX4_in, Cond.static yX4_in, Cond.code yX4_in cX4_in 3 (some .boolean), Cond.methodLink RX4 106 yX4_net, Cond.instanceMethod yX4_net, Cond.selects RX4 yX4_net yX4_net, Cond.code yX4_net cX4_net 2 (some .int), Cond.fieldLink RX4 22 "GroupbooksModel" "assets" "[I", Cond.fieldLink RX4 34 "GroupbooksModel" "closing" "[I", Cond.fieldLink RX4 25 "GroupbooksModel" "debts" "[I", Cond.methodLink RX4 119 yX4_translated, Cond.static yX4_translated, Cond.code yX4_translated cX4_translated 2 (some .int), Cond.constantLong RX4 109 (100), Cond.methodLink RX4 111 yX4_floor]
def wsX4_reserve_r2 : List Cond := [Cond.static yX4_floor, Cond.code yX4_floor cX4_floor 6 (some .long), Cond.methodLink RX4 98 yX4_fails, Cond.instanceMethod yX4_fails, Cond.selects RX4 yX4_fails yX4_fails, Cond.code yX4_fails cX4_fails 2 (some .int)]
def wsX4_reserve : List Cond := .code yX4_reserve cX4_reserve 2 (some .int) :: ((wsX4_reserve_r1 ++ wsX4_reserve_r2) ++ wsX40)
def wsX4_claim : List Cond := .code yX4_claim cX4_claim 5 (some .int) :: ([.fieldLink RX4 62 "GroupbooksModel" "thrown" "I", .constant RX4 105 (1000000), .fieldLink RX4 13 "GroupbooksModel" "claimed" "[I", .methodLink RX4 94 yX4_isPair, .static yX4_isPair, .initialized RX4, .code yX4_isPair cX4_isPair 2 (some .boolean), .methodLink RX4 70 yX4_isCompany, .static yX4_isCompany, .code yX4_isCompany cX4_isCompany 1 (some .boolean), .methodLink RX4 66 yX4_in, .static yX4_in, .code yX4_in cX4_in 3 (some .boolean), .methodLink RX4 98 yX4_fails, .instanceMethod yX4_fails, .selects RX4 yX4_fails yX4_fails, .code yX4_fails cX4_fails 2 (some .int)] ++ wsX40)
def wsX4_admit : List Cond := .code yX4_admit cX4_admit 5 (some .int) :: ([.fieldLink RX4 62 "GroupbooksModel" "thrown" "I", .constant RX4 105 (1000000), .fieldLink RX4 16 "GroupbooksModel" "admitted" "[I", .methodLink RX4 94 yX4_isPair, .static yX4_isPair, .initialized RX4, .code yX4_isPair cX4_isPair 2 (some .boolean), .methodLink RX4 70 yX4_isCompany, .static yX4_isCompany, .code yX4_isCompany cX4_isCompany 1 (some .boolean), .methodLink RX4 66 yX4_in, .static yX4_in, .code yX4_in cX4_in 3 (some .boolean), .methodLink RX4 98 yX4_fails, .instanceMethod yX4_fails, .selects RX4 yX4_fails yX4_fails, .code yX4_fails cX4_fails 2 (some .int)] ++ wsX40)
def wsX4_difference : List Cond := .code yX4_difference cX4_difference 3 (some .int) :: ([.fieldLink RX4 62 "GroupbooksModel" "thrown" "I", .fieldLink RX4 13 "GroupbooksModel" "claimed" "[I", .fieldLink RX4 16 "GroupbooksModel" "admitted" "[I", .methodLink RX4 94 yX4_isPair, .static yX4_isPair, .initialized RX4, .code yX4_isPair cX4_isPair 2 (some .boolean), .methodLink RX4 70 yX4_isCompany, .static yX4_isCompany, .code yX4_isCompany cX4_isCompany 1 (some .boolean), .methodLink RX4 66 yX4_in, .static yX4_in, .code yX4_in cX4_in 3 (some .boolean), .methodLink RX4 98 yX4_fails, .instanceMethod yX4_fails, .selects RX4 yX4_fails yX4_fails, .code yX4_fails cX4_fails 2 (some .int)] ++ wsX40)
def wsX4_eliminatedNow : List Cond := .code yX4_eliminatedNow cX4_eliminatedNow 6 (some .int) :: ([.fieldLink RX4 16 "GroupbooksModel" "admitted" "[I", .fieldLink RX4 13 "GroupbooksModel" "claimed" "[I", .methodLink RX4 114 yX4_groupSet, .instanceMethod yX4_groupSet, .selects RX4 yX4_groupSet yX4_groupSet, .initialized RX4, .code yX4_groupSet cX4_groupSet 6 (some .int), .fieldLink RX4 7 "GroupbooksModel" "held" "[I"] ++ wsX40)
def wsX4_eliminated : List Cond := .code yX4_eliminated cX4_eliminated 1 (some .int) :: ([.fieldLink RX4 62 "GroupbooksModel" "thrown" "I", .methodLink RX4 123 yX4_eliminatedNow, .instanceMethod yX4_eliminatedNow, .selects RX4 yX4_eliminatedNow yX4_eliminatedNow, .initialized RX4, .code yX4_eliminatedNow cX4_eliminatedNow 6 (some .int), .fieldLink RX4 16 "GroupbooksModel" "admitted" "[I", .fieldLink RX4 13 "GroupbooksModel" "claimed" "[I", .methodLink RX4 114 yX4_groupSet, .instanceMethod yX4_groupSet, .selects RX4 yX4_groupSet yX4_groupSet, .code yX4_groupSet cX4_groupSet 6 (some .int), .fieldLink RX4 7 "GroupbooksModel" "held" "[I"] ++ wsX40)
def wsX4_assetsNow : List Cond := .code yX4_assetsNow cX4_assetsNow 4 (some .int) :: ([.fieldLink RX4 22 "GroupbooksModel" "assets" "[I", .fieldLink RX4 34 "GroupbooksModel" "closing" "[I", .methodLink RX4 114 yX4_groupSet, .instanceMethod yX4_groupSet, .selects RX4 yX4_groupSet yX4_groupSet, .initialized RX4, .code yX4_groupSet cX4_groupSet 6 (some .int), .fieldLink RX4 7 "GroupbooksModel" "held" "[I", .methodLink RX4 119 yX4_translated, .static yX4_translated, .code yX4_translated cX4_translated 2 (some .int), .constantLong RX4 109 (100), .methodLink RX4 111 yX4_floor, .static yX4_floor, .code yX4_floor cX4_floor 6 (some .long), .methodLink RX4 123 yX4_eliminatedNow, .instanceMethod yX4_eliminatedNow, .selects RX4 yX4_eliminatedNow yX4_eliminatedNow, .code yX4_eliminatedNow cX4_eliminatedNow 6 (some .int), .fieldLink RX4 16 "GroupbooksModel" "admitted" "[I", .fieldLink RX4 13 "GroupbooksModel" "claimed" "[I"] ++ wsX40)
def wsX4_debtsNow : List Cond := .code yX4_debtsNow cX4_debtsNow 4 (some .int) :: ([.fieldLink RX4 25 "GroupbooksModel" "debts" "[I", .fieldLink RX4 34 "GroupbooksModel" "closing" "[I", .methodLink RX4 114 yX4_groupSet, .instanceMethod yX4_groupSet, .selects RX4 yX4_groupSet yX4_groupSet, .initialized RX4, .code yX4_groupSet cX4_groupSet 6 (some .int), .fieldLink RX4 7 "GroupbooksModel" "held" "[I", .methodLink RX4 119 yX4_translated, .static yX4_translated, .code yX4_translated cX4_translated 2 (some .int), .constantLong RX4 109 (100), .methodLink RX4 111 yX4_floor, .static yX4_floor, .code yX4_floor cX4_floor 6 (some .long), .methodLink RX4 123 yX4_eliminatedNow, .instanceMethod yX4_eliminatedNow, .selects RX4 yX4_eliminatedNow yX4_eliminatedNow, .code yX4_eliminatedNow cX4_eliminatedNow 6 (some .int), .fieldLink RX4 16 "GroupbooksModel" "admitted" "[I", .fieldLink RX4 13 "GroupbooksModel" "claimed" "[I"] ++ wsX40)
def wsX4_minorityNow : List Cond := .code yX4_minorityNow cX4_minorityNow 2 (some .int) :: ([.fieldLink RX4 53 "GroupbooksModel" "below" "[J", .fieldLink RX4 50 "GroupbooksModel" "above" "[J", .methodLink RX4 114 yX4_groupSet, .instanceMethod yX4_groupSet, .selects RX4 yX4_groupSet yX4_groupSet, .initialized RX4, .code yX4_groupSet cX4_groupSet 6 (some .int), .fieldLink RX4 7 "GroupbooksModel" "held" "[I", .methodLink RX4 106 yX4_net, .instanceMethod yX4_net, .selects RX4 yX4_net yX4_net, .code yX4_net cX4_net 2 (some .int), .fieldLink RX4 22 "GroupbooksModel" "assets" "[I", .fieldLink RX4 34 "GroupbooksModel" "closing" "[I", .fieldLink RX4 25 "GroupbooksModel" "debts" "[I", .methodLink RX4 119 yX4_translated, .static yX4_translated, .code yX4_translated cX4_translated 2 (some .int), .constantLong RX4 109 (100), .methodLink RX4 111 yX4_floor, .static yX4_floor, .code yX4_floor cX4_floor 6 (some .long)] ++ wsX40)
def wsX4_resultNow_r1 : List Cond := [Cond.fieldLink RX4 31 "GroupbooksModel" "result" "[I", Cond.fieldLink RX4 37 "GroupbooksModel" "average" "[I", Cond.fieldLink RX4 50 "GroupbooksModel" "above" "[J", Cond.fieldLink RX4 53 "GroupbooksModel" "below" "[J", Cond.methodLink RX4 90 yX4_layShares, Cond.instanceMethod yX4_layShares, Cond.selects RX4 yX4_layShares yX4_layShares, Cond.initialized RX4, Cond.code yX4_layShares cX4_layShares 8 (some .boolean), Cond.methodLink RX4 78 yX4_laySquare, Cond.instanceMethod yX4_laySquare, Cond.selects RX4 yX4_laySquare yX4_laySquare, Cond.code yX4_laySquare cX4_laySquare 5 none, Cond.fieldLink RX4 7 "GroupbooksModel" "held" "[I", Cond.fieldLink RX4 46 "GroupbooksModel" "square" "[J", Cond.methodLink RX4 82 yX4_determinant, Cond.instanceMethod yX4_determinant, Cond.selects RX4 yX4_determinant yX4_determinant, Cond.code yX4_determinant cX4_determinant 9 (some .long), Cond.methodLink RX4 74 yX4_exchange, Cond.instanceMethod yX4_exchange, Cond.selects RX4 yX4_exchange yX4_exchange, Cond.code yX4_exchange cX4_exchange 6 none, Cond.methodLink RX4 86 yX4_common]
def wsX4_resultNow_r2 : List Cond := [Cond.static yX4_common, Cond.code yX4_common cX4_common 10 (some .long), Cond.methodLink RX4 114 yX4_groupSet, Cond.instanceMethod yX4_groupSet, Cond.selects RX4 yX4_groupSet yX4_groupSet, Cond.code yX4_groupSet cX4_groupSet 6 (some .int), Cond.methodLink RX4 119 yX4_translated, Cond.static yX4_translated, Cond.code yX4_translated cX4_translated 2 (some .int), Cond.constantLong RX4 109 (100), Cond.methodLink RX4 111 yX4_floor, Cond.static yX4_floor, Cond.code yX4_floor cX4_floor 6 (some .long)]
def wsX4_resultNow : List Cond := .code yX4_resultNow cX4_resultNow 5 (some .int) :: ((wsX4_resultNow_r1 ++ wsX4_resultNow_r2) ++ wsX40)
def wsX4_assets_r1 : List Cond := [Cond.fieldLink RX4 62 "GroupbooksModel" "thrown" "I", Cond.methodLink RX4 126 yX4_assetsNow, Cond.instanceMethod yX4_assetsNow, Cond.selects RX4 yX4_assetsNow yX4_assetsNow, Cond.initialized RX4, Cond.code yX4_assetsNow cX4_assetsNow 4 (some .int), Cond.fieldLink RX4 22 "GroupbooksModel" "assets" "[I", Cond.fieldLink RX4 34 "GroupbooksModel" "closing" "[I", Cond.methodLink RX4 114 yX4_groupSet, Cond.instanceMethod yX4_groupSet, Cond.selects RX4 yX4_groupSet yX4_groupSet, Cond.code yX4_groupSet cX4_groupSet 6 (some .int), Cond.fieldLink RX4 7 "GroupbooksModel" "held" "[I", Cond.methodLink RX4 119 yX4_translated, Cond.static yX4_translated, Cond.code yX4_translated cX4_translated 2 (some .int), Cond.constantLong RX4 109 (100), Cond.methodLink RX4 111 yX4_floor, Cond.static yX4_floor, Cond.code yX4_floor cX4_floor 6 (some .long), Cond.methodLink RX4 123 yX4_eliminatedNow, Cond.instanceMethod yX4_eliminatedNow, Cond.selects RX4 yX4_eliminatedNow yX4_eliminatedNow, Cond.code yX4_eliminatedNow cX4_eliminatedNow 6 (some .int)]
def wsX4_assets_r2 : List Cond := [Cond.fieldLink RX4 16 "GroupbooksModel" "admitted" "[I", Cond.fieldLink RX4 13 "GroupbooksModel" "claimed" "[I"]
def wsX4_assets : List Cond := .code yX4_assets cX4_assets 1 (some .int) :: ((wsX4_assets_r1 ++ wsX4_assets_r2) ++ wsX40)
def wsX4_debts_r1 : List Cond := [Cond.fieldLink RX4 62 "GroupbooksModel" "thrown" "I", Cond.methodLink RX4 129 yX4_debtsNow, Cond.instanceMethod yX4_debtsNow, Cond.selects RX4 yX4_debtsNow yX4_debtsNow, Cond.initialized RX4, Cond.code yX4_debtsNow cX4_debtsNow 4 (some .int), Cond.fieldLink RX4 25 "GroupbooksModel" "debts" "[I", Cond.fieldLink RX4 34 "GroupbooksModel" "closing" "[I", Cond.methodLink RX4 114 yX4_groupSet, Cond.instanceMethod yX4_groupSet, Cond.selects RX4 yX4_groupSet yX4_groupSet, Cond.code yX4_groupSet cX4_groupSet 6 (some .int), Cond.fieldLink RX4 7 "GroupbooksModel" "held" "[I", Cond.methodLink RX4 119 yX4_translated, Cond.static yX4_translated, Cond.code yX4_translated cX4_translated 2 (some .int), Cond.constantLong RX4 109 (100), Cond.methodLink RX4 111 yX4_floor, Cond.static yX4_floor, Cond.code yX4_floor cX4_floor 6 (some .long), Cond.methodLink RX4 123 yX4_eliminatedNow, Cond.instanceMethod yX4_eliminatedNow, Cond.selects RX4 yX4_eliminatedNow yX4_eliminatedNow, Cond.code yX4_eliminatedNow cX4_eliminatedNow 6 (some .int)]
def wsX4_debts_r2 : List Cond := [Cond.fieldLink RX4 16 "GroupbooksModel" "admitted" "[I", Cond.fieldLink RX4 13 "GroupbooksModel" "claimed" "[I"]
def wsX4_debts : List Cond := .code yX4_debts cX4_debts 1 (some .int) :: ((wsX4_debts_r1 ++ wsX4_debts_r2) ++ wsX40)
def wsX4_minority_r1 : List Cond := [Cond.fieldLink RX4 62 "GroupbooksModel" "thrown" "I", Cond.methodLink RX4 70 yX4_isCompany, Cond.static yX4_isCompany, Cond.initialized RX4, Cond.code yX4_isCompany cX4_isCompany 1 (some .boolean), Cond.methodLink RX4 66 yX4_in, Cond.static yX4_in, Cond.code yX4_in cX4_in 3 (some .boolean), Cond.methodLink RX4 98 yX4_fails, Cond.instanceMethod yX4_fails, Cond.selects RX4 yX4_fails yX4_fails, Cond.code yX4_fails cX4_fails 2 (some .int), Cond.methodLink RX4 90 yX4_layShares, Cond.instanceMethod yX4_layShares, Cond.selects RX4 yX4_layShares yX4_layShares, Cond.code yX4_layShares cX4_layShares 8 (some .boolean), Cond.fieldLink RX4 50 "GroupbooksModel" "above" "[J", Cond.fieldLink RX4 53 "GroupbooksModel" "below" "[J", Cond.methodLink RX4 78 yX4_laySquare, Cond.instanceMethod yX4_laySquare, Cond.selects RX4 yX4_laySquare yX4_laySquare, Cond.code yX4_laySquare cX4_laySquare 5 none, Cond.fieldLink RX4 7 "GroupbooksModel" "held" "[I", Cond.fieldLink RX4 46 "GroupbooksModel" "square" "[J"]
def wsX4_minority_r2 : List Cond := [Cond.methodLink RX4 82 yX4_determinant, Cond.instanceMethod yX4_determinant, Cond.selects RX4 yX4_determinant yX4_determinant, Cond.code yX4_determinant cX4_determinant 9 (some .long), Cond.methodLink RX4 74 yX4_exchange, Cond.instanceMethod yX4_exchange, Cond.selects RX4 yX4_exchange yX4_exchange, Cond.code yX4_exchange cX4_exchange 6 none, Cond.methodLink RX4 86 yX4_common, Cond.static yX4_common, Cond.code yX4_common cX4_common 10 (some .long), Cond.methodLink RX4 132 yX4_minorityNow, Cond.instanceMethod yX4_minorityNow, Cond.selects RX4 yX4_minorityNow yX4_minorityNow, Cond.code yX4_minorityNow cX4_minorityNow 2 (some .int), Cond.methodLink RX4 114 yX4_groupSet, Cond.instanceMethod yX4_groupSet, Cond.selects RX4 yX4_groupSet yX4_groupSet, Cond.code yX4_groupSet cX4_groupSet 6 (some .int), Cond.methodLink RX4 106 yX4_net, Cond.instanceMethod yX4_net, Cond.selects RX4 yX4_net yX4_net, Cond.code yX4_net cX4_net 2 (some .int), Cond.fieldLink RX4 22 "GroupbooksModel" "assets" "[I"]
def wsX4_minority_r3 : List Cond := [Cond.fieldLink RX4 34 "GroupbooksModel" "closing" "[I", Cond.fieldLink RX4 25 "GroupbooksModel" "debts" "[I", Cond.methodLink RX4 119 yX4_translated, Cond.static yX4_translated, Cond.code yX4_translated cX4_translated 2 (some .int), Cond.constantLong RX4 109 (100), Cond.methodLink RX4 111 yX4_floor, Cond.static yX4_floor, Cond.code yX4_floor cX4_floor 6 (some .long)]
def wsX4_minority : List Cond := .code yX4_minority cX4_minority 3 (some .int) :: ((wsX4_minority_r1 ++ (wsX4_minority_r2 ++ wsX4_minority_r3)) ++ wsX40)
def wsX4_equity_r1 : List Cond := [Cond.fieldLink RX4 62 "GroupbooksModel" "thrown" "I", Cond.methodLink RX4 90 yX4_layShares, Cond.instanceMethod yX4_layShares, Cond.selects RX4 yX4_layShares yX4_layShares, Cond.initialized RX4, Cond.code yX4_layShares cX4_layShares 8 (some .boolean), Cond.fieldLink RX4 50 "GroupbooksModel" "above" "[J", Cond.fieldLink RX4 53 "GroupbooksModel" "below" "[J", Cond.methodLink RX4 78 yX4_laySquare, Cond.instanceMethod yX4_laySquare, Cond.selects RX4 yX4_laySquare yX4_laySquare, Cond.code yX4_laySquare cX4_laySquare 5 none, Cond.fieldLink RX4 7 "GroupbooksModel" "held" "[I", Cond.fieldLink RX4 46 "GroupbooksModel" "square" "[J", Cond.methodLink RX4 82 yX4_determinant, Cond.instanceMethod yX4_determinant, Cond.selects RX4 yX4_determinant yX4_determinant, Cond.code yX4_determinant cX4_determinant 9 (some .long), Cond.methodLink RX4 74 yX4_exchange, Cond.instanceMethod yX4_exchange, Cond.selects RX4 yX4_exchange yX4_exchange, Cond.code yX4_exchange cX4_exchange 6 none, Cond.methodLink RX4 86 yX4_common, Cond.static yX4_common]
def wsX4_equity_r2 : List Cond := [Cond.code yX4_common cX4_common 10 (some .long), Cond.methodLink RX4 126 yX4_assetsNow, Cond.instanceMethod yX4_assetsNow, Cond.selects RX4 yX4_assetsNow yX4_assetsNow, Cond.code yX4_assetsNow cX4_assetsNow 4 (some .int), Cond.fieldLink RX4 22 "GroupbooksModel" "assets" "[I", Cond.fieldLink RX4 34 "GroupbooksModel" "closing" "[I", Cond.methodLink RX4 114 yX4_groupSet, Cond.instanceMethod yX4_groupSet, Cond.selects RX4 yX4_groupSet yX4_groupSet, Cond.code yX4_groupSet cX4_groupSet 6 (some .int), Cond.methodLink RX4 119 yX4_translated, Cond.static yX4_translated, Cond.code yX4_translated cX4_translated 2 (some .int), Cond.constantLong RX4 109 (100), Cond.methodLink RX4 111 yX4_floor, Cond.static yX4_floor, Cond.code yX4_floor cX4_floor 6 (some .long), Cond.methodLink RX4 123 yX4_eliminatedNow, Cond.instanceMethod yX4_eliminatedNow, Cond.selects RX4 yX4_eliminatedNow yX4_eliminatedNow, Cond.code yX4_eliminatedNow cX4_eliminatedNow 6 (some .int), Cond.fieldLink RX4 16 "GroupbooksModel" "admitted" "[I", Cond.fieldLink RX4 13 "GroupbooksModel" "claimed" "[I"]
def wsX4_equity_r3 : List Cond := [Cond.methodLink RX4 129 yX4_debtsNow, Cond.instanceMethod yX4_debtsNow, Cond.selects RX4 yX4_debtsNow yX4_debtsNow, Cond.code yX4_debtsNow cX4_debtsNow 4 (some .int), Cond.fieldLink RX4 25 "GroupbooksModel" "debts" "[I", Cond.methodLink RX4 132 yX4_minorityNow, Cond.instanceMethod yX4_minorityNow, Cond.selects RX4 yX4_minorityNow yX4_minorityNow, Cond.code yX4_minorityNow cX4_minorityNow 2 (some .int), Cond.methodLink RX4 106 yX4_net, Cond.instanceMethod yX4_net, Cond.selects RX4 yX4_net yX4_net, Cond.code yX4_net cX4_net 2 (some .int)]
def wsX4_equity : List Cond := .code yX4_equity cX4_equity 4 (some .int) :: ((wsX4_equity_r1 ++ (wsX4_equity_r2 ++ wsX4_equity_r3)) ++ wsX40)
def wsX4_result_r1 : List Cond := [Cond.fieldLink RX4 62 "GroupbooksModel" "thrown" "I", Cond.methodLink RX4 135 yX4_resultNow, Cond.instanceMethod yX4_resultNow, Cond.selects RX4 yX4_resultNow yX4_resultNow, Cond.initialized RX4, Cond.code yX4_resultNow cX4_resultNow 5 (some .int), Cond.fieldLink RX4 31 "GroupbooksModel" "result" "[I", Cond.fieldLink RX4 37 "GroupbooksModel" "average" "[I", Cond.fieldLink RX4 50 "GroupbooksModel" "above" "[J", Cond.fieldLink RX4 53 "GroupbooksModel" "below" "[J", Cond.methodLink RX4 90 yX4_layShares, Cond.instanceMethod yX4_layShares, Cond.selects RX4 yX4_layShares yX4_layShares, Cond.code yX4_layShares cX4_layShares 8 (some .boolean), Cond.methodLink RX4 78 yX4_laySquare, Cond.instanceMethod yX4_laySquare, Cond.selects RX4 yX4_laySquare yX4_laySquare, Cond.code yX4_laySquare cX4_laySquare 5 none, Cond.fieldLink RX4 7 "GroupbooksModel" "held" "[I", Cond.fieldLink RX4 46 "GroupbooksModel" "square" "[J", Cond.methodLink RX4 82 yX4_determinant, Cond.instanceMethod yX4_determinant, Cond.selects RX4 yX4_determinant yX4_determinant, Cond.code yX4_determinant cX4_determinant 9 (some .long)]
def wsX4_result_r2 : List Cond := [Cond.methodLink RX4 74 yX4_exchange, Cond.instanceMethod yX4_exchange, Cond.selects RX4 yX4_exchange yX4_exchange, Cond.code yX4_exchange cX4_exchange 6 none, Cond.methodLink RX4 86 yX4_common, Cond.static yX4_common, Cond.code yX4_common cX4_common 10 (some .long), Cond.methodLink RX4 114 yX4_groupSet, Cond.instanceMethod yX4_groupSet, Cond.selects RX4 yX4_groupSet yX4_groupSet, Cond.code yX4_groupSet cX4_groupSet 6 (some .int), Cond.methodLink RX4 119 yX4_translated, Cond.static yX4_translated, Cond.code yX4_translated cX4_translated 2 (some .int), Cond.constantLong RX4 109 (100), Cond.methodLink RX4 111 yX4_floor, Cond.static yX4_floor, Cond.code yX4_floor cX4_floor 6 (some .long)]
def wsX4_result : List Cond := .code yX4_result cX4_result 1 (some .int) :: ((wsX4_result_r1 ++ wsX4_result_r2) ++ wsX40)
def wsX4_close_r1 : List Cond := [Cond.fieldLink RX4 62 "GroupbooksModel" "thrown" "I", Cond.fieldLink RX4 138 "GroupbooksModel" "closed" "I", Cond.fieldLink RX4 43 "GroupbooksModel" "kept" "[I", Cond.fieldLink RX4 28 "GroupbooksModel" "equity" "[I", Cond.fieldLink RX4 31 "GroupbooksModel" "result" "[I", Cond.methodLink RX4 98 yX4_fails, Cond.instanceMethod yX4_fails, Cond.selects RX4 yX4_fails yX4_fails, Cond.initialized RX4, Cond.code yX4_fails cX4_fails 2 (some .int), Cond.methodLink RX4 135 yX4_resultNow, Cond.instanceMethod yX4_resultNow, Cond.selects RX4 yX4_resultNow yX4_resultNow, Cond.code yX4_resultNow cX4_resultNow 5 (some .int), Cond.fieldLink RX4 37 "GroupbooksModel" "average" "[I", Cond.fieldLink RX4 50 "GroupbooksModel" "above" "[J", Cond.fieldLink RX4 53 "GroupbooksModel" "below" "[J", Cond.methodLink RX4 90 yX4_layShares, Cond.instanceMethod yX4_layShares, Cond.selects RX4 yX4_layShares yX4_layShares, Cond.code yX4_layShares cX4_layShares 8 (some .boolean), Cond.methodLink RX4 78 yX4_laySquare, Cond.instanceMethod yX4_laySquare, Cond.selects RX4 yX4_laySquare yX4_laySquare]
def wsX4_close_r2 : List Cond := [Cond.code yX4_laySquare cX4_laySquare 5 none, Cond.fieldLink RX4 7 "GroupbooksModel" "held" "[I", Cond.fieldLink RX4 46 "GroupbooksModel" "square" "[J", Cond.methodLink RX4 82 yX4_determinant, Cond.instanceMethod yX4_determinant, Cond.selects RX4 yX4_determinant yX4_determinant, Cond.code yX4_determinant cX4_determinant 9 (some .long), Cond.methodLink RX4 74 yX4_exchange, Cond.instanceMethod yX4_exchange, Cond.selects RX4 yX4_exchange yX4_exchange, Cond.code yX4_exchange cX4_exchange 6 none, Cond.methodLink RX4 86 yX4_common, Cond.static yX4_common, Cond.code yX4_common cX4_common 10 (some .long), Cond.methodLink RX4 114 yX4_groupSet, Cond.instanceMethod yX4_groupSet, Cond.selects RX4 yX4_groupSet yX4_groupSet, Cond.code yX4_groupSet cX4_groupSet 6 (some .int), Cond.methodLink RX4 119 yX4_translated, Cond.static yX4_translated, Cond.code yX4_translated cX4_translated 2 (some .int), Cond.constantLong RX4 109 (100), Cond.methodLink RX4 111 yX4_floor, Cond.static yX4_floor]
def wsX4_close_r3 : List Cond := [Cond.code yX4_floor cX4_floor 6 (some .long)]
def wsX4_close : List Cond := .code yX4_close cX4_close 2 (some .int) :: ((wsX4_close_r1 ++ (wsX4_close_r2 ++ wsX4_close_r3)) ++ wsX40)
def wsX4_resultOf : List Cond := .code yX4_resultOf cX4_resultOf 2 (some .int) :: ([.fieldLink RX4 62 "GroupbooksModel" "thrown" "I", .fieldLink RX4 138 "GroupbooksModel" "closed" "I", .fieldLink RX4 43 "GroupbooksModel" "kept" "[I", .methodLink RX4 66 yX4_in, .static yX4_in, .initialized RX4, .code yX4_in cX4_in 3 (some .boolean), .methodLink RX4 98 yX4_fails, .instanceMethod yX4_fails, .selects RX4 yX4_fails yX4_fails, .code yX4_fails cX4_fails 2 (some .int)] ++ wsX40)
def wsJ9_min_7cf53 : List Cond := .code yJ9_min_7cf53 cJ9_min_7cf53 2 (some .int) :: ([])
def wsL_hold_r1 : List Cond := [Cond.classLink RL 13 "java/lang/IllegalArgumentException", Cond.classLink RL 15 "java/lang/IllegalStateException", Cond.methodLink RL 7 yX3_hold, Cond.instanceMethod yX3_hold, Cond.selects RX3 yX3_hold yX3_hold, Cond.initialized RX3, Cond.code yX3_hold cX3_hold 5 (some .int), Cond.fieldLink RX3 10 "Groupbooks" "holdings" "LGroupbooks$Holdings;", Cond.methodLink RX3 41 yX3_requireTwoCompanies, Cond.static yX3_requireTwoCompanies, Cond.code yX3_requireTwoCompanies cX3_requireTwoCompanies 2 none, Cond.classLink RX3 155 "java/lang/IllegalArgumentException", Cond.initialized "java/lang/IllegalArgumentException", Cond.methodLink RX3 71 yX3_requireCompany, Cond.static yX3_requireCompany, Cond.code yX3_requireCompany cX3_requireCompany 1 none, Cond.methodLink RX3 45 yX3_requireRange, Cond.static yX3_requireRange, Cond.code yX3_requireRange cX3_requireRange 3 none, Cond.instanceMethod yX2_percentOf, Cond.initialized RX2, Cond.selects RX2 yX2_percentOf yX2_percentOf, Cond.code yX2_percentOf cX2_percentOf 3 (some .int), Cond.fieldLink RX2 9 "Groupbooks$Holdings" "percents" "[I"]
def wsL_hold_r2 : List Cond := [Cond.static yX3_pair, Cond.code yX3_pair cX3_pair 2 (some .int), Cond.instanceMethod yX2_take, Cond.selects RX2 yX2_take yX2_take, Cond.code yX2_take cX2_take 7 (some .boolean), Cond.methodLink RX2 45 yX2_heldByAll, Cond.instanceMethod yX2_heldByAll, Cond.selects RX2 yX2_heldByAll yX2_heldByAll, Cond.code yX2_heldByAll cX2_heldByAll 4 (some .int), Cond.methodLink RX2 49 yX2_determineShares, Cond.instanceMethod yX2_determineShares, Cond.selects RX2 yX2_determineShares yX2_determineShares, Cond.code yX2_determineShares cX2_determineShares 6 (some .boolean), Cond.fieldLink RX2 22 "Groupbooks$Holdings" "equations" "[J", Cond.methodLink RX2 53 yX2_writeEquations, Cond.instanceMethod yX2_writeEquations, Cond.selects RX2 yX2_writeEquations yX2_writeEquations, Cond.code yX2_writeEquations cX2_writeEquations 3 none, Cond.constantLong RX2 64 (100), Cond.methodLink RX2 56 yX2_clearColumn, Cond.instanceMethod yX2_clearColumn, Cond.selects RX2 yX2_clearColumn yX2_clearColumn, Cond.code yX2_clearColumn cX2_clearColumn 7 none, Cond.methodLink RX2 66 yX2_clearEntry]
def wsL_hold_r3 : List Cond := [Cond.instanceMethod yX2_clearEntry, Cond.selects RX2 yX2_clearEntry yX2_clearEntry, Cond.code yX2_clearEntry cX2_clearEntry 13 none, Cond.methodLink RX2 60 yX2_keepShares, Cond.instanceMethod yX2_keepShares, Cond.selects RX2 yX2_keepShares yX2_keepShares, Cond.code yX2_keepShares cX2_keepShares 8 none, Cond.fieldLink RX2 15 "Groupbooks$Holdings" "numerators" "[J", Cond.fieldLink RX2 19 "Groupbooks$Holdings" "denominators" "[J", Cond.methodLink RX2 70 yX2_commonDivisor, Cond.static yX2_commonDivisor, Cond.code yX2_commonDivisor cX2_commonDivisor 11 (some .long), Cond.methodLink RX3 57 yX3_requireTaken, Cond.static yX3_requireTaken, Cond.code yX3_requireTaken cX3_requireTaken 1 none, Cond.classLink RX3 142 "java/lang/IllegalStateException", Cond.initialized "java/lang/IllegalStateException"]
def wsL_hold : List Cond := .codeWith yL_hold cL_hold 6 (some .int) [(0, 12, 15, 13), (0, 12, 19, 15)] :: ((wsL_hold_r1 ++ (wsL_hold_r2 ++ wsL_hold_r3)) ++ wsX30 ++ wsX20 ++ (vx_atS RX3 159 "java/lang/IllegalArgumentException" ["java/lang/RuntimeException", "java/lang/Exception"]).filter goodWord ++ (vx_atS RX3 146 "java/lang/IllegalStateException" ["java/lang/RuntimeException", "java/lang/Exception"]).filter goodWord)
def wsL_acquire_r1 : List Cond := [Cond.classLink RL 13 "java/lang/IllegalArgumentException", Cond.classLink RL 15 "java/lang/IllegalStateException", Cond.methodLink RL 17 yX3_acquire, Cond.instanceMethod yX3_acquire, Cond.selects RX3 yX3_acquire yX3_acquire, Cond.initialized RX3, Cond.code yX3_acquire cX3_acquire 6 (some .int), Cond.constant RX3 61 (1000000), Cond.fieldLink RX3 10 "Groupbooks" "holdings" "LGroupbooks$Holdings;", Cond.fieldLink RX3 30 "Groupbooks" "goodwills" "[I", Cond.fieldLink RX3 19 "Groupbooks" "books" "LGroupbooks$Books;", Cond.methodLink RX3 41 yX3_requireTwoCompanies, Cond.static yX3_requireTwoCompanies, Cond.code yX3_requireTwoCompanies cX3_requireTwoCompanies 2 none, Cond.classLink RX3 155 "java/lang/IllegalArgumentException", Cond.initialized "java/lang/IllegalArgumentException", Cond.methodLink RX3 71 yX3_requireCompany, Cond.static yX3_requireCompany, Cond.code yX3_requireCompany cX3_requireCompany 1 none, Cond.methodLink RX3 45 yX3_requireRange, Cond.static yX3_requireRange, Cond.code yX3_requireRange cX3_requireRange 3 none, Cond.instanceMethod yX2_percentOf, Cond.initialized RX2]
def wsL_acquire_r2 : List Cond := [Cond.selects RX2 yX2_percentOf yX2_percentOf, Cond.code yX2_percentOf cX2_percentOf 3 (some .int), Cond.fieldLink RX2 9 "Groupbooks$Holdings" "percents" "[I", Cond.static yX3_pair, Cond.code yX3_pair cX3_pair 2 (some .int), Cond.instanceMethod yX2_take, Cond.selects RX2 yX2_take yX2_take, Cond.code yX2_take cX2_take 7 (some .boolean), Cond.methodLink RX2 45 yX2_heldByAll, Cond.instanceMethod yX2_heldByAll, Cond.selects RX2 yX2_heldByAll yX2_heldByAll, Cond.code yX2_heldByAll cX2_heldByAll 4 (some .int), Cond.methodLink RX2 49 yX2_determineShares, Cond.instanceMethod yX2_determineShares, Cond.selects RX2 yX2_determineShares yX2_determineShares, Cond.code yX2_determineShares cX2_determineShares 6 (some .boolean), Cond.fieldLink RX2 22 "Groupbooks$Holdings" "equations" "[J", Cond.methodLink RX2 53 yX2_writeEquations, Cond.instanceMethod yX2_writeEquations, Cond.selects RX2 yX2_writeEquations yX2_writeEquations, Cond.code yX2_writeEquations cX2_writeEquations 3 none, Cond.constantLong RX2 64 (100), Cond.methodLink RX2 56 yX2_clearColumn, Cond.instanceMethod yX2_clearColumn]
def wsL_acquire_r3 : List Cond := [Cond.selects RX2 yX2_clearColumn yX2_clearColumn, Cond.code yX2_clearColumn cX2_clearColumn 7 none, Cond.methodLink RX2 66 yX2_clearEntry, Cond.instanceMethod yX2_clearEntry, Cond.selects RX2 yX2_clearEntry yX2_clearEntry, Cond.code yX2_clearEntry cX2_clearEntry 13 none, Cond.methodLink RX2 60 yX2_keepShares, Cond.instanceMethod yX2_keepShares, Cond.selects RX2 yX2_keepShares yX2_keepShares, Cond.code yX2_keepShares cX2_keepShares 8 none, Cond.fieldLink RX2 15 "Groupbooks$Holdings" "numerators" "[J", Cond.fieldLink RX2 19 "Groupbooks$Holdings" "denominators" "[J", Cond.methodLink RX2 70 yX2_commonDivisor, Cond.static yX2_commonDivisor, Cond.code yX2_commonDivisor cX2_commonDivisor 11 (some .long), Cond.methodLink RX3 57 yX3_requireTaken, Cond.static yX3_requireTaken, Cond.code yX3_requireTaken cX3_requireTaken 1 none, Cond.classLink RX3 142 "java/lang/IllegalStateException", Cond.initialized "java/lang/IllegalStateException", Cond.instanceMethod yX1_netOf, Cond.initialized RX1, Cond.selects RX1 yX1_netOf yX1_netOf, Cond.code yX1_netOf cX1_netOf 2 (some .int)]
def wsL_acquire_r4 : List Cond := [Cond.methodLink RX1 37 yX1_assetsOf, Cond.instanceMethod yX1_assetsOf, Cond.selects RX1 yX1_assetsOf yX1_assetsOf, Cond.code yX1_assetsOf cX1_assetsOf 2 (some .int), Cond.fieldLink RX1 9 "Groupbooks$Books" "ownAssets" "[I", Cond.fieldLink RX1 24 "Groupbooks$Books" "closingRates" "[I", Cond.methodLink RX1 33 yX1_translate, Cond.static yX1_translate, Cond.code yX1_translate cX1_translate 2 (some .int), Cond.methodLink RX1 44 yJ9_floorDiv_7cf53, Cond.static yJ9_floorDiv_7cf53, Cond.initialized RJ9, Cond.code yJ9_floorDiv_7cf53 cJ9_floorDiv_7cf53 3 (some .int), Cond.methodLink RX1 41 yX1_debtsOf, Cond.instanceMethod yX1_debtsOf, Cond.selects RX1 yX1_debtsOf yX1_debtsOf, Cond.code yX1_debtsOf cX1_debtsOf 2 (some .int), Cond.fieldLink RX1 15 "Groupbooks$Books" "ownDebts" "[I", Cond.methodLink RX3 66 yJ9_floorDiv_7cf53]
def wsL_acquire : List Cond := .codeWith yL_acquire cL_acquire 7 (some .int) [(0, 14, 17, 13), (0, 14, 21, 15)] :: ((wsL_acquire_r1 ++ (wsL_acquire_r2 ++ (wsL_acquire_r3 ++ wsL_acquire_r4))) ++ wsX30 ++ wsX20 ++ wsX10 ++ (vx_atS RX3 159 "java/lang/IllegalArgumentException" ["java/lang/RuntimeException", "java/lang/Exception"]).filter goodWord ++ (vx_atS RX3 146 "java/lang/IllegalStateException" ["java/lang/RuntimeException", "java/lang/Exception"]).filter goodWord)
def wsL_held : List Cond := .codeWith yL_held cL_held 5 (some .int) [(0, 10, 13, 13)] :: ([.classLink RL 13 "java/lang/IllegalArgumentException", .methodLink RL 21 yX3_held, .instanceMethod yX3_held, .selects RX3 yX3_held yX3_held, .initialized RX3, .code yX3_held cX3_held 3 (some .int), .fieldLink RX3 10 "Groupbooks" "holdings" "LGroupbooks$Holdings;", .methodLink RX3 71 yX3_requireCompany, .static yX3_requireCompany, .code yX3_requireCompany cX3_requireCompany 1 none, .methodLink RX3 45 yX3_requireRange, .static yX3_requireRange, .code yX3_requireRange cX3_requireRange 3 none, .classLink RX3 155 "java/lang/IllegalArgumentException", .initialized "java/lang/IllegalArgumentException", .instanceMethod yX2_percentOf, .initialized RX2, .selects RX2 yX2_percentOf yX2_percentOf, .code yX2_percentOf cX2_percentOf 3 (some .int), .fieldLink RX2 9 "Groupbooks$Holdings" "percents" "[I", .static yX3_pair, .code yX3_pair cX3_pair 2 (some .int)] ++ wsX30 ++ wsX20 ++ (vx_atS RX3 159 "java/lang/IllegalArgumentException" ["java/lang/RuntimeException", "java/lang/Exception"]).filter goodWord)
def wsL_shareNumerator : List Cond := .codeWith yL_shareNumerator cL_shareNumerator 4 (some .int) [(0, 8, 11, 13)] :: ([.classLink RL 13 "java/lang/IllegalArgumentException", .methodLink RL 25 yX3_shareNumerator, .instanceMethod yX3_shareNumerator, .selects RX3 yX3_shareNumerator yX3_shareNumerator, .initialized RX3, .code yX3_shareNumerator cX3_shareNumerator 2 (some .long), .fieldLink RX3 10 "Groupbooks" "holdings" "LGroupbooks$Holdings;", .methodLink RX3 71 yX3_requireCompany, .static yX3_requireCompany, .code yX3_requireCompany cX3_requireCompany 1 none, .methodLink RX3 45 yX3_requireRange, .static yX3_requireRange, .code yX3_requireRange cX3_requireRange 3 none, .classLink RX3 155 "java/lang/IllegalArgumentException", .initialized "java/lang/IllegalArgumentException", .instanceMethod yX2_numeratorOf, .initialized RX2, .selects RX2 yX2_numeratorOf yX2_numeratorOf, .code yX2_numeratorOf cX2_numeratorOf 2 (some .long), .fieldLink RX2 15 "Groupbooks$Holdings" "numerators" "[J"] ++ wsX30 ++ wsX20 ++ (vx_atS RX3 159 "java/lang/IllegalArgumentException" ["java/lang/RuntimeException", "java/lang/Exception"]).filter goodWord)
def wsL_shareDenominator : List Cond := .codeWith yL_shareDenominator cL_shareDenominator 4 (some .int) [(0, 8, 11, 13)] :: ([.classLink RL 13 "java/lang/IllegalArgumentException", .methodLink RL 29 yX3_shareDenominator, .instanceMethod yX3_shareDenominator, .selects RX3 yX3_shareDenominator yX3_shareDenominator, .initialized RX3, .code yX3_shareDenominator cX3_shareDenominator 2 (some .long), .fieldLink RX3 10 "Groupbooks" "holdings" "LGroupbooks$Holdings;", .methodLink RX3 71 yX3_requireCompany, .static yX3_requireCompany, .code yX3_requireCompany cX3_requireCompany 1 none, .methodLink RX3 45 yX3_requireRange, .static yX3_requireRange, .code yX3_requireRange cX3_requireRange 3 none, .classLink RX3 155 "java/lang/IllegalArgumentException", .initialized "java/lang/IllegalArgumentException", .instanceMethod yX2_denominatorOf, .initialized RX2, .selects RX2 yX2_denominatorOf yX2_denominatorOf, .code yX2_denominatorOf cX2_denominatorOf 2 (some .long), .fieldLink RX2 19 "Groupbooks$Holdings" "denominators" "[J"] ++ wsX30 ++ wsX20 ++ (vx_atS RX3 159 "java/lang/IllegalArgumentException" ["java/lang/RuntimeException", "java/lang/Exception"]).filter goodWord)
def wsL_shareByRounds_r1 : List Cond := [Cond.classLink RL 13 "java/lang/IllegalArgumentException", Cond.methodLink RL 32 yX3_shareByRounds, Cond.instanceMethod yX3_shareByRounds, Cond.selects RX3 yX3_shareByRounds yX3_shareByRounds, Cond.initialized RX3, Cond.code yX3_shareByRounds cX3_shareByRounds 3 (some .int), Cond.fieldLink RX3 10 "Groupbooks" "holdings" "LGroupbooks$Holdings;", Cond.methodLink RX3 71 yX3_requireCompany, Cond.static yX3_requireCompany, Cond.code yX3_requireCompany cX3_requireCompany 1 none, Cond.methodLink RX3 45 yX3_requireRange, Cond.static yX3_requireRange, Cond.code yX3_requireRange cX3_requireRange 3 none, Cond.classLink RX3 155 "java/lang/IllegalArgumentException", Cond.initialized "java/lang/IllegalArgumentException", Cond.instanceMethod yX2_millionthsAfter, Cond.initialized RX2, Cond.selects RX2 yX2_millionthsAfter yX2_millionthsAfter, Cond.code yX2_millionthsAfter cX2_millionthsAfter 4 (some .int), Cond.fieldLink RX2 25 "Groupbooks$Holdings" "amounts" "[I", Cond.constant RX2 73 (1000000), Cond.methodLink RX2 74 yX2_playRound, Cond.instanceMethod yX2_playRound, Cond.selects RX2 yX2_playRound yX2_playRound]
def wsL_shareByRounds_r2 : List Cond := [Cond.code yX2_playRound cX2_playRound 4 none, Cond.fieldLink RX2 9 "Groupbooks$Holdings" "percents" "[I", Cond.fieldLink RX2 28 "Groupbooks$Holdings" "nextAmounts" "[I", Cond.static yX3_pair, Cond.code yX3_pair cX3_pair 2 (some .int)]
def wsL_shareByRounds : List Cond := .codeWith yL_shareByRounds cL_shareByRounds 5 (some .int) [(0, 10, 13, 13)] :: ((wsL_shareByRounds_r1 ++ wsL_shareByRounds_r2) ++ wsX30 ++ wsX20 ++ (vx_atS RX3 159 "java/lang/IllegalArgumentException" ["java/lang/RuntimeException", "java/lang/Exception"]).filter goodWord)
def wsL_goodwill : List Cond := .codeWith yL_goodwill cL_goodwill 4 (some .int) [(0, 9, 12, 13)] :: ([.classLink RL 13 "java/lang/IllegalArgumentException", .methodLink RL 35 yX3_goodwill, .instanceMethod yX3_goodwill, .selects RX3 yX3_goodwill yX3_goodwill, .initialized RX3, .code yX3_goodwill cX3_goodwill 2 (some .int), .fieldLink RX3 30 "Groupbooks" "goodwills" "[I", .methodLink RX3 71 yX3_requireCompany, .static yX3_requireCompany, .code yX3_requireCompany cX3_requireCompany 1 none, .methodLink RX3 45 yX3_requireRange, .static yX3_requireRange, .code yX3_requireRange cX3_requireRange 3 none, .classLink RX3 155 "java/lang/IllegalArgumentException", .initialized "java/lang/IllegalArgumentException"] ++ wsX30 ++ (vx_atS RX3 159 "java/lang/IllegalArgumentException" ["java/lang/RuntimeException", "java/lang/Exception"]).filter goodWord)
def wsL_setBooks_r1 : List Cond := [Cond.classLink RL 13 "java/lang/IllegalArgumentException", Cond.methodLink RL 39 yX3_setBooks, Cond.instanceMethod yX3_setBooks, Cond.selects RX3 yX3_setBooks yX3_setBooks, Cond.initialized RX3, Cond.code yX3_setBooks cX3_setBooks 6 none, Cond.constant RX3 61 (1000000), Cond.constant RX3 89 (-1000000), Cond.fieldLink RX3 19 "Groupbooks" "books" "LGroupbooks$Books;", Cond.methodLink RX3 71 yX3_requireCompany, Cond.static yX3_requireCompany, Cond.code yX3_requireCompany cX3_requireCompany 1 none, Cond.methodLink RX3 45 yX3_requireRange, Cond.static yX3_requireRange, Cond.code yX3_requireRange cX3_requireRange 3 none, Cond.classLink RX3 155 "java/lang/IllegalArgumentException", Cond.initialized "java/lang/IllegalArgumentException", Cond.methodLink RX3 90 yX3_requireBalance, Cond.static yX3_requireBalance, Cond.code yX3_requireBalance cX3_requireBalance 2 none, Cond.instanceMethod yX1_enter, Cond.initialized RX1, Cond.selects RX1 yX1_enter yX1_enter, Cond.code yX1_enter cX1_enter 6 none]
def wsL_setBooks_r2 : List Cond := [Cond.fieldLink RX1 9 "Groupbooks$Books" "ownAssets" "[I", Cond.fieldLink RX1 15 "Groupbooks$Books" "ownDebts" "[I", Cond.fieldLink RX1 18 "Groupbooks$Books" "ownEquities" "[I", Cond.fieldLink RX1 21 "Groupbooks$Books" "ownProfits" "[I"]
def wsL_setBooks : List Cond := .codeWith yL_setBooks cL_setBooks 7 (some .int) [(0, 11, 14, 13)] :: ((wsL_setBooks_r1 ++ wsL_setBooks_r2) ++ wsX30 ++ wsX10 ++ (vx_atS RX3 159 "java/lang/IllegalArgumentException" ["java/lang/RuntimeException", "java/lang/Exception"]).filter goodWord)
def wsL_setRates : List Cond := .codeWith yL_setRates cL_setRates 6 (some .int) [(0, 9, 12, 13)] :: ([.classLink RL 13 "java/lang/IllegalArgumentException", .methodLink RL 43 yX3_setRates, .instanceMethod yX3_setRates, .selects RX3 yX3_setRates yX3_setRates, .initialized RX3, .code yX3_setRates cX3_setRates 5 none, .fieldLink RX3 19 "Groupbooks" "books" "LGroupbooks$Books;", .methodLink RX3 71 yX3_requireCompany, .static yX3_requireCompany, .code yX3_requireCompany cX3_requireCompany 1 none, .methodLink RX3 45 yX3_requireRange, .static yX3_requireRange, .code yX3_requireRange cX3_requireRange 3 none, .classLink RX3 155 "java/lang/IllegalArgumentException", .initialized "java/lang/IllegalArgumentException", .instanceMethod yX1_enterRates, .initialized RX1, .selects RX1 yX1_enterRates yX1_enterRates, .code yX1_enterRates cX1_enterRates 5 none, .fieldLink RX1 24 "Groupbooks$Books" "closingRates" "[I", .fieldLink RX1 27 "Groupbooks$Books" "averageRates" "[I", .fieldLink RX1 30 "Groupbooks$Books" "historicalRates" "[I"] ++ wsX30 ++ wsX10 ++ (vx_atS RX3 159 "java/lang/IllegalArgumentException" ["java/lang/RuntimeException", "java/lang/Exception"]).filter goodWord)
def wsL_netValue_r1 : List Cond := [Cond.classLink RL 13 "java/lang/IllegalArgumentException", Cond.methodLink RL 47 yX3_netValue, Cond.instanceMethod yX3_netValue, Cond.selects RX3 yX3_netValue yX3_netValue, Cond.initialized RX3, Cond.code yX3_netValue cX3_netValue 2 (some .int), Cond.fieldLink RX3 19 "Groupbooks" "books" "LGroupbooks$Books;", Cond.methodLink RX3 71 yX3_requireCompany, Cond.static yX3_requireCompany, Cond.code yX3_requireCompany cX3_requireCompany 1 none, Cond.methodLink RX3 45 yX3_requireRange, Cond.static yX3_requireRange, Cond.code yX3_requireRange cX3_requireRange 3 none, Cond.classLink RX3 155 "java/lang/IllegalArgumentException", Cond.initialized "java/lang/IllegalArgumentException", Cond.instanceMethod yX1_netOf, Cond.initialized RX1, Cond.selects RX1 yX1_netOf yX1_netOf, Cond.code yX1_netOf cX1_netOf 2 (some .int), Cond.methodLink RX1 37 yX1_assetsOf, Cond.instanceMethod yX1_assetsOf, Cond.selects RX1 yX1_assetsOf yX1_assetsOf, Cond.code yX1_assetsOf cX1_assetsOf 2 (some .int), Cond.fieldLink RX1 9 "Groupbooks$Books" "ownAssets" "[I"]
def wsL_netValue_r2 : List Cond := [Cond.fieldLink RX1 24 "Groupbooks$Books" "closingRates" "[I", Cond.methodLink RX1 33 yX1_translate, Cond.static yX1_translate, Cond.code yX1_translate cX1_translate 2 (some .int), Cond.methodLink RX1 44 yJ9_floorDiv_7cf53, Cond.static yJ9_floorDiv_7cf53, Cond.initialized RJ9, Cond.code yJ9_floorDiv_7cf53 cJ9_floorDiv_7cf53 3 (some .int), Cond.methodLink RX1 41 yX1_debtsOf, Cond.instanceMethod yX1_debtsOf, Cond.selects RX1 yX1_debtsOf yX1_debtsOf, Cond.code yX1_debtsOf cX1_debtsOf 2 (some .int), Cond.fieldLink RX1 15 "Groupbooks$Books" "ownDebts" "[I"]
def wsL_netValue : List Cond := .codeWith yL_netValue cL_netValue 4 (some .int) [(0, 9, 12, 13)] :: ((wsL_netValue_r1 ++ wsL_netValue_r2) ++ wsX30 ++ wsX10 ++ (vx_atS RX3 159 "java/lang/IllegalArgumentException" ["java/lang/RuntimeException", "java/lang/Exception"]).filter goodWord)
def wsL_translatedEquity_r1 : List Cond := [Cond.classLink RL 13 "java/lang/IllegalArgumentException", Cond.methodLink RL 50 yX3_translatedEquity, Cond.instanceMethod yX3_translatedEquity, Cond.selects RX3 yX3_translatedEquity yX3_translatedEquity, Cond.initialized RX3, Cond.code yX3_translatedEquity cX3_translatedEquity 2 (some .int), Cond.fieldLink RX3 19 "Groupbooks" "books" "LGroupbooks$Books;", Cond.methodLink RX3 71 yX3_requireCompany, Cond.static yX3_requireCompany, Cond.code yX3_requireCompany cX3_requireCompany 1 none, Cond.methodLink RX3 45 yX3_requireRange, Cond.static yX3_requireRange, Cond.code yX3_requireRange cX3_requireRange 3 none, Cond.classLink RX3 155 "java/lang/IllegalArgumentException", Cond.initialized "java/lang/IllegalArgumentException", Cond.instanceMethod yX1_equityOf, Cond.initialized RX1, Cond.selects RX1 yX1_equityOf yX1_equityOf, Cond.code yX1_equityOf cX1_equityOf 2 (some .int), Cond.fieldLink RX1 18 "Groupbooks$Books" "ownEquities" "[I", Cond.fieldLink RX1 30 "Groupbooks$Books" "historicalRates" "[I", Cond.methodLink RX1 33 yX1_translate, Cond.static yX1_translate, Cond.code yX1_translate cX1_translate 2 (some .int)]
def wsL_translatedEquity_r2 : List Cond := [Cond.methodLink RX1 44 yJ9_floorDiv_7cf53, Cond.static yJ9_floorDiv_7cf53, Cond.initialized RJ9, Cond.code yJ9_floorDiv_7cf53 cJ9_floorDiv_7cf53 3 (some .int)]
def wsL_translatedEquity : List Cond := .codeWith yL_translatedEquity cL_translatedEquity 4 (some .int) [(0, 9, 12, 13)] :: ((wsL_translatedEquity_r1 ++ wsL_translatedEquity_r2) ++ wsX30 ++ wsX10 ++ (vx_atS RX3 159 "java/lang/IllegalArgumentException" ["java/lang/RuntimeException", "java/lang/Exception"]).filter goodWord)
def wsL_translatedResult_r1 : List Cond := [Cond.classLink RL 13 "java/lang/IllegalArgumentException", Cond.methodLink RL 53 yX3_translatedResult, Cond.instanceMethod yX3_translatedResult, Cond.selects RX3 yX3_translatedResult yX3_translatedResult, Cond.initialized RX3, Cond.code yX3_translatedResult cX3_translatedResult 2 (some .int), Cond.fieldLink RX3 19 "Groupbooks" "books" "LGroupbooks$Books;", Cond.methodLink RX3 71 yX3_requireCompany, Cond.static yX3_requireCompany, Cond.code yX3_requireCompany cX3_requireCompany 1 none, Cond.methodLink RX3 45 yX3_requireRange, Cond.static yX3_requireRange, Cond.code yX3_requireRange cX3_requireRange 3 none, Cond.classLink RX3 155 "java/lang/IllegalArgumentException", Cond.initialized "java/lang/IllegalArgumentException", Cond.instanceMethod yX1_profitOf, Cond.initialized RX1, Cond.selects RX1 yX1_profitOf yX1_profitOf, Cond.code yX1_profitOf cX1_profitOf 2 (some .int), Cond.fieldLink RX1 21 "Groupbooks$Books" "ownProfits" "[I", Cond.fieldLink RX1 27 "Groupbooks$Books" "averageRates" "[I", Cond.methodLink RX1 33 yX1_translate, Cond.static yX1_translate, Cond.code yX1_translate cX1_translate 2 (some .int)]
def wsL_translatedResult_r2 : List Cond := [Cond.methodLink RX1 44 yJ9_floorDiv_7cf53, Cond.static yJ9_floorDiv_7cf53, Cond.initialized RJ9, Cond.code yJ9_floorDiv_7cf53 cJ9_floorDiv_7cf53 3 (some .int)]
def wsL_translatedResult : List Cond := .codeWith yL_translatedResult cL_translatedResult 4 (some .int) [(0, 9, 12, 13)] :: ((wsL_translatedResult_r1 ++ wsL_translatedResult_r2) ++ wsX30 ++ wsX10 ++ (vx_atS RX3 159 "java/lang/IllegalArgumentException" ["java/lang/RuntimeException", "java/lang/Exception"]).filter goodWord)
def wsL_reserve_r1 : List Cond := [Cond.classLink RL 13 "java/lang/IllegalArgumentException", Cond.methodLink RL 56 yX3_reserve, Cond.instanceMethod yX3_reserve, Cond.selects RX3 yX3_reserve yX3_reserve, Cond.initialized RX3, Cond.code yX3_reserve cX3_reserve 2 (some .int), Cond.fieldLink RX3 19 "Groupbooks" "books" "LGroupbooks$Books;", Cond.methodLink RX3 71 yX3_requireCompany, Cond.static yX3_requireCompany, Cond.code yX3_requireCompany cX3_requireCompany 1 none, Cond.methodLink RX3 45 yX3_requireRange, Cond.static yX3_requireRange, Cond.code yX3_requireRange cX3_requireRange 3 none, Cond.classLink RX3 155 "java/lang/IllegalArgumentException", Cond.initialized "java/lang/IllegalArgumentException", Cond.instanceMethod yX1_netOf, Cond.initialized RX1, Cond.selects RX1 yX1_netOf yX1_netOf, Cond.code yX1_netOf cX1_netOf 2 (some .int), Cond.methodLink RX1 37 yX1_assetsOf, Cond.instanceMethod yX1_assetsOf, Cond.selects RX1 yX1_assetsOf yX1_assetsOf, Cond.code yX1_assetsOf cX1_assetsOf 2 (some .int), Cond.fieldLink RX1 9 "Groupbooks$Books" "ownAssets" "[I"]
def wsL_reserve_r2 : List Cond := [Cond.fieldLink RX1 24 "Groupbooks$Books" "closingRates" "[I", Cond.methodLink RX1 33 yX1_translate, Cond.static yX1_translate, Cond.code yX1_translate cX1_translate 2 (some .int), Cond.methodLink RX1 44 yJ9_floorDiv_7cf53, Cond.static yJ9_floorDiv_7cf53, Cond.initialized RJ9, Cond.code yJ9_floorDiv_7cf53 cJ9_floorDiv_7cf53 3 (some .int), Cond.methodLink RX1 41 yX1_debtsOf, Cond.instanceMethod yX1_debtsOf, Cond.selects RX1 yX1_debtsOf yX1_debtsOf, Cond.code yX1_debtsOf cX1_debtsOf 2 (some .int), Cond.fieldLink RX1 15 "Groupbooks$Books" "ownDebts" "[I", Cond.instanceMethod yX1_equityOf, Cond.selects RX1 yX1_equityOf yX1_equityOf, Cond.code yX1_equityOf cX1_equityOf 2 (some .int), Cond.fieldLink RX1 18 "Groupbooks$Books" "ownEquities" "[I", Cond.fieldLink RX1 30 "Groupbooks$Books" "historicalRates" "[I", Cond.instanceMethod yX1_profitOf, Cond.selects RX1 yX1_profitOf yX1_profitOf, Cond.code yX1_profitOf cX1_profitOf 2 (some .int), Cond.fieldLink RX1 21 "Groupbooks$Books" "ownProfits" "[I", Cond.fieldLink RX1 27 "Groupbooks$Books" "averageRates" "[I"]
def wsL_reserve : List Cond := .codeWith yL_reserve cL_reserve 4 (some .int) [(0, 9, 12, 13)] :: ((wsL_reserve_r1 ++ wsL_reserve_r2) ++ wsX30 ++ wsX10 ++ (vx_atS RX3 159 "java/lang/IllegalArgumentException" ["java/lang/RuntimeException", "java/lang/Exception"]).filter goodWord)
def wsL_claim_r1 : List Cond := [Cond.classLink RL 13 "java/lang/IllegalArgumentException", Cond.methodLink RL 59 yX3_claim, Cond.instanceMethod yX3_claim, Cond.selects RX3 yX3_claim yX3_claim, Cond.initialized RX3, Cond.code yX3_claim cX3_claim 4 (some .int), Cond.constant RX3 61 (1000000), Cond.fieldLink RX3 26 "Groupbooks" "balances" "LGroupbooks$Balances;", Cond.methodLink RX3 41 yX3_requireTwoCompanies, Cond.static yX3_requireTwoCompanies, Cond.code yX3_requireTwoCompanies cX3_requireTwoCompanies 2 none, Cond.classLink RX3 155 "java/lang/IllegalArgumentException", Cond.initialized "java/lang/IllegalArgumentException", Cond.methodLink RX3 71 yX3_requireCompany, Cond.static yX3_requireCompany, Cond.code yX3_requireCompany cX3_requireCompany 1 none, Cond.methodLink RX3 45 yX3_requireRange, Cond.static yX3_requireRange, Cond.code yX3_requireRange cX3_requireRange 3 none, Cond.instanceMethod yX0_replaceClaim, Cond.initialized RX0, Cond.selects RX0 yX0_replaceClaim yX0_replaceClaim, Cond.code yX0_replaceClaim cX0_replaceClaim 6 (some .int), Cond.fieldLink RX0 9 "Groupbooks$Balances" "claims" "[I"]
def wsL_claim_r2 : List Cond := [Cond.static yX3_pair, Cond.code yX3_pair cX3_pair 2 (some .int)]
def wsL_claim : List Cond := .codeWith yL_claim cL_claim 6 (some .int) [(0, 12, 15, 13)] :: ((wsL_claim_r1 ++ wsL_claim_r2) ++ wsX30 ++ wsX00 ++ (vx_atS RX3 159 "java/lang/IllegalArgumentException" ["java/lang/RuntimeException", "java/lang/Exception"]).filter goodWord)
def wsL_admit_r1 : List Cond := [Cond.classLink RL 13 "java/lang/IllegalArgumentException", Cond.methodLink RL 62 yX3_admit, Cond.instanceMethod yX3_admit, Cond.selects RX3 yX3_admit yX3_admit, Cond.initialized RX3, Cond.code yX3_admit cX3_admit 4 (some .int), Cond.constant RX3 61 (1000000), Cond.fieldLink RX3 26 "Groupbooks" "balances" "LGroupbooks$Balances;", Cond.methodLink RX3 41 yX3_requireTwoCompanies, Cond.static yX3_requireTwoCompanies, Cond.code yX3_requireTwoCompanies cX3_requireTwoCompanies 2 none, Cond.classLink RX3 155 "java/lang/IllegalArgumentException", Cond.initialized "java/lang/IllegalArgumentException", Cond.methodLink RX3 71 yX3_requireCompany, Cond.static yX3_requireCompany, Cond.code yX3_requireCompany cX3_requireCompany 1 none, Cond.methodLink RX3 45 yX3_requireRange, Cond.static yX3_requireRange, Cond.code yX3_requireRange cX3_requireRange 3 none, Cond.instanceMethod yX0_replaceAdmitted, Cond.initialized RX0, Cond.selects RX0 yX0_replaceAdmitted yX0_replaceAdmitted, Cond.code yX0_replaceAdmitted cX0_replaceAdmitted 6 (some .int), Cond.fieldLink RX0 15 "Groupbooks$Balances" "admissions" "[I"]
def wsL_admit_r2 : List Cond := [Cond.static yX3_pair, Cond.code yX3_pair cX3_pair 2 (some .int)]
def wsL_admit : List Cond := .codeWith yL_admit cL_admit 6 (some .int) [(0, 12, 15, 13)] :: ((wsL_admit_r1 ++ wsL_admit_r2) ++ wsX30 ++ wsX00 ++ (vx_atS RX3 159 "java/lang/IllegalArgumentException" ["java/lang/RuntimeException", "java/lang/Exception"]).filter goodWord)
def wsL_difference_r1 : List Cond := [Cond.classLink RL 13 "java/lang/IllegalArgumentException", Cond.methodLink RL 65 yX3_difference, Cond.instanceMethod yX3_difference, Cond.selects RX3 yX3_difference yX3_difference, Cond.initialized RX3, Cond.code yX3_difference cX3_difference 3 (some .int), Cond.fieldLink RX3 26 "Groupbooks" "balances" "LGroupbooks$Balances;", Cond.methodLink RX3 41 yX3_requireTwoCompanies, Cond.static yX3_requireTwoCompanies, Cond.code yX3_requireTwoCompanies cX3_requireTwoCompanies 2 none, Cond.classLink RX3 155 "java/lang/IllegalArgumentException", Cond.initialized "java/lang/IllegalArgumentException", Cond.methodLink RX3 71 yX3_requireCompany, Cond.static yX3_requireCompany, Cond.code yX3_requireCompany cX3_requireCompany 1 none, Cond.methodLink RX3 45 yX3_requireRange, Cond.static yX3_requireRange, Cond.code yX3_requireRange cX3_requireRange 3 none, Cond.instanceMethod yX0_disputed, Cond.initialized RX0, Cond.selects RX0 yX0_disputed yX0_disputed, Cond.code yX0_disputed cX0_disputed 4 (some .int), Cond.fieldLink RX0 9 "Groupbooks$Balances" "claims" "[I", Cond.fieldLink RX0 15 "Groupbooks$Balances" "admissions" "[I"]
def wsL_difference_r2 : List Cond := [Cond.static yX3_pair, Cond.code yX3_pair cX3_pair 2 (some .int)]
def wsL_difference : List Cond := .codeWith yL_difference cL_difference 5 (some .int) [(0, 10, 13, 13)] :: ((wsL_difference_r1 ++ wsL_difference_r2) ++ wsX30 ++ wsX00 ++ (vx_atS RX3 159 "java/lang/IllegalArgumentException" ["java/lang/RuntimeException", "java/lang/Exception"]).filter goodWord)
def wsL_minority_r1 : List Cond := [Cond.classLink RL 13 "java/lang/IllegalArgumentException", Cond.methodLink RL 68 yX3_minority, Cond.instanceMethod yX3_minority, Cond.selects RX3 yX3_minority yX3_minority, Cond.initialized RX3, Cond.code yX3_minority cX3_minority 2 (some .int), Cond.fieldLink RX3 10 "Groupbooks" "holdings" "LGroupbooks$Holdings;", Cond.methodLink RX3 71 yX3_requireCompany, Cond.static yX3_requireCompany, Cond.code yX3_requireCompany cX3_requireCompany 1 none, Cond.methodLink RX3 45 yX3_requireRange, Cond.static yX3_requireRange, Cond.code yX3_requireRange cX3_requireRange 3 none, Cond.classLink RX3 155 "java/lang/IllegalArgumentException", Cond.initialized "java/lang/IllegalArgumentException", Cond.instanceMethod yX2_members, Cond.initialized RX2, Cond.selects RX2 yX2_members yX2_members, Cond.code yX2_members cX2_members 3 (some .int), Cond.methodLink RX2 77 yX2_withControlled, Cond.instanceMethod yX2_withControlled, Cond.selects RX2 yX2_withControlled yX2_withControlled, Cond.code yX2_withControlled cX2_withControlled 4 (some .int), Cond.methodLink RX2 80 yX2_heldAmong]
def wsL_minority_r2 : List Cond := [Cond.instanceMethod yX2_heldAmong, Cond.selects RX2 yX2_heldAmong yX2_heldAmong, Cond.code yX2_heldAmong cX2_heldAmong 5 (some .int), Cond.fieldLink RX2 9 "Groupbooks$Holdings" "percents" "[I", Cond.static yX3_isMember, Cond.code yX3_isMember cX3_isMember 2 (some .boolean), Cond.static yX3_pair, Cond.code yX3_pair cX3_pair 2 (some .int), Cond.methodLink RX3 130 yX3_minorityAmong, Cond.instanceMethod yX3_minorityAmong, Cond.selects RX3 yX3_minorityAmong yX3_minorityAmong, Cond.code yX3_minorityAmong cX3_minorityAmong 3 (some .int), Cond.fieldLink RX3 19 "Groupbooks" "books" "LGroupbooks$Books;", Cond.methodLink RX3 120 yX3_isMember, Cond.instanceMethod yX1_netOf, Cond.initialized RX1, Cond.selects RX1 yX1_netOf yX1_netOf, Cond.code yX1_netOf cX1_netOf 2 (some .int), Cond.methodLink RX1 37 yX1_assetsOf, Cond.instanceMethod yX1_assetsOf, Cond.selects RX1 yX1_assetsOf yX1_assetsOf, Cond.code yX1_assetsOf cX1_assetsOf 2 (some .int), Cond.fieldLink RX1 9 "Groupbooks$Books" "ownAssets" "[I", Cond.fieldLink RX1 24 "Groupbooks$Books" "closingRates" "[I"]
def wsL_minority_r3 : List Cond := [Cond.methodLink RX1 33 yX1_translate, Cond.static yX1_translate, Cond.code yX1_translate cX1_translate 2 (some .int), Cond.methodLink RX1 44 yJ9_floorDiv_7cf53, Cond.static yJ9_floorDiv_7cf53, Cond.initialized RJ9, Cond.code yJ9_floorDiv_7cf53 cJ9_floorDiv_7cf53 3 (some .int), Cond.methodLink RX1 41 yX1_debtsOf, Cond.instanceMethod yX1_debtsOf, Cond.selects RX1 yX1_debtsOf yX1_debtsOf, Cond.code yX1_debtsOf cX1_debtsOf 2 (some .int), Cond.fieldLink RX1 15 "Groupbooks$Books" "ownDebts" "[I", Cond.instanceMethod yX2_partOfOthers, Cond.selects RX2 yX2_partOfOthers yX2_partOfOthers, Cond.code yX2_partOfOthers cX2_partOfOthers 5 (some .int), Cond.fieldLink RX2 19 "Groupbooks$Holdings" "denominators" "[J", Cond.fieldLink RX2 15 "Groupbooks$Holdings" "numerators" "[J", Cond.methodLink RX2 35 yX2_scale, Cond.static yX2_scale, Cond.code yX2_scale cX2_scale 5 (some .int), Cond.methodLink RX2 39 yJ9_floorDiv_f86c9, Cond.static yJ9_floorDiv_f86c9, Cond.code yJ9_floorDiv_f86c9 cJ9_floorDiv_f86c9 6 (some .long)]
def wsL_minority : List Cond := .codeWith yL_minority cL_minority 4 (some .int) [(0, 9, 12, 13)] :: ((wsL_minority_r1 ++ (wsL_minority_r2 ++ wsL_minority_r3)) ++ wsX30 ++ wsX20 ++ wsX10 ++ (vx_atS RX3 159 "java/lang/IllegalArgumentException" ["java/lang/RuntimeException", "java/lang/Exception"]).filter goodWord)
def wsL_close_r1 : List Cond := [Cond.classLink RL 15 "java/lang/IllegalStateException", Cond.methodLink RL 71 yX3_close, Cond.instanceMethod yX3_close, Cond.selects RX3 yX3_close yX3_close, Cond.initialized RX3, Cond.code yX3_close cX3_close 2 (some .int), Cond.classLink RX3 142 "java/lang/IllegalStateException", Cond.initialized "java/lang/IllegalStateException", Cond.fieldLink RX3 37 "Groupbooks" "closedPeriods" "I", Cond.fieldLink RX3 34 "Groupbooks" "periodResults" "[I", Cond.fieldLink RX3 19 "Groupbooks" "books" "LGroupbooks$Books;", Cond.methodLink RX3 149 yX3_result, Cond.instanceMethod yX3_result, Cond.selects RX3 yX3_result yX3_result, Cond.code yX3_result cX3_result 4 (some .int), Cond.fieldLink RX3 10 "Groupbooks" "holdings" "LGroupbooks$Holdings;", Cond.instanceMethod yX2_members, Cond.initialized RX2, Cond.selects RX2 yX2_members yX2_members, Cond.code yX2_members cX2_members 3 (some .int), Cond.methodLink RX2 77 yX2_withControlled, Cond.instanceMethod yX2_withControlled, Cond.selects RX2 yX2_withControlled yX2_withControlled, Cond.code yX2_withControlled cX2_withControlled 4 (some .int)]
def wsL_close_r2 : List Cond := [Cond.methodLink RX2 80 yX2_heldAmong, Cond.instanceMethod yX2_heldAmong, Cond.selects RX2 yX2_heldAmong yX2_heldAmong, Cond.code yX2_heldAmong cX2_heldAmong 5 (some .int), Cond.fieldLink RX2 9 "Groupbooks$Holdings" "percents" "[I", Cond.static yX3_isMember, Cond.code yX3_isMember cX3_isMember 2 (some .boolean), Cond.static yX3_pair, Cond.code yX3_pair cX3_pair 2 (some .int), Cond.methodLink RX3 120 yX3_isMember, Cond.instanceMethod yX1_profitOf, Cond.initialized RX1, Cond.selects RX1 yX1_profitOf yX1_profitOf, Cond.code yX1_profitOf cX1_profitOf 2 (some .int), Cond.fieldLink RX1 21 "Groupbooks$Books" "ownProfits" "[I", Cond.fieldLink RX1 27 "Groupbooks$Books" "averageRates" "[I", Cond.methodLink RX1 33 yX1_translate, Cond.static yX1_translate, Cond.code yX1_translate cX1_translate 2 (some .int), Cond.methodLink RX1 44 yJ9_floorDiv_7cf53, Cond.static yJ9_floorDiv_7cf53, Cond.initialized RJ9, Cond.code yJ9_floorDiv_7cf53 cJ9_floorDiv_7cf53 3 (some .int), Cond.instanceMethod yX2_partOfParent]
def wsL_close_r3 : List Cond := [Cond.selects RX2 yX2_partOfParent yX2_partOfParent, Cond.code yX2_partOfParent cX2_partOfParent 3 (some .int), Cond.fieldLink RX2 15 "Groupbooks$Holdings" "numerators" "[J", Cond.fieldLink RX2 19 "Groupbooks$Holdings" "denominators" "[J", Cond.methodLink RX2 35 yX2_scale, Cond.static yX2_scale, Cond.code yX2_scale cX2_scale 5 (some .int), Cond.methodLink RX2 39 yJ9_floorDiv_f86c9, Cond.static yJ9_floorDiv_f86c9, Cond.code yJ9_floorDiv_f86c9 cJ9_floorDiv_f86c9 6 (some .long), Cond.instanceMethod yX1_carryResults, Cond.selects RX1 yX1_carryResults yX1_carryResults, Cond.code yX1_carryResults cX1_carryResults 2 none, Cond.fieldLink RX1 18 "Groupbooks$Books" "ownEquities" "[I"]
def wsL_close : List Cond := .codeWith yL_close cL_close 3 (some .int) [(0, 8, 11, 15)] :: ((wsL_close_r1 ++ (wsL_close_r2 ++ wsL_close_r3)) ++ wsX30 ++ wsX20 ++ wsX10 ++ (vx_atS RX3 146 "java/lang/IllegalStateException" ["java/lang/RuntimeException", "java/lang/Exception"]).filter goodWord)
def wsL_resultOf : List Cond := .codeWith yL_resultOf cL_resultOf 4 (some .int) [(0, 9, 12, 13)] :: ([.classLink RL 13 "java/lang/IllegalArgumentException", .methodLink RL 75 yX3_resultOf, .instanceMethod yX3_resultOf, .selects RX3 yX3_resultOf yX3_resultOf, .initialized RX3, .code yX3_resultOf cX3_resultOf 2 (some .int), .classLink RX3 155 "java/lang/IllegalArgumentException", .initialized "java/lang/IllegalArgumentException", .fieldLink RX3 37 "Groupbooks" "closedPeriods" "I", .fieldLink RX3 34 "Groupbooks" "periodResults" "[I", .methodLink RX3 45 yX3_requireRange, .static yX3_requireRange, .code yX3_requireRange cX3_requireRange 3 none] ++ wsX30 ++ (vx_atS RX3 159 "java/lang/IllegalArgumentException" ["java/lang/RuntimeException", "java/lang/Exception"]).filter goodWord)
def wsL_law0_r1 : List Cond := [Cond.classLink RL 8 RX3, Cond.instantiable RX3 6, Cond.initialized RX3, Cond.classLink RL 79 RX4, Cond.instantiable RX4 19, Cond.initialized RX4, Cond.arrayClass .long, Cond.methodLink RL 78 yX3_init, Cond.instanceMethod yX3_init, Cond.code yX3_init cX3_init 1 none, Cond.methodLink RX3 1 objectInit, Cond.instanceMethod objectInit, Cond.code objectInit ⟨#[0xb1]⟩ 1 none, Cond.classLink RX3 7 RX2, Cond.instantiable RX2 6, Cond.initialized RX2, Cond.fieldLink RX3 10 "Groupbooks" "holdings" "LGroupbooks$Holdings;", Cond.classLink RX3 16 RX1, Cond.instantiable RX1 7, Cond.initialized RX1, Cond.fieldLink RX3 19 "Groupbooks" "books" "LGroupbooks$Books;", Cond.classLink RX3 23 RX0, Cond.instantiable RX0 2, Cond.initialized RX0]
def wsL_law0_r2 : List Cond := [Cond.fieldLink RX3 26 "Groupbooks" "balances" "LGroupbooks$Balances;", Cond.arrayClass .int, Cond.fieldLink RX3 30 "Groupbooks" "goodwills" "[I", Cond.fieldLink RX3 34 "Groupbooks" "periodResults" "[I", Cond.fieldLink RX3 37 "Groupbooks" "closedPeriods" "I", Cond.instanceMethod yX2_init, Cond.code yX2_init cX2_init 2 none, Cond.methodLink RX2 3 objectInit, Cond.fieldLink RX2 9 "Groupbooks$Holdings" "percents" "[I", Cond.fieldLink RX2 15 "Groupbooks$Holdings" "numerators" "[J", Cond.fieldLink RX2 19 "Groupbooks$Holdings" "denominators" "[J", Cond.fieldLink RX2 22 "Groupbooks$Holdings" "equations" "[J", Cond.fieldLink RX2 25 "Groupbooks$Holdings" "amounts" "[I", Cond.fieldLink RX2 28 "Groupbooks$Holdings" "nextAmounts" "[I", Cond.instanceMethod yX1_init, Cond.code yX1_init cX1_init 2 none, Cond.methodLink RX1 3 objectInit, Cond.fieldLink RX1 9 "Groupbooks$Books" "ownAssets" "[I", Cond.fieldLink RX1 15 "Groupbooks$Books" "ownDebts" "[I", Cond.fieldLink RX1 18 "Groupbooks$Books" "ownEquities" "[I", Cond.fieldLink RX1 21 "Groupbooks$Books" "ownProfits" "[I", Cond.fieldLink RX1 24 "Groupbooks$Books" "closingRates" "[I", Cond.fieldLink RX1 27 "Groupbooks$Books" "averageRates" "[I", Cond.fieldLink RX1 30 "Groupbooks$Books" "historicalRates" "[I"]
def wsL_law0_r3 : List Cond := [Cond.instanceMethod yX0_init, Cond.code yX0_init cX0_init 1 none, Cond.methodLink RX0 3 objectInit, Cond.fieldLink RX0 9 "Groupbooks$Balances" "claims" "[I", Cond.fieldLink RX0 15 "Groupbooks$Balances" "admissions" "[I", Cond.methodLink RL 81 yX4_init, Cond.instanceMethod yX4_init, Cond.code yX4_init cX4_init 2 none, Cond.methodLink RX4 1 objectInit, Cond.fieldLink RX4 7 "GroupbooksModel" "held" "[I", Cond.fieldLink RX4 13 "GroupbooksModel" "claimed" "[I", Cond.fieldLink RX4 16 "GroupbooksModel" "admitted" "[I", Cond.fieldLink RX4 19 "GroupbooksModel" "goodwill" "[I", Cond.fieldLink RX4 22 "GroupbooksModel" "assets" "[I", Cond.fieldLink RX4 25 "GroupbooksModel" "debts" "[I", Cond.fieldLink RX4 28 "GroupbooksModel" "equity" "[I", Cond.fieldLink RX4 31 "GroupbooksModel" "result" "[I", Cond.fieldLink RX4 34 "GroupbooksModel" "closing" "[I", Cond.fieldLink RX4 37 "GroupbooksModel" "average" "[I", Cond.fieldLink RX4 40 "GroupbooksModel" "historical" "[I", Cond.fieldLink RX4 43 "GroupbooksModel" "kept" "[I", Cond.fieldLink RX4 46 "GroupbooksModel" "square" "[J", Cond.fieldLink RX4 50 "GroupbooksModel" "above" "[J", Cond.fieldLink RX4 53 "GroupbooksModel" "below" "[J"]
def wsL_law0_r4 : List Cond := [Cond.fieldLink RX4 56 "GroupbooksModel" "now" "[I", Cond.fieldLink RX4 59 "GroupbooksModel" "then" "[I", Cond.methodLink RL 82 yL_hold, Cond.static yL_hold, Cond.initialized RL, Cond.codeWith yL_hold cL_hold 6 (some .int) [(0, 12, 15, 13), (0, 12, 19, 15)], Cond.classLink RL 13 "java/lang/IllegalArgumentException", Cond.classLink RL 15 "java/lang/IllegalStateException", Cond.methodLink RL 7 yX3_hold, Cond.instanceMethod yX3_hold, Cond.selects RX3 yX3_hold yX3_hold, Cond.code yX3_hold cX3_hold 5 (some .int), Cond.methodLink RX3 41 yX3_requireTwoCompanies, Cond.static yX3_requireTwoCompanies, Cond.code yX3_requireTwoCompanies cX3_requireTwoCompanies 2 none, Cond.classLink RX3 155 "java/lang/IllegalArgumentException", Cond.initialized "java/lang/IllegalArgumentException", Cond.methodLink RX3 71 yX3_requireCompany, Cond.static yX3_requireCompany, Cond.code yX3_requireCompany cX3_requireCompany 1 none, Cond.methodLink RX3 45 yX3_requireRange, Cond.static yX3_requireRange, Cond.code yX3_requireRange cX3_requireRange 3 none, Cond.instanceMethod yX2_percentOf]
def wsL_law0_r5 : List Cond := [Cond.selects RX2 yX2_percentOf yX2_percentOf, Cond.code yX2_percentOf cX2_percentOf 3 (some .int), Cond.static yX3_pair, Cond.code yX3_pair cX3_pair 2 (some .int), Cond.instanceMethod yX2_take, Cond.selects RX2 yX2_take yX2_take, Cond.code yX2_take cX2_take 7 (some .boolean), Cond.methodLink RX2 45 yX2_heldByAll, Cond.instanceMethod yX2_heldByAll, Cond.selects RX2 yX2_heldByAll yX2_heldByAll, Cond.code yX2_heldByAll cX2_heldByAll 4 (some .int), Cond.methodLink RX2 49 yX2_determineShares, Cond.instanceMethod yX2_determineShares, Cond.selects RX2 yX2_determineShares yX2_determineShares, Cond.code yX2_determineShares cX2_determineShares 6 (some .boolean), Cond.methodLink RX2 53 yX2_writeEquations, Cond.instanceMethod yX2_writeEquations, Cond.selects RX2 yX2_writeEquations yX2_writeEquations, Cond.code yX2_writeEquations cX2_writeEquations 3 none, Cond.constantLong RX2 64 (100), Cond.methodLink RX2 56 yX2_clearColumn, Cond.instanceMethod yX2_clearColumn, Cond.selects RX2 yX2_clearColumn yX2_clearColumn, Cond.code yX2_clearColumn cX2_clearColumn 7 none]
def wsL_law0_r6 : List Cond := [Cond.methodLink RX2 66 yX2_clearEntry, Cond.instanceMethod yX2_clearEntry, Cond.selects RX2 yX2_clearEntry yX2_clearEntry, Cond.code yX2_clearEntry cX2_clearEntry 13 none, Cond.methodLink RX2 60 yX2_keepShares, Cond.instanceMethod yX2_keepShares, Cond.selects RX2 yX2_keepShares yX2_keepShares, Cond.code yX2_keepShares cX2_keepShares 8 none, Cond.methodLink RX2 70 yX2_commonDivisor, Cond.static yX2_commonDivisor, Cond.code yX2_commonDivisor cX2_commonDivisor 11 (some .long), Cond.methodLink RX3 57 yX3_requireTaken, Cond.static yX3_requireTaken, Cond.code yX3_requireTaken cX3_requireTaken 1 none, Cond.classLink RX3 142 "java/lang/IllegalStateException", Cond.initialized "java/lang/IllegalStateException", Cond.methodLink RL 87 yX4_hold, Cond.instanceMethod yX4_hold, Cond.selects RX4 yX4_hold yX4_hold, Cond.code yX4_hold cX4_hold 5 (some .int), Cond.fieldLink RX4 62 "GroupbooksModel" "thrown" "I", Cond.methodLink RX4 94 yX4_isPair, Cond.static yX4_isPair, Cond.code yX4_isPair cX4_isPair 2 (some .boolean)]
def wsL_law0_r7 : List Cond := [Cond.methodLink RX4 70 yX4_isCompany, Cond.static yX4_isCompany, Cond.code yX4_isCompany cX4_isCompany 1 (some .boolean), Cond.methodLink RX4 66 yX4_in, Cond.static yX4_in, Cond.code yX4_in cX4_in 3 (some .boolean), Cond.methodLink RX4 98 yX4_fails, Cond.instanceMethod yX4_fails, Cond.selects RX4 yX4_fails yX4_fails, Cond.code yX4_fails cX4_fails 2 (some .int), Cond.methodLink RX4 102 yX4_sets, Cond.instanceMethod yX4_sets, Cond.selects RX4 yX4_sets yX4_sets, Cond.code yX4_sets cX4_sets 7 (some .boolean), Cond.methodLink RX4 90 yX4_layShares, Cond.instanceMethod yX4_layShares, Cond.selects RX4 yX4_layShares yX4_layShares, Cond.code yX4_layShares cX4_layShares 8 (some .boolean), Cond.methodLink RX4 78 yX4_laySquare, Cond.instanceMethod yX4_laySquare, Cond.selects RX4 yX4_laySquare yX4_laySquare, Cond.code yX4_laySquare cX4_laySquare 5 none, Cond.methodLink RX4 82 yX4_determinant, Cond.instanceMethod yX4_determinant]
def wsL_law0_r8 : List Cond := [Cond.selects RX4 yX4_determinant yX4_determinant, Cond.code yX4_determinant cX4_determinant 9 (some .long), Cond.methodLink RX4 74 yX4_exchange, Cond.instanceMethod yX4_exchange, Cond.selects RX4 yX4_exchange yX4_exchange, Cond.code yX4_exchange cX4_exchange 6 none, Cond.methodLink RX4 86 yX4_common, Cond.static yX4_common, Cond.code yX4_common cX4_common 10 (some .long), Cond.methodLink RL 88 yX4_thrown, Cond.instanceMethod yX4_thrown, Cond.selects RX4 yX4_thrown yX4_thrown, Cond.code yX4_thrown cX4_thrown 1 (some .int), Cond.methodLink RL 91 yL_acquire, Cond.static yL_acquire, Cond.codeWith yL_acquire cL_acquire 7 (some .int) [(0, 14, 17, 13), (0, 14, 21, 15)], Cond.methodLink RL 17 yX3_acquire, Cond.instanceMethod yX3_acquire, Cond.selects RX3 yX3_acquire yX3_acquire, Cond.code yX3_acquire cX3_acquire 6 (some .int), Cond.constant RX3 61 (1000000), Cond.instanceMethod yX1_netOf, Cond.selects RX1 yX1_netOf yX1_netOf, Cond.code yX1_netOf cX1_netOf 2 (some .int)]
def wsL_law0_r9 : List Cond := [Cond.methodLink RX1 37 yX1_assetsOf, Cond.instanceMethod yX1_assetsOf, Cond.selects RX1 yX1_assetsOf yX1_assetsOf, Cond.code yX1_assetsOf cX1_assetsOf 2 (some .int), Cond.methodLink RX1 33 yX1_translate, Cond.static yX1_translate, Cond.code yX1_translate cX1_translate 2 (some .int), Cond.methodLink RX1 44 yJ9_floorDiv_7cf53, Cond.static yJ9_floorDiv_7cf53, Cond.initialized RJ9, Cond.code yJ9_floorDiv_7cf53 cJ9_floorDiv_7cf53 3 (some .int), Cond.methodLink RX1 41 yX1_debtsOf, Cond.instanceMethod yX1_debtsOf, Cond.selects RX1 yX1_debtsOf yX1_debtsOf, Cond.code yX1_debtsOf cX1_debtsOf 2 (some .int), Cond.methodLink RX3 66 yJ9_floorDiv_7cf53, Cond.methodLink RL 94 yX4_acquire, Cond.instanceMethod yX4_acquire, Cond.selects RX4 yX4_acquire yX4_acquire, Cond.code yX4_acquire cX4_acquire 6 (some .int), Cond.constant RX4 105 (1000000), Cond.constantLong RX4 109 (100), Cond.methodLink RX4 106 yX4_net, Cond.instanceMethod yX4_net]
def wsL_law0_r10 : List Cond := [Cond.selects RX4 yX4_net yX4_net, Cond.code yX4_net cX4_net 2 (some .int), Cond.methodLink RX4 119 yX4_translated, Cond.static yX4_translated, Cond.code yX4_translated cX4_translated 2 (some .int), Cond.methodLink RX4 111 yX4_floor, Cond.static yX4_floor, Cond.code yX4_floor cX4_floor 6 (some .long), Cond.methodLink RL 95 yL_held, Cond.static yL_held, Cond.codeWith yL_held cL_held 5 (some .int) [(0, 10, 13, 13)], Cond.methodLink RL 21 yX3_held, Cond.instanceMethod yX3_held, Cond.selects RX3 yX3_held yX3_held, Cond.code yX3_held cX3_held 3 (some .int), Cond.methodLink RL 98 yX4_held, Cond.instanceMethod yX4_held, Cond.selects RX4 yX4_held yX4_held, Cond.code yX4_held cX4_held 3 (some .int), Cond.methodLink RL 99 yL_shareNumerator, Cond.static yL_shareNumerator, Cond.codeWith yL_shareNumerator cL_shareNumerator 4 (some .int) [(0, 8, 11, 13)], Cond.methodLink RL 25 yX3_shareNumerator, Cond.instanceMethod yX3_shareNumerator]
def wsL_law0_r11 : List Cond := [Cond.selects RX3 yX3_shareNumerator yX3_shareNumerator, Cond.code yX3_shareNumerator cX3_shareNumerator 2 (some .long), Cond.instanceMethod yX2_numeratorOf, Cond.selects RX2 yX2_numeratorOf yX2_numeratorOf, Cond.code yX2_numeratorOf cX2_numeratorOf 2 (some .long), Cond.methodLink RL 102 yX4_shareNumerator, Cond.instanceMethod yX4_shareNumerator, Cond.selects RX4 yX4_shareNumerator yX4_shareNumerator, Cond.code yX4_shareNumerator cX4_shareNumerator 3 (some .long), Cond.methodLink RL 103 yL_shareDenominator, Cond.static yL_shareDenominator, Cond.codeWith yL_shareDenominator cL_shareDenominator 4 (some .int) [(0, 8, 11, 13)], Cond.methodLink RL 29 yX3_shareDenominator, Cond.instanceMethod yX3_shareDenominator, Cond.selects RX3 yX3_shareDenominator yX3_shareDenominator, Cond.code yX3_shareDenominator cX3_shareDenominator 2 (some .long), Cond.instanceMethod yX2_denominatorOf, Cond.selects RX2 yX2_denominatorOf yX2_denominatorOf, Cond.code yX2_denominatorOf cX2_denominatorOf 2 (some .long), Cond.methodLink RL 105 yX4_shareDenominator, Cond.instanceMethod yX4_shareDenominator, Cond.selects RX4 yX4_shareDenominator yX4_shareDenominator, Cond.code yX4_shareDenominator cX4_shareDenominator 3 (some .long), Cond.methodLink RL 106 yL_shareByRounds]
def wsL_law0_r12 : List Cond := [Cond.static yL_shareByRounds, Cond.codeWith yL_shareByRounds cL_shareByRounds 5 (some .int) [(0, 10, 13, 13)], Cond.methodLink RL 32 yX3_shareByRounds, Cond.instanceMethod yX3_shareByRounds, Cond.selects RX3 yX3_shareByRounds yX3_shareByRounds, Cond.code yX3_shareByRounds cX3_shareByRounds 3 (some .int), Cond.instanceMethod yX2_millionthsAfter, Cond.selects RX2 yX2_millionthsAfter yX2_millionthsAfter, Cond.code yX2_millionthsAfter cX2_millionthsAfter 4 (some .int), Cond.constant RX2 73 (1000000), Cond.methodLink RX2 74 yX2_playRound, Cond.instanceMethod yX2_playRound, Cond.selects RX2 yX2_playRound yX2_playRound, Cond.code yX2_playRound cX2_playRound 4 none, Cond.methodLink RL 108 yX4_shareByRounds, Cond.instanceMethod yX4_shareByRounds, Cond.selects RX4 yX4_shareByRounds yX4_shareByRounds, Cond.code yX4_shareByRounds cX4_shareByRounds 7 (some .int), Cond.methodLink RL 109 yX3_group, Cond.instanceMethod yX3_group, Cond.selects RX3 yX3_group yX3_group, Cond.code yX3_group cX3_group 1 (some .int), Cond.instanceMethod yX2_members, Cond.selects RX2 yX2_members yX2_members]
def wsL_law0_r13 : List Cond := [Cond.code yX2_members cX2_members 3 (some .int), Cond.methodLink RX2 77 yX2_withControlled, Cond.instanceMethod yX2_withControlled, Cond.selects RX2 yX2_withControlled yX2_withControlled, Cond.code yX2_withControlled cX2_withControlled 4 (some .int), Cond.methodLink RX2 80 yX2_heldAmong, Cond.instanceMethod yX2_heldAmong, Cond.selects RX2 yX2_heldAmong yX2_heldAmong, Cond.code yX2_heldAmong cX2_heldAmong 5 (some .int), Cond.static yX3_isMember, Cond.code yX3_isMember cX3_isMember 2 (some .boolean), Cond.methodLink RL 112 yX4_group, Cond.instanceMethod yX4_group, Cond.selects RX4 yX4_group yX4_group, Cond.code yX4_group cX4_group 1 (some .int), Cond.methodLink RX4 114 yX4_groupSet, Cond.instanceMethod yX4_groupSet, Cond.selects RX4 yX4_groupSet yX4_groupSet, Cond.code yX4_groupSet cX4_groupSet 6 (some .int), Cond.methodLink RL 113 yL_goodwill, Cond.static yL_goodwill, Cond.codeWith yL_goodwill cL_goodwill 4 (some .int) [(0, 9, 12, 13)], Cond.methodLink RL 35 yX3_goodwill, Cond.instanceMethod yX3_goodwill]
def wsL_law0_r14 : List Cond := [Cond.selects RX3 yX3_goodwill yX3_goodwill, Cond.code yX3_goodwill cX3_goodwill 2 (some .int), Cond.methodLink RL 115 yX4_goodwill, Cond.instanceMethod yX4_goodwill, Cond.selects RX4 yX4_goodwill yX4_goodwill, Cond.code yX4_goodwill cX4_goodwill 2 (some .int), Cond.methodLink RL 116 yL_setBooks, Cond.static yL_setBooks, Cond.codeWith yL_setBooks cL_setBooks 7 (some .int) [(0, 11, 14, 13)], Cond.methodLink RL 39 yX3_setBooks, Cond.instanceMethod yX3_setBooks, Cond.selects RX3 yX3_setBooks yX3_setBooks, Cond.code yX3_setBooks cX3_setBooks 6 none, Cond.constant RX3 89 (-1000000), Cond.methodLink RX3 90 yX3_requireBalance, Cond.static yX3_requireBalance, Cond.code yX3_requireBalance cX3_requireBalance 2 none, Cond.instanceMethod yX1_enter, Cond.selects RX1 yX1_enter yX1_enter, Cond.code yX1_enter cX1_enter 6 none, Cond.methodLink RL 119 yX4_setBooks, Cond.instanceMethod yX4_setBooks, Cond.selects RX4 yX4_setBooks yX4_setBooks, Cond.code yX4_setBooks cX4_setBooks 7 none]
def wsL_law0_r15 : List Cond := [Cond.constant RX4 118 (-1000000), Cond.methodLink RL 120 yL_setRates, Cond.static yL_setRates, Cond.codeWith yL_setRates cL_setRates 6 (some .int) [(0, 9, 12, 13)], Cond.methodLink RL 43 yX3_setRates, Cond.instanceMethod yX3_setRates, Cond.selects RX3 yX3_setRates yX3_setRates, Cond.code yX3_setRates cX3_setRates 5 none, Cond.instanceMethod yX1_enterRates, Cond.selects RX1 yX1_enterRates yX1_enterRates, Cond.code yX1_enterRates cX1_enterRates 5 none, Cond.methodLink RL 123 yX4_setRates, Cond.instanceMethod yX4_setRates, Cond.selects RX4 yX4_setRates yX4_setRates, Cond.code yX4_setRates cX4_setRates 6 none, Cond.methodLink RL 124 yL_netValue, Cond.static yL_netValue, Cond.codeWith yL_netValue cL_netValue 4 (some .int) [(0, 9, 12, 13)], Cond.methodLink RL 47 yX3_netValue, Cond.instanceMethod yX3_netValue, Cond.selects RX3 yX3_netValue yX3_netValue, Cond.code yX3_netValue cX3_netValue 2 (some .int), Cond.methodLink RL 126 yX4_netValue, Cond.instanceMethod yX4_netValue]
def wsL_law0_r16 : List Cond := [Cond.selects RX4 yX4_netValue yX4_netValue, Cond.code yX4_netValue cX4_netValue 2 (some .int), Cond.methodLink RL 127 yL_translatedEquity, Cond.static yL_translatedEquity, Cond.codeWith yL_translatedEquity cL_translatedEquity 4 (some .int) [(0, 9, 12, 13)], Cond.methodLink RL 50 yX3_translatedEquity, Cond.instanceMethod yX3_translatedEquity, Cond.selects RX3 yX3_translatedEquity yX3_translatedEquity, Cond.code yX3_translatedEquity cX3_translatedEquity 2 (some .int), Cond.instanceMethod yX1_equityOf, Cond.selects RX1 yX1_equityOf yX1_equityOf, Cond.code yX1_equityOf cX1_equityOf 2 (some .int), Cond.methodLink RL 129 yX4_translatedEquity, Cond.instanceMethod yX4_translatedEquity, Cond.selects RX4 yX4_translatedEquity yX4_translatedEquity, Cond.code yX4_translatedEquity cX4_translatedEquity 2 (some .int), Cond.methodLink RL 130 yL_translatedResult, Cond.static yL_translatedResult, Cond.codeWith yL_translatedResult cL_translatedResult 4 (some .int) [(0, 9, 12, 13)], Cond.methodLink RL 53 yX3_translatedResult, Cond.instanceMethod yX3_translatedResult, Cond.selects RX3 yX3_translatedResult yX3_translatedResult, Cond.code yX3_translatedResult cX3_translatedResult 2 (some .int), Cond.instanceMethod yX1_profitOf]
def wsL_law0_r17 : List Cond := [Cond.selects RX1 yX1_profitOf yX1_profitOf, Cond.code yX1_profitOf cX1_profitOf 2 (some .int), Cond.methodLink RL 132 yX4_translatedResult, Cond.instanceMethod yX4_translatedResult, Cond.selects RX4 yX4_translatedResult yX4_translatedResult, Cond.code yX4_translatedResult cX4_translatedResult 2 (some .int), Cond.methodLink RL 133 yL_reserve, Cond.static yL_reserve, Cond.codeWith yL_reserve cL_reserve 4 (some .int) [(0, 9, 12, 13)], Cond.methodLink RL 56 yX3_reserve, Cond.instanceMethod yX3_reserve, Cond.selects RX3 yX3_reserve yX3_reserve, Cond.code yX3_reserve cX3_reserve 2 (some .int), Cond.methodLink RL 135 yX4_reserve, Cond.instanceMethod yX4_reserve, Cond.selects RX4 yX4_reserve yX4_reserve, Cond.code yX4_reserve cX4_reserve 2 (some .int), Cond.methodLink RL 136 yL_claim, Cond.static yL_claim, Cond.codeWith yL_claim cL_claim 6 (some .int) [(0, 12, 15, 13)], Cond.methodLink RL 59 yX3_claim, Cond.instanceMethod yX3_claim, Cond.selects RX3 yX3_claim yX3_claim, Cond.code yX3_claim cX3_claim 4 (some .int)]
def wsL_law0_r18 : List Cond := [Cond.instanceMethod yX0_replaceClaim, Cond.selects RX0 yX0_replaceClaim yX0_replaceClaim, Cond.code yX0_replaceClaim cX0_replaceClaim 6 (some .int), Cond.methodLink RL 138 yX4_claim, Cond.instanceMethod yX4_claim, Cond.selects RX4 yX4_claim yX4_claim, Cond.code yX4_claim cX4_claim 5 (some .int), Cond.methodLink RL 139 yL_admit, Cond.static yL_admit, Cond.codeWith yL_admit cL_admit 6 (some .int) [(0, 12, 15, 13)], Cond.methodLink RL 62 yX3_admit, Cond.instanceMethod yX3_admit, Cond.selects RX3 yX3_admit yX3_admit, Cond.code yX3_admit cX3_admit 4 (some .int), Cond.instanceMethod yX0_replaceAdmitted, Cond.selects RX0 yX0_replaceAdmitted yX0_replaceAdmitted, Cond.code yX0_replaceAdmitted cX0_replaceAdmitted 6 (some .int), Cond.methodLink RL 141 yX4_admit, Cond.instanceMethod yX4_admit, Cond.selects RX4 yX4_admit yX4_admit, Cond.code yX4_admit cX4_admit 5 (some .int), Cond.methodLink RL 142 yL_difference, Cond.static yL_difference, Cond.codeWith yL_difference cL_difference 5 (some .int) [(0, 10, 13, 13)]]
def wsL_law0_r19 : List Cond := [Cond.methodLink RL 65 yX3_difference, Cond.instanceMethod yX3_difference, Cond.selects RX3 yX3_difference yX3_difference, Cond.code yX3_difference cX3_difference 3 (some .int), Cond.instanceMethod yX0_disputed, Cond.selects RX0 yX0_disputed yX0_disputed, Cond.code yX0_disputed cX0_disputed 4 (some .int), Cond.methodLink RL 144 yX4_difference, Cond.instanceMethod yX4_difference, Cond.selects RX4 yX4_difference yX4_difference, Cond.code yX4_difference cX4_difference 3 (some .int), Cond.methodLink RL 145 yX3_eliminated, Cond.instanceMethod yX3_eliminated, Cond.selects RX3 yX3_eliminated yX3_eliminated, Cond.code yX3_eliminated cX3_eliminated 1 (some .int), Cond.instanceMethod yX0_agreedAmong, Cond.selects RX0 yX0_agreedAmong yX0_agreedAmong, Cond.code yX0_agreedAmong cX0_agreedAmong 6 (some .int), Cond.methodLink RX0 26 Lib.Math.min.name, Cond.static Lib.Math.min.name, Cond.initialized "java/lang/Math", Cond.code Lib.Math.min.name Lib.Math.min.code 2 (some .int), Cond.methodLink RL 148 yX4_eliminated, Cond.instanceMethod yX4_eliminated]
def wsL_law0_r20 : List Cond := [Cond.selects RX4 yX4_eliminated yX4_eliminated, Cond.code yX4_eliminated cX4_eliminated 1 (some .int), Cond.methodLink RX4 123 yX4_eliminatedNow, Cond.instanceMethod yX4_eliminatedNow, Cond.selects RX4 yX4_eliminatedNow yX4_eliminatedNow, Cond.code yX4_eliminatedNow cX4_eliminatedNow 6 (some .int), Cond.methodLink RL 149 yX3_assets, Cond.instanceMethod yX3_assets, Cond.selects RX3 yX3_assets yX3_assets, Cond.code yX3_assets cX3_assets 4 (some .int), Cond.methodLink RX3 120 yX3_isMember, Cond.methodLink RL 152 yX4_assets, Cond.instanceMethod yX4_assets, Cond.selects RX4 yX4_assets yX4_assets, Cond.code yX4_assets cX4_assets 1 (some .int), Cond.methodLink RX4 126 yX4_assetsNow, Cond.instanceMethod yX4_assetsNow, Cond.selects RX4 yX4_assetsNow yX4_assetsNow, Cond.code yX4_assetsNow cX4_assetsNow 4 (some .int), Cond.methodLink RL 153 yX3_debts, Cond.instanceMethod yX3_debts, Cond.selects RX3 yX3_debts yX3_debts, Cond.code yX3_debts cX3_debts 4 (some .int), Cond.methodLink RL 156 yX4_debts]
def wsL_law0_r21 : List Cond := [Cond.instanceMethod yX4_debts, Cond.selects RX4 yX4_debts yX4_debts, Cond.code yX4_debts cX4_debts 1 (some .int), Cond.methodLink RX4 129 yX4_debtsNow, Cond.instanceMethod yX4_debtsNow, Cond.selects RX4 yX4_debtsNow yX4_debtsNow, Cond.code yX4_debtsNow cX4_debtsNow 4 (some .int), Cond.methodLink RL 157 yL_minority, Cond.static yL_minority, Cond.codeWith yL_minority cL_minority 4 (some .int) [(0, 9, 12, 13)], Cond.methodLink RL 68 yX3_minority, Cond.instanceMethod yX3_minority, Cond.selects RX3 yX3_minority yX3_minority, Cond.code yX3_minority cX3_minority 2 (some .int), Cond.methodLink RX3 130 yX3_minorityAmong, Cond.instanceMethod yX3_minorityAmong, Cond.selects RX3 yX3_minorityAmong yX3_minorityAmong, Cond.code yX3_minorityAmong cX3_minorityAmong 3 (some .int), Cond.instanceMethod yX2_partOfOthers, Cond.selects RX2 yX2_partOfOthers yX2_partOfOthers, Cond.code yX2_partOfOthers cX2_partOfOthers 5 (some .int), Cond.methodLink RX2 35 yX2_scale, Cond.static yX2_scale, Cond.code yX2_scale cX2_scale 5 (some .int)]
def wsL_law0_r22 : List Cond := [Cond.methodLink RX2 39 yJ9_floorDiv_f86c9, Cond.static yJ9_floorDiv_f86c9, Cond.code yJ9_floorDiv_f86c9 cJ9_floorDiv_f86c9 6 (some .long), Cond.methodLink RL 159 yX4_minority, Cond.instanceMethod yX4_minority, Cond.selects RX4 yX4_minority yX4_minority, Cond.code yX4_minority cX4_minority 3 (some .int), Cond.methodLink RX4 132 yX4_minorityNow, Cond.instanceMethod yX4_minorityNow, Cond.selects RX4 yX4_minorityNow yX4_minorityNow, Cond.code yX4_minorityNow cX4_minorityNow 2 (some .int), Cond.methodLink RL 160 yX3_equity, Cond.instanceMethod yX3_equity, Cond.selects RX3 yX3_equity yX3_equity, Cond.code yX3_equity cX3_equity 4 (some .int), Cond.methodLink RX3 133 yX3_assets, Cond.methodLink RX3 136 yX3_debts, Cond.methodLink RL 163 yX4_equity, Cond.instanceMethod yX4_equity, Cond.selects RX4 yX4_equity yX4_equity, Cond.code yX4_equity cX4_equity 4 (some .int), Cond.methodLink RL 164 yX3_result, Cond.instanceMethod yX3_result, Cond.selects RX3 yX3_result yX3_result]
def wsL_law0_r23 : List Cond := [Cond.code yX3_result cX3_result 4 (some .int), Cond.instanceMethod yX2_partOfParent, Cond.selects RX2 yX2_partOfParent yX2_partOfParent, Cond.code yX2_partOfParent cX2_partOfParent 3 (some .int), Cond.methodLink RL 167 yX4_result, Cond.instanceMethod yX4_result, Cond.selects RX4 yX4_result yX4_result, Cond.code yX4_result cX4_result 1 (some .int), Cond.methodLink RX4 135 yX4_resultNow, Cond.instanceMethod yX4_resultNow, Cond.selects RX4 yX4_resultNow yX4_resultNow, Cond.code yX4_resultNow cX4_resultNow 5 (some .int), Cond.methodLink RL 168 yL_close, Cond.static yL_close, Cond.codeWith yL_close cL_close 3 (some .int) [(0, 8, 11, 15)], Cond.methodLink RL 71 yX3_close, Cond.instanceMethod yX3_close, Cond.selects RX3 yX3_close yX3_close, Cond.code yX3_close cX3_close 2 (some .int), Cond.methodLink RX3 149 yX3_result, Cond.instanceMethod yX1_carryResults, Cond.selects RX1 yX1_carryResults yX1_carryResults, Cond.code yX1_carryResults cX1_carryResults 2 none, Cond.methodLink RL 171 yX4_close]
def wsL_law0_r24 : List Cond := [Cond.instanceMethod yX4_close, Cond.selects RX4 yX4_close yX4_close, Cond.code yX4_close cX4_close 2 (some .int), Cond.fieldLink RX4 138 "GroupbooksModel" "closed" "I", Cond.methodLink RL 172 yL_resultOf, Cond.static yL_resultOf, Cond.codeWith yL_resultOf cL_resultOf 4 (some .int) [(0, 9, 12, 13)], Cond.methodLink RL 75 yX3_resultOf, Cond.instanceMethod yX3_resultOf, Cond.selects RX3 yX3_resultOf yX3_resultOf, Cond.code yX3_resultOf cX3_resultOf 2 (some .int), Cond.methodLink RL 174 yX4_resultOf, Cond.instanceMethod yX4_resultOf, Cond.selects RX4 yX4_resultOf yX4_resultOf, Cond.code yX4_resultOf cX4_resultOf 2 (some .int)]
def wsL_law0 : List Cond := (wsL_law0_r1 ++ (wsL_law0_r2 ++ (wsL_law0_r3 ++ (wsL_law0_r4 ++ (wsL_law0_r5 ++ (wsL_law0_r6 ++ (wsL_law0_r7 ++ (wsL_law0_r8 ++ (wsL_law0_r9 ++ (wsL_law0_r10 ++ (wsL_law0_r11 ++ (wsL_law0_r12 ++ (wsL_law0_r13 ++ (wsL_law0_r14 ++ (wsL_law0_r15 ++ (wsL_law0_r16 ++ (wsL_law0_r17 ++ (wsL_law0_r18 ++ (wsL_law0_r19 ++ (wsL_law0_r20 ++ (wsL_law0_r21 ++ (wsL_law0_r22 ++ (wsL_law0_r23 ++ wsL_law0_r24))))))))))))))))))))))) ++ wsX30 ++ wsX40 ++ wsX20 ++ wsX10 ++ wsX00 ++ ([] : List Cond)
def wsL_law : List Cond := wsL_law0 ++ (vx_atS RX3 159 "java/lang/IllegalArgumentException" ["java/lang/RuntimeException", "java/lang/Exception"]).filter goodWord ++ (vx_atS RX3 146 "java/lang/IllegalStateException" ["java/lang/RuntimeException", "java/lang/Exception"]).filter goodWord
end
section
theorem dX0_init_0 : decode cX0_init 0 = .ok (.aload_n 0, 1) := by decide +kernel
theorem dX0_init_1 : decode cX0_init 1 = .ok (.invokespecial 3, 3) := by decide +kernel
theorem dX0_init_4 : decode cX0_init 4 = .ok (.aload_n 0, 1) := by decide +kernel
theorem dX0_init_5 : decode cX0_init 5 = .ok (.bipush 36, 2) := by decide +kernel
theorem dX0_init_7 : decode cX0_init 7 = .ok (.newarray .int, 2) := by decide +kernel
theorem dX0_init_9 : decode cX0_init 9 = .ok (.putfield 9, 3) := by decide +kernel
theorem dX0_init_12 : decode cX0_init 12 = .ok (.aload_n 0, 1) := by decide +kernel
theorem dX0_init_13 : decode cX0_init 13 = .ok (.bipush 36, 2) := by decide +kernel
theorem dX0_init_15 : decode cX0_init 15 = .ok (.newarray .int, 2) := by decide +kernel
theorem dX0_init_17 : decode cX0_init 17 = .ok (.putfield 15, 3) := by decide +kernel
theorem dX0_init_20 : decode cX0_init 20 = .ok (.return_, 1) := by decide +kernel
set_option maxRecDepth 20000 in
theorem ggX0_replaceClaim_X3_pair : GoodIn wsX0_replaceClaim wsX3_pair := goodIn_r _ [4] (by decide +kernel) (by decide +kernel)
set_option maxRecDepth 20000 in
theorem gX0_replaceClaim_X3_pair_n18 : GoodIn wsX0_replaceClaim (wsX3_pair) := ggX0_replaceClaim_X3_pair
theorem dX0_replaceClaim_0 : decode cX0_replaceClaim 0 = .ok (.iload_n 1, 1) := by decide +kernel
theorem dX0_replaceClaim_1 : decode cX0_replaceClaim 1 = .ok (.iload_n 2, 1) := by decide +kernel
theorem dX0_replaceClaim_2 : decode cX0_replaceClaim 2 = .ok (.invokestatic 18, 3) := by decide +kernel
theorem dX0_replaceClaim_5 : decode cX0_replaceClaim 5 = .ok (.istore 4, 2) := by decide +kernel
theorem dX0_replaceClaim_7 : decode cX0_replaceClaim 7 = .ok (.aload_n 0, 1) := by decide +kernel
theorem dX0_replaceClaim_8 : decode cX0_replaceClaim 8 = .ok (.getfield 9, 3) := by decide +kernel
theorem dX0_replaceClaim_11 : decode cX0_replaceClaim 11 = .ok (.iload 4, 2) := by decide +kernel
theorem dX0_replaceClaim_13 : decode cX0_replaceClaim 13 = .ok (.iaload, 1) := by decide +kernel
theorem dX0_replaceClaim_14 : decode cX0_replaceClaim 14 = .ok (.istore 5, 2) := by decide +kernel
theorem dX0_replaceClaim_16 : decode cX0_replaceClaim 16 = .ok (.aload_n 0, 1) := by decide +kernel
theorem dX0_replaceClaim_17 : decode cX0_replaceClaim 17 = .ok (.getfield 9, 3) := by decide +kernel
theorem dX0_replaceClaim_20 : decode cX0_replaceClaim 20 = .ok (.iload 4, 2) := by decide +kernel
theorem dX0_replaceClaim_22 : decode cX0_replaceClaim 22 = .ok (.iload_n 3, 1) := by decide +kernel
theorem dX0_replaceClaim_23 : decode cX0_replaceClaim 23 = .ok (.iastore, 1) := by decide +kernel
theorem dX0_replaceClaim_24 : decode cX0_replaceClaim 24 = .ok (.iload 5, 2) := by decide +kernel
theorem dX0_replaceClaim_26 : decode cX0_replaceClaim 26 = .ok (.ireturn, 1) := by decide +kernel
set_option maxRecDepth 20000 in
theorem ggX0_replaceAdmitted_X3_pair : GoodIn wsX0_replaceAdmitted wsX3_pair := goodIn_r _ [4] (by decide +kernel) (by decide +kernel)
set_option maxRecDepth 20000 in
theorem gX0_replaceAdmitted_X3_pair_n18 : GoodIn wsX0_replaceAdmitted (wsX3_pair) := ggX0_replaceAdmitted_X3_pair
theorem dX0_replaceAdmitted_0 : decode cX0_replaceAdmitted 0 = .ok (.iload_n 1, 1) := by decide +kernel
theorem dX0_replaceAdmitted_1 : decode cX0_replaceAdmitted 1 = .ok (.iload_n 2, 1) := by decide +kernel
theorem dX0_replaceAdmitted_2 : decode cX0_replaceAdmitted 2 = .ok (.invokestatic 18, 3) := by decide +kernel
theorem dX0_replaceAdmitted_5 : decode cX0_replaceAdmitted 5 = .ok (.istore 4, 2) := by decide +kernel
theorem dX0_replaceAdmitted_7 : decode cX0_replaceAdmitted 7 = .ok (.aload_n 0, 1) := by decide +kernel
theorem dX0_replaceAdmitted_8 : decode cX0_replaceAdmitted 8 = .ok (.getfield 15, 3) := by decide +kernel
theorem dX0_replaceAdmitted_11 : decode cX0_replaceAdmitted 11 = .ok (.iload 4, 2) := by decide +kernel
theorem dX0_replaceAdmitted_13 : decode cX0_replaceAdmitted 13 = .ok (.iaload, 1) := by decide +kernel
theorem dX0_replaceAdmitted_14 : decode cX0_replaceAdmitted 14 = .ok (.istore 5, 2) := by decide +kernel
theorem dX0_replaceAdmitted_16 : decode cX0_replaceAdmitted 16 = .ok (.aload_n 0, 1) := by decide +kernel
theorem dX0_replaceAdmitted_17 : decode cX0_replaceAdmitted 17 = .ok (.getfield 15, 3) := by decide +kernel
theorem dX0_replaceAdmitted_20 : decode cX0_replaceAdmitted 20 = .ok (.iload 4, 2) := by decide +kernel
theorem dX0_replaceAdmitted_22 : decode cX0_replaceAdmitted 22 = .ok (.iload_n 3, 1) := by decide +kernel
theorem dX0_replaceAdmitted_23 : decode cX0_replaceAdmitted 23 = .ok (.iastore, 1) := by decide +kernel
theorem dX0_replaceAdmitted_24 : decode cX0_replaceAdmitted 24 = .ok (.iload 5, 2) := by decide +kernel
theorem dX0_replaceAdmitted_26 : decode cX0_replaceAdmitted 26 = .ok (.ireturn, 1) := by decide +kernel
set_option maxRecDepth 20000 in
theorem ggX0_disputed_X3_pair : GoodIn wsX0_disputed wsX3_pair := goodIn_r _ [5] (by decide +kernel) (by decide +kernel)
set_option maxRecDepth 20000 in
theorem gX0_disputed_X3_pair_n18 : GoodIn wsX0_disputed (wsX3_pair) := ggX0_disputed_X3_pair
theorem dX0_disputed_0 : decode cX0_disputed 0 = .ok (.iload_n 1, 1) := by decide +kernel
theorem dX0_disputed_1 : decode cX0_disputed 1 = .ok (.iload_n 2, 1) := by decide +kernel
theorem dX0_disputed_2 : decode cX0_disputed 2 = .ok (.invokestatic 18, 3) := by decide +kernel
theorem dX0_disputed_5 : decode cX0_disputed 5 = .ok (.istore_n 3, 1) := by decide +kernel
theorem dX0_disputed_6 : decode cX0_disputed 6 = .ok (.aload_n 0, 1) := by decide +kernel
theorem dX0_disputed_7 : decode cX0_disputed 7 = .ok (.getfield 9, 3) := by decide +kernel
theorem dX0_disputed_10 : decode cX0_disputed 10 = .ok (.iload_n 3, 1) := by decide +kernel
theorem dX0_disputed_11 : decode cX0_disputed 11 = .ok (.iaload, 1) := by decide +kernel
theorem dX0_disputed_12 : decode cX0_disputed 12 = .ok (.aload_n 0, 1) := by decide +kernel
theorem dX0_disputed_13 : decode cX0_disputed 13 = .ok (.getfield 15, 3) := by decide +kernel
theorem dX0_disputed_16 : decode cX0_disputed 16 = .ok (.iload_n 3, 1) := by decide +kernel
theorem dX0_disputed_17 : decode cX0_disputed 17 = .ok (.iaload, 1) := by decide +kernel
theorem dX0_disputed_18 : decode cX0_disputed 18 = .ok (.isub, 1) := by decide +kernel
theorem dX0_disputed_19 : decode cX0_disputed 19 = .ok (.ireturn, 1) := by decide +kernel
set_option maxRecDepth 20000 in
theorem ggX0_agreedAmong_X3_isMember : GoodIn wsX0_agreedAmong wsX3_isMember := goodIn_r _ [9] (by decide +kernel) (by decide +kernel)
set_option maxRecDepth 20000 in
theorem gX0_agreedAmong_X3_isMember_n22 : GoodIn wsX0_agreedAmong (wsX3_isMember) := ggX0_agreedAmong_X3_isMember
set_option maxRecDepth 20000 in
theorem ggX0_agreedAmong_X3_pair : GoodIn wsX0_agreedAmong wsX3_pair := goodIn_r _ [11] (by decide +kernel) (by decide +kernel)
set_option maxRecDepth 20000 in
theorem gX0_agreedAmong_X3_pair_n18 : GoodIn wsX0_agreedAmong (wsX3_pair) := ggX0_agreedAmong_X3_pair
theorem dX0_agreedAmong_0 : decode cX0_agreedAmong 0 = .ok (.iconst 0, 1) := by decide +kernel
theorem dX0_agreedAmong_1 : decode cX0_agreedAmong 1 = .ok (.istore_n 2, 1) := by decide +kernel
theorem dX0_agreedAmong_2 : decode cX0_agreedAmong 2 = .ok (.iconst 0, 1) := by decide +kernel
theorem dX0_agreedAmong_3 : decode cX0_agreedAmong 3 = .ok (.istore_n 3, 1) := by decide +kernel
theorem dX0_agreedAmong_4 : decode cX0_agreedAmong 4 = .ok (.iload_n 3, 1) := by decide +kernel
theorem dX0_agreedAmong_5 : decode cX0_agreedAmong 5 = .ok (.bipush 6, 2) := by decide +kernel
theorem dX0_agreedAmong_7 : decode cX0_agreedAmong 7 = .ok (.if_icmp .ge 70, 3) := by decide +kernel
theorem dX0_agreedAmong_10 : decode cX0_agreedAmong 10 = .ok (.iconst 0, 1) := by decide +kernel
theorem dX0_agreedAmong_11 : decode cX0_agreedAmong 11 = .ok (.istore 4, 2) := by decide +kernel
theorem dX0_agreedAmong_13 : decode cX0_agreedAmong 13 = .ok (.iload 4, 2) := by decide +kernel
theorem dX0_agreedAmong_15 : decode cX0_agreedAmong 15 = .ok (.bipush 6, 2) := by decide +kernel
theorem dX0_agreedAmong_17 : decode cX0_agreedAmong 17 = .ok (.if_icmp .ge 54, 3) := by decide +kernel
theorem dX0_agreedAmong_20 : decode cX0_agreedAmong 20 = .ok (.iload_n 1, 1) := by decide +kernel
theorem dX0_agreedAmong_21 : decode cX0_agreedAmong 21 = .ok (.iload_n 3, 1) := by decide +kernel
theorem dX0_agreedAmong_22 : decode cX0_agreedAmong 22 = .ok (.invokestatic 22, 3) := by decide +kernel
theorem dX0_agreedAmong_25 : decode cX0_agreedAmong 25 = .ok (.ifCond .eq 40, 3) := by decide +kernel
theorem dX0_agreedAmong_28 : decode cX0_agreedAmong 28 = .ok (.iload_n 1, 1) := by decide +kernel
theorem dX0_agreedAmong_29 : decode cX0_agreedAmong 29 = .ok (.iload 4, 2) := by decide +kernel
theorem dX0_agreedAmong_31 : decode cX0_agreedAmong 31 = .ok (.invokestatic 22, 3) := by decide +kernel
theorem dX0_agreedAmong_34 : decode cX0_agreedAmong 34 = .ok (.ifCond .eq 31, 3) := by decide +kernel
theorem dX0_agreedAmong_37 : decode cX0_agreedAmong 37 = .ok (.iload_n 3, 1) := by decide +kernel
theorem dX0_agreedAmong_38 : decode cX0_agreedAmong 38 = .ok (.iload 4, 2) := by decide +kernel
theorem dX0_agreedAmong_40 : decode cX0_agreedAmong 40 = .ok (.invokestatic 18, 3) := by decide +kernel
theorem dX0_agreedAmong_43 : decode cX0_agreedAmong 43 = .ok (.istore 5, 2) := by decide +kernel
theorem dX0_agreedAmong_45 : decode cX0_agreedAmong 45 = .ok (.iload_n 2, 1) := by decide +kernel
theorem dX0_agreedAmong_46 : decode cX0_agreedAmong 46 = .ok (.aload_n 0, 1) := by decide +kernel
theorem dX0_agreedAmong_47 : decode cX0_agreedAmong 47 = .ok (.getfield 9, 3) := by decide +kernel
theorem dX0_agreedAmong_50 : decode cX0_agreedAmong 50 = .ok (.iload 5, 2) := by decide +kernel
theorem dX0_agreedAmong_52 : decode cX0_agreedAmong 52 = .ok (.iaload, 1) := by decide +kernel
theorem dX0_agreedAmong_53 : decode cX0_agreedAmong 53 = .ok (.aload_n 0, 1) := by decide +kernel
theorem dX0_agreedAmong_54 : decode cX0_agreedAmong 54 = .ok (.getfield 15, 3) := by decide +kernel
theorem dX0_agreedAmong_57 : decode cX0_agreedAmong 57 = .ok (.iload 5, 2) := by decide +kernel
theorem dX0_agreedAmong_59 : decode cX0_agreedAmong 59 = .ok (.iaload, 1) := by decide +kernel
theorem dX0_agreedAmong_60 : decode cX0_agreedAmong 60 = .ok (.invokestatic 26, 3) := by decide +kernel
theorem dX0_agreedAmong_63 : decode cX0_agreedAmong 63 = .ok (.iadd, 1) := by decide +kernel
theorem dX0_agreedAmong_64 : decode cX0_agreedAmong 64 = .ok (.istore_n 2, 1) := by decide +kernel
theorem dX0_agreedAmong_65 : decode cX0_agreedAmong 65 = .ok (.iinc 4 1, 3) := by decide +kernel
theorem dX0_agreedAmong_68 : decode cX0_agreedAmong 68 = .ok (.goto (-55), 3) := by decide +kernel
theorem dX0_agreedAmong_71 : decode cX0_agreedAmong 71 = .ok (.iinc 3 1, 3) := by decide +kernel
theorem dX0_agreedAmong_74 : decode cX0_agreedAmong 74 = .ok (.goto (-70), 3) := by decide +kernel
theorem dX0_agreedAmong_77 : decode cX0_agreedAmong 77 = .ok (.iload_n 2, 1) := by decide +kernel
theorem dX0_agreedAmong_78 : decode cX0_agreedAmong 78 = .ok (.ireturn, 1) := by decide +kernel
theorem dX1_init_0 : decode cX1_init 0 = .ok (.aload_n 0, 1) := by decide +kernel
theorem dX1_init_1 : decode cX1_init 1 = .ok (.invokespecial 3, 3) := by decide +kernel
theorem dX1_init_4 : decode cX1_init 4 = .ok (.aload_n 0, 1) := by decide +kernel
theorem dX1_init_5 : decode cX1_init 5 = .ok (.bipush 6, 2) := by decide +kernel
theorem dX1_init_7 : decode cX1_init 7 = .ok (.newarray .int, 2) := by decide +kernel
theorem dX1_init_9 : decode cX1_init 9 = .ok (.putfield 9, 3) := by decide +kernel
theorem dX1_init_12 : decode cX1_init 12 = .ok (.aload_n 0, 1) := by decide +kernel
theorem dX1_init_13 : decode cX1_init 13 = .ok (.bipush 6, 2) := by decide +kernel
theorem dX1_init_15 : decode cX1_init 15 = .ok (.newarray .int, 2) := by decide +kernel
theorem dX1_init_17 : decode cX1_init 17 = .ok (.putfield 15, 3) := by decide +kernel
theorem dX1_init_20 : decode cX1_init 20 = .ok (.aload_n 0, 1) := by decide +kernel
theorem dX1_init_21 : decode cX1_init 21 = .ok (.bipush 6, 2) := by decide +kernel
theorem dX1_init_23 : decode cX1_init 23 = .ok (.newarray .int, 2) := by decide +kernel
theorem dX1_init_25 : decode cX1_init 25 = .ok (.putfield 18, 3) := by decide +kernel
theorem dX1_init_28 : decode cX1_init 28 = .ok (.aload_n 0, 1) := by decide +kernel
theorem dX1_init_29 : decode cX1_init 29 = .ok (.bipush 6, 2) := by decide +kernel
theorem dX1_init_31 : decode cX1_init 31 = .ok (.newarray .int, 2) := by decide +kernel
theorem dX1_init_33 : decode cX1_init 33 = .ok (.putfield 21, 3) := by decide +kernel
theorem dX1_init_36 : decode cX1_init 36 = .ok (.aload_n 0, 1) := by decide +kernel
theorem dX1_init_37 : decode cX1_init 37 = .ok (.bipush 6, 2) := by decide +kernel
theorem dX1_init_39 : decode cX1_init 39 = .ok (.newarray .int, 2) := by decide +kernel
theorem dX1_init_41 : decode cX1_init 41 = .ok (.putfield 24, 3) := by decide +kernel
theorem dX1_init_44 : decode cX1_init 44 = .ok (.aload_n 0, 1) := by decide +kernel
theorem dX1_init_45 : decode cX1_init 45 = .ok (.bipush 6, 2) := by decide +kernel
theorem dX1_init_47 : decode cX1_init 47 = .ok (.newarray .int, 2) := by decide +kernel
theorem dX1_init_49 : decode cX1_init 49 = .ok (.putfield 27, 3) := by decide +kernel
theorem dX1_init_52 : decode cX1_init 52 = .ok (.aload_n 0, 1) := by decide +kernel
theorem dX1_init_53 : decode cX1_init 53 = .ok (.bipush 6, 2) := by decide +kernel
theorem dX1_init_55 : decode cX1_init 55 = .ok (.newarray .int, 2) := by decide +kernel
theorem dX1_init_57 : decode cX1_init 57 = .ok (.putfield 30, 3) := by decide +kernel
theorem dX1_init_60 : decode cX1_init 60 = .ok (.iconst 0, 1) := by decide +kernel
theorem dX1_init_61 : decode cX1_init 61 = .ok (.istore_n 1, 1) := by decide +kernel
theorem dX1_init_62 : decode cX1_init 62 = .ok (.iload_n 1, 1) := by decide +kernel
theorem dX1_init_63 : decode cX1_init 63 = .ok (.bipush 6, 2) := by decide +kernel
theorem dX1_init_65 : decode cX1_init 65 = .ok (.if_icmp .ge 33, 3) := by decide +kernel
theorem dX1_init_68 : decode cX1_init 68 = .ok (.aload_n 0, 1) := by decide +kernel
theorem dX1_init_69 : decode cX1_init 69 = .ok (.getfield 24, 3) := by decide +kernel
theorem dX1_init_72 : decode cX1_init 72 = .ok (.iload_n 1, 1) := by decide +kernel
theorem dX1_init_73 : decode cX1_init 73 = .ok (.bipush 100, 2) := by decide +kernel
theorem dX1_init_75 : decode cX1_init 75 = .ok (.iastore, 1) := by decide +kernel
theorem dX1_init_76 : decode cX1_init 76 = .ok (.aload_n 0, 1) := by decide +kernel
theorem dX1_init_77 : decode cX1_init 77 = .ok (.getfield 27, 3) := by decide +kernel
theorem dX1_init_80 : decode cX1_init 80 = .ok (.iload_n 1, 1) := by decide +kernel
theorem dX1_init_81 : decode cX1_init 81 = .ok (.bipush 100, 2) := by decide +kernel
theorem dX1_init_83 : decode cX1_init 83 = .ok (.iastore, 1) := by decide +kernel
theorem dX1_init_84 : decode cX1_init 84 = .ok (.aload_n 0, 1) := by decide +kernel
theorem dX1_init_85 : decode cX1_init 85 = .ok (.getfield 30, 3) := by decide +kernel
theorem dX1_init_88 : decode cX1_init 88 = .ok (.iload_n 1, 1) := by decide +kernel
theorem dX1_init_89 : decode cX1_init 89 = .ok (.bipush 100, 2) := by decide +kernel
theorem dX1_init_91 : decode cX1_init 91 = .ok (.iastore, 1) := by decide +kernel
theorem dX1_init_92 : decode cX1_init 92 = .ok (.iinc 1 1, 3) := by decide +kernel
theorem dX1_init_95 : decode cX1_init 95 = .ok (.goto (-33), 3) := by decide +kernel
theorem dX1_init_98 : decode cX1_init 98 = .ok (.return_, 1) := by decide +kernel
theorem dX1_enter_0 : decode cX1_enter 0 = .ok (.aload_n 0, 1) := by decide +kernel
theorem dX1_enter_1 : decode cX1_enter 1 = .ok (.getfield 9, 3) := by decide +kernel
theorem dX1_enter_4 : decode cX1_enter 4 = .ok (.iload_n 1, 1) := by decide +kernel
theorem dX1_enter_5 : decode cX1_enter 5 = .ok (.iload_n 2, 1) := by decide +kernel
theorem dX1_enter_6 : decode cX1_enter 6 = .ok (.iastore, 1) := by decide +kernel
theorem dX1_enter_7 : decode cX1_enter 7 = .ok (.aload_n 0, 1) := by decide +kernel
theorem dX1_enter_8 : decode cX1_enter 8 = .ok (.getfield 15, 3) := by decide +kernel
theorem dX1_enter_11 : decode cX1_enter 11 = .ok (.iload_n 1, 1) := by decide +kernel
theorem dX1_enter_12 : decode cX1_enter 12 = .ok (.iload_n 3, 1) := by decide +kernel
theorem dX1_enter_13 : decode cX1_enter 13 = .ok (.iastore, 1) := by decide +kernel
theorem dX1_enter_14 : decode cX1_enter 14 = .ok (.aload_n 0, 1) := by decide +kernel
theorem dX1_enter_15 : decode cX1_enter 15 = .ok (.getfield 18, 3) := by decide +kernel
theorem dX1_enter_18 : decode cX1_enter 18 = .ok (.iload_n 1, 1) := by decide +kernel
theorem dX1_enter_19 : decode cX1_enter 19 = .ok (.iload 4, 2) := by decide +kernel
theorem dX1_enter_21 : decode cX1_enter 21 = .ok (.iastore, 1) := by decide +kernel
theorem dX1_enter_22 : decode cX1_enter 22 = .ok (.aload_n 0, 1) := by decide +kernel
theorem dX1_enter_23 : decode cX1_enter 23 = .ok (.getfield 21, 3) := by decide +kernel
theorem dX1_enter_26 : decode cX1_enter 26 = .ok (.iload_n 1, 1) := by decide +kernel
theorem dX1_enter_27 : decode cX1_enter 27 = .ok (.iload 5, 2) := by decide +kernel
theorem dX1_enter_29 : decode cX1_enter 29 = .ok (.iastore, 1) := by decide +kernel
theorem dX1_enter_30 : decode cX1_enter 30 = .ok (.return_, 1) := by decide +kernel
theorem dX1_enterRates_0 : decode cX1_enterRates 0 = .ok (.aload_n 0, 1) := by decide +kernel
theorem dX1_enterRates_1 : decode cX1_enterRates 1 = .ok (.getfield 24, 3) := by decide +kernel
theorem dX1_enterRates_4 : decode cX1_enterRates 4 = .ok (.iload_n 1, 1) := by decide +kernel
theorem dX1_enterRates_5 : decode cX1_enterRates 5 = .ok (.iload_n 2, 1) := by decide +kernel
theorem dX1_enterRates_6 : decode cX1_enterRates 6 = .ok (.iastore, 1) := by decide +kernel
theorem dX1_enterRates_7 : decode cX1_enterRates 7 = .ok (.aload_n 0, 1) := by decide +kernel
theorem dX1_enterRates_8 : decode cX1_enterRates 8 = .ok (.getfield 27, 3) := by decide +kernel
theorem dX1_enterRates_11 : decode cX1_enterRates 11 = .ok (.iload_n 1, 1) := by decide +kernel
theorem dX1_enterRates_12 : decode cX1_enterRates 12 = .ok (.iload_n 3, 1) := by decide +kernel
theorem dX1_enterRates_13 : decode cX1_enterRates 13 = .ok (.iastore, 1) := by decide +kernel
theorem dX1_enterRates_14 : decode cX1_enterRates 14 = .ok (.aload_n 0, 1) := by decide +kernel
theorem dX1_enterRates_15 : decode cX1_enterRates 15 = .ok (.getfield 30, 3) := by decide +kernel
theorem dX1_enterRates_18 : decode cX1_enterRates 18 = .ok (.iload_n 1, 1) := by decide +kernel
theorem dX1_enterRates_19 : decode cX1_enterRates 19 = .ok (.iload 4, 2) := by decide +kernel
theorem dX1_enterRates_21 : decode cX1_enterRates 21 = .ok (.iastore, 1) := by decide +kernel
theorem dX1_enterRates_22 : decode cX1_enterRates 22 = .ok (.return_, 1) := by decide +kernel
set_option maxRecDepth 20000 in
theorem ggX1_assetsOf_X1_translate : GoodIn wsX1_assetsOf wsX1_translate := goodIn_r _ [6, 7, 8, 9, 10] (by decide +kernel) (by decide +kernel)
set_option maxRecDepth 20000 in
theorem gX1_assetsOf_X1_translate : GoodIn wsX1_assetsOf (va_wsS RX1 33 yX1_translate wsX1_translate) := goodIn_app (goodIn_of _ (by decide +kernel)) ggX1_assetsOf_X1_translate
theorem dX1_assetsOf_0 : decode cX1_assetsOf 0 = .ok (.aload_n 0, 1) := by decide +kernel
theorem dX1_assetsOf_1 : decode cX1_assetsOf 1 = .ok (.getfield 9, 3) := by decide +kernel
theorem dX1_assetsOf_4 : decode cX1_assetsOf 4 = .ok (.iload_n 1, 1) := by decide +kernel
theorem dX1_assetsOf_5 : decode cX1_assetsOf 5 = .ok (.iaload, 1) := by decide +kernel
theorem dX1_assetsOf_6 : decode cX1_assetsOf 6 = .ok (.aload_n 0, 1) := by decide +kernel
theorem dX1_assetsOf_7 : decode cX1_assetsOf 7 = .ok (.getfield 24, 3) := by decide +kernel
theorem dX1_assetsOf_10 : decode cX1_assetsOf 10 = .ok (.iload_n 1, 1) := by decide +kernel
theorem dX1_assetsOf_11 : decode cX1_assetsOf 11 = .ok (.iaload, 1) := by decide +kernel
theorem dX1_assetsOf_12 : decode cX1_assetsOf 12 = .ok (.invokestatic 33, 3) := by decide +kernel
theorem dX1_assetsOf_15 : decode cX1_assetsOf 15 = .ok (.ireturn, 1) := by decide +kernel
set_option maxRecDepth 20000 in
theorem ggX1_debtsOf_X1_translate : GoodIn wsX1_debtsOf wsX1_translate := goodIn_r _ [6, 7, 8, 9, 10] (by decide +kernel) (by decide +kernel)
set_option maxRecDepth 20000 in
theorem gX1_debtsOf_X1_translate : GoodIn wsX1_debtsOf (va_wsS RX1 33 yX1_translate wsX1_translate) := goodIn_app (goodIn_of _ (by decide +kernel)) ggX1_debtsOf_X1_translate
theorem dX1_debtsOf_0 : decode cX1_debtsOf 0 = .ok (.aload_n 0, 1) := by decide +kernel
theorem dX1_debtsOf_1 : decode cX1_debtsOf 1 = .ok (.getfield 15, 3) := by decide +kernel
theorem dX1_debtsOf_4 : decode cX1_debtsOf 4 = .ok (.iload_n 1, 1) := by decide +kernel
theorem dX1_debtsOf_5 : decode cX1_debtsOf 5 = .ok (.iaload, 1) := by decide +kernel
theorem dX1_debtsOf_6 : decode cX1_debtsOf 6 = .ok (.aload_n 0, 1) := by decide +kernel
theorem dX1_debtsOf_7 : decode cX1_debtsOf 7 = .ok (.getfield 24, 3) := by decide +kernel
theorem dX1_debtsOf_10 : decode cX1_debtsOf 10 = .ok (.iload_n 1, 1) := by decide +kernel
theorem dX1_debtsOf_11 : decode cX1_debtsOf 11 = .ok (.iaload, 1) := by decide +kernel
theorem dX1_debtsOf_12 : decode cX1_debtsOf 12 = .ok (.invokestatic 33, 3) := by decide +kernel
theorem dX1_debtsOf_15 : decode cX1_debtsOf 15 = .ok (.ireturn, 1) := by decide +kernel
set_option maxRecDepth 20000 in
theorem ggX1_equityOf_X1_translate : GoodIn wsX1_equityOf wsX1_translate := goodIn_r _ [6, 7, 8, 9, 10] (by decide +kernel) (by decide +kernel)
set_option maxRecDepth 20000 in
theorem gX1_equityOf_X1_translate : GoodIn wsX1_equityOf (va_wsS RX1 33 yX1_translate wsX1_translate) := goodIn_app (goodIn_of _ (by decide +kernel)) ggX1_equityOf_X1_translate
theorem dX1_equityOf_0 : decode cX1_equityOf 0 = .ok (.aload_n 0, 1) := by decide +kernel
theorem dX1_equityOf_1 : decode cX1_equityOf 1 = .ok (.getfield 18, 3) := by decide +kernel
theorem dX1_equityOf_4 : decode cX1_equityOf 4 = .ok (.iload_n 1, 1) := by decide +kernel
theorem dX1_equityOf_5 : decode cX1_equityOf 5 = .ok (.iaload, 1) := by decide +kernel
theorem dX1_equityOf_6 : decode cX1_equityOf 6 = .ok (.aload_n 0, 1) := by decide +kernel
theorem dX1_equityOf_7 : decode cX1_equityOf 7 = .ok (.getfield 30, 3) := by decide +kernel
theorem dX1_equityOf_10 : decode cX1_equityOf 10 = .ok (.iload_n 1, 1) := by decide +kernel
theorem dX1_equityOf_11 : decode cX1_equityOf 11 = .ok (.iaload, 1) := by decide +kernel
theorem dX1_equityOf_12 : decode cX1_equityOf 12 = .ok (.invokestatic 33, 3) := by decide +kernel
theorem dX1_equityOf_15 : decode cX1_equityOf 15 = .ok (.ireturn, 1) := by decide +kernel
set_option maxRecDepth 20000 in
theorem ggX1_profitOf_X1_translate : GoodIn wsX1_profitOf wsX1_translate := goodIn_r _ [6, 7, 8, 9, 10] (by decide +kernel) (by decide +kernel)
set_option maxRecDepth 20000 in
theorem gX1_profitOf_X1_translate : GoodIn wsX1_profitOf (va_wsS RX1 33 yX1_translate wsX1_translate) := goodIn_app (goodIn_of _ (by decide +kernel)) ggX1_profitOf_X1_translate
theorem dX1_profitOf_0 : decode cX1_profitOf 0 = .ok (.aload_n 0, 1) := by decide +kernel
theorem dX1_profitOf_1 : decode cX1_profitOf 1 = .ok (.getfield 21, 3) := by decide +kernel
theorem dX1_profitOf_4 : decode cX1_profitOf 4 = .ok (.iload_n 1, 1) := by decide +kernel
theorem dX1_profitOf_5 : decode cX1_profitOf 5 = .ok (.iaload, 1) := by decide +kernel
theorem dX1_profitOf_6 : decode cX1_profitOf 6 = .ok (.aload_n 0, 1) := by decide +kernel
theorem dX1_profitOf_7 : decode cX1_profitOf 7 = .ok (.getfield 27, 3) := by decide +kernel
theorem dX1_profitOf_10 : decode cX1_profitOf 10 = .ok (.iload_n 1, 1) := by decide +kernel
theorem dX1_profitOf_11 : decode cX1_profitOf 11 = .ok (.iaload, 1) := by decide +kernel
theorem dX1_profitOf_12 : decode cX1_profitOf 12 = .ok (.invokestatic 33, 3) := by decide +kernel
theorem dX1_profitOf_15 : decode cX1_profitOf 15 = .ok (.ireturn, 1) := by decide +kernel
set_option maxRecDepth 20000 in
theorem ggX1_netOf_X1_assetsOf : GoodIn wsX1_netOf wsX1_assetsOf := goodIn_r _ [5, 6, 7, 8, 9, 4, 10, 11, 12, 13, 14, 20, 21, 22, 23, 24, 25, 26] (by decide +kernel) (by decide +kernel)
set_option maxRecDepth 20000 in
theorem gX1_netOf_X1_assetsOf : GoodIn wsX1_netOf (wsV RX1 37 RX1 yX1_assetsOf wsX1_assetsOf) := goodIn_app (goodIn_of _ (by decide +kernel)) ggX1_netOf_X1_assetsOf
set_option maxRecDepth 20000 in
theorem ggX1_netOf_X1_debtsOf : GoodIn wsX1_netOf wsX1_debtsOf := goodIn_r _ [18, 19, 7, 8, 9, 4, 10, 11, 12, 13, 14, 20, 21, 22, 23, 24, 25, 26] (by decide +kernel) (by decide +kernel)
set_option maxRecDepth 20000 in
theorem gX1_netOf_X1_debtsOf : GoodIn wsX1_netOf (wsV RX1 41 RX1 yX1_debtsOf wsX1_debtsOf) := goodIn_app (goodIn_of _ (by decide +kernel)) ggX1_netOf_X1_debtsOf
theorem dX1_netOf_0 : decode cX1_netOf 0 = .ok (.aload_n 0, 1) := by decide +kernel
theorem dX1_netOf_1 : decode cX1_netOf 1 = .ok (.iload_n 1, 1) := by decide +kernel
theorem dX1_netOf_2 : decode cX1_netOf 2 = .ok (.invokevirtual 37, 3) := by decide +kernel
theorem dX1_netOf_5 : decode cX1_netOf 5 = .ok (.aload_n 0, 1) := by decide +kernel
theorem dX1_netOf_6 : decode cX1_netOf 6 = .ok (.iload_n 1, 1) := by decide +kernel
theorem dX1_netOf_7 : decode cX1_netOf 7 = .ok (.invokevirtual 41, 3) := by decide +kernel
theorem dX1_netOf_10 : decode cX1_netOf 10 = .ok (.isub, 1) := by decide +kernel
theorem dX1_netOf_11 : decode cX1_netOf 11 = .ok (.ireturn, 1) := by decide +kernel
set_option maxRecDepth 20000 in
theorem ggX1_translate_J9_floorDiv_7cf53 : GoodIn wsX1_translate wsJ9_floorDiv_7cf53 := goodIn_r _ [4] (by decide +kernel) (by decide +kernel)
set_option maxRecDepth 20000 in
theorem gX1_translate_J9_floorDiv_7cf53 : GoodIn wsX1_translate (va_wsS RX1 44 yJ9_floorDiv_7cf53 wsJ9_floorDiv_7cf53) := goodIn_app (goodIn_of _ (by decide +kernel)) ggX1_translate_J9_floorDiv_7cf53
theorem dX1_translate_0 : decode cX1_translate 0 = .ok (.iload_n 0, 1) := by decide +kernel
theorem dX1_translate_1 : decode cX1_translate 1 = .ok (.iload_n 1, 1) := by decide +kernel
theorem dX1_translate_2 : decode cX1_translate 2 = .ok (.imul, 1) := by decide +kernel
theorem dX1_translate_3 : decode cX1_translate 3 = .ok (.bipush 100, 2) := by decide +kernel
theorem dX1_translate_5 : decode cX1_translate 5 = .ok (.invokestatic 44, 3) := by decide +kernel
theorem dX1_translate_8 : decode cX1_translate 8 = .ok (.ireturn, 1) := by decide +kernel
theorem dX1_carryResults_0 : decode cX1_carryResults 0 = .ok (.iconst 0, 1) := by decide +kernel
theorem dX1_carryResults_1 : decode cX1_carryResults 1 = .ok (.istore_n 1, 1) := by decide +kernel
theorem dX1_carryResults_2 : decode cX1_carryResults 2 = .ok (.iload_n 1, 1) := by decide +kernel
theorem dX1_carryResults_3 : decode cX1_carryResults 3 = .ok (.bipush 6, 2) := by decide +kernel
theorem dX1_carryResults_5 : decode cX1_carryResults 5 = .ok (.if_icmp .ge 31, 3) := by decide +kernel
theorem dX1_carryResults_8 : decode cX1_carryResults 8 = .ok (.aload_n 0, 1) := by decide +kernel
theorem dX1_carryResults_9 : decode cX1_carryResults 9 = .ok (.getfield 18, 3) := by decide +kernel
theorem dX1_carryResults_12 : decode cX1_carryResults 12 = .ok (.iload_n 1, 1) := by decide +kernel
theorem dX1_carryResults_13 : decode cX1_carryResults 13 = .ok (.dup2, 1) := by decide +kernel
theorem dX1_carryResults_14 : decode cX1_carryResults 14 = .ok (.iaload, 1) := by decide +kernel
theorem dX1_carryResults_15 : decode cX1_carryResults 15 = .ok (.aload_n 0, 1) := by decide +kernel
theorem dX1_carryResults_16 : decode cX1_carryResults 16 = .ok (.getfield 21, 3) := by decide +kernel
theorem dX1_carryResults_19 : decode cX1_carryResults 19 = .ok (.iload_n 1, 1) := by decide +kernel
theorem dX1_carryResults_20 : decode cX1_carryResults 20 = .ok (.iaload, 1) := by decide +kernel
theorem dX1_carryResults_21 : decode cX1_carryResults 21 = .ok (.iadd, 1) := by decide +kernel
theorem dX1_carryResults_22 : decode cX1_carryResults 22 = .ok (.iastore, 1) := by decide +kernel
theorem dX1_carryResults_23 : decode cX1_carryResults 23 = .ok (.aload_n 0, 1) := by decide +kernel
theorem dX1_carryResults_24 : decode cX1_carryResults 24 = .ok (.getfield 21, 3) := by decide +kernel
theorem dX1_carryResults_27 : decode cX1_carryResults 27 = .ok (.iload_n 1, 1) := by decide +kernel
theorem dX1_carryResults_28 : decode cX1_carryResults 28 = .ok (.iconst 0, 1) := by decide +kernel
theorem dX1_carryResults_29 : decode cX1_carryResults 29 = .ok (.iastore, 1) := by decide +kernel
theorem dX1_carryResults_30 : decode cX1_carryResults 30 = .ok (.iinc 1 1, 3) := by decide +kernel
theorem dX1_carryResults_33 : decode cX1_carryResults 33 = .ok (.goto (-31), 3) := by decide +kernel
theorem dX1_carryResults_36 : decode cX1_carryResults 36 = .ok (.return_, 1) := by decide +kernel
theorem dX2_init_0 : decode cX2_init 0 = .ok (.aload_n 0, 1) := by decide +kernel
theorem dX2_init_1 : decode cX2_init 1 = .ok (.invokespecial 3, 3) := by decide +kernel
theorem dX2_init_4 : decode cX2_init 4 = .ok (.aload_n 0, 1) := by decide +kernel
theorem dX2_init_5 : decode cX2_init 5 = .ok (.bipush 36, 2) := by decide +kernel
theorem dX2_init_7 : decode cX2_init 7 = .ok (.newarray .int, 2) := by decide +kernel
theorem dX2_init_9 : decode cX2_init 9 = .ok (.putfield 9, 3) := by decide +kernel
theorem dX2_init_12 : decode cX2_init 12 = .ok (.aload_n 0, 1) := by decide +kernel
theorem dX2_init_13 : decode cX2_init 13 = .ok (.bipush 6, 2) := by decide +kernel
theorem dX2_init_15 : decode cX2_init 15 = .ok (.newarray .long, 2) := by decide +kernel
theorem dX2_init_17 : decode cX2_init 17 = .ok (.putfield 15, 3) := by decide +kernel
theorem dX2_init_20 : decode cX2_init 20 = .ok (.aload_n 0, 1) := by decide +kernel
theorem dX2_init_21 : decode cX2_init 21 = .ok (.bipush 6, 2) := by decide +kernel
theorem dX2_init_23 : decode cX2_init 23 = .ok (.newarray .long, 2) := by decide +kernel
theorem dX2_init_25 : decode cX2_init 25 = .ok (.putfield 19, 3) := by decide +kernel
theorem dX2_init_28 : decode cX2_init 28 = .ok (.aload_n 0, 1) := by decide +kernel
theorem dX2_init_29 : decode cX2_init 29 = .ok (.bipush 36, 2) := by decide +kernel
theorem dX2_init_31 : decode cX2_init 31 = .ok (.newarray .long, 2) := by decide +kernel
theorem dX2_init_33 : decode cX2_init 33 = .ok (.putfield 22, 3) := by decide +kernel
theorem dX2_init_36 : decode cX2_init 36 = .ok (.aload_n 0, 1) := by decide +kernel
theorem dX2_init_37 : decode cX2_init 37 = .ok (.bipush 6, 2) := by decide +kernel
theorem dX2_init_39 : decode cX2_init 39 = .ok (.newarray .int, 2) := by decide +kernel
theorem dX2_init_41 : decode cX2_init 41 = .ok (.putfield 25, 3) := by decide +kernel
theorem dX2_init_44 : decode cX2_init 44 = .ok (.aload_n 0, 1) := by decide +kernel
theorem dX2_init_45 : decode cX2_init 45 = .ok (.bipush 6, 2) := by decide +kernel
theorem dX2_init_47 : decode cX2_init 47 = .ok (.newarray .int, 2) := by decide +kernel
theorem dX2_init_49 : decode cX2_init 49 = .ok (.putfield 28, 3) := by decide +kernel
theorem dX2_init_52 : decode cX2_init 52 = .ok (.iconst 0, 1) := by decide +kernel
theorem dX2_init_53 : decode cX2_init 53 = .ok (.istore_n 1, 1) := by decide +kernel
theorem dX2_init_54 : decode cX2_init 54 = .ok (.iload_n 1, 1) := by decide +kernel
theorem dX2_init_55 : decode cX2_init 55 = .ok (.bipush 6, 2) := by decide +kernel
theorem dX2_init_57 : decode cX2_init 57 = .ok (.if_icmp .ge 31, 3) := by decide +kernel
theorem dX2_init_60 : decode cX2_init 60 = .ok (.aload_n 0, 1) := by decide +kernel
theorem dX2_init_61 : decode cX2_init 61 = .ok (.getfield 15, 3) := by decide +kernel
theorem dX2_init_64 : decode cX2_init 64 = .ok (.iload_n 1, 1) := by decide +kernel
theorem dX2_init_65 : decode cX2_init 65 = .ok (.iload_n 1, 1) := by decide +kernel
theorem dX2_init_66 : decode cX2_init 66 = .ok (.ifCond .ne 7, 3) := by decide +kernel
theorem dX2_init_69 : decode cX2_init 69 = .ok (.lconst 1, 1) := by decide +kernel
theorem dX2_init_70 : decode cX2_init 70 = .ok (.goto 4, 3) := by decide +kernel
theorem dX2_init_73 : decode cX2_init 73 = .ok (.lconst 0, 1) := by decide +kernel
theorem dX2_init_74 : decode cX2_init 74 = .ok (.lastore, 1) := by decide +kernel
theorem dX2_init_75 : decode cX2_init 75 = .ok (.aload_n 0, 1) := by decide +kernel
theorem dX2_init_76 : decode cX2_init 76 = .ok (.getfield 19, 3) := by decide +kernel
theorem dX2_init_79 : decode cX2_init 79 = .ok (.iload_n 1, 1) := by decide +kernel
theorem dX2_init_80 : decode cX2_init 80 = .ok (.lconst 1, 1) := by decide +kernel
theorem dX2_init_81 : decode cX2_init 81 = .ok (.lastore, 1) := by decide +kernel
theorem dX2_init_82 : decode cX2_init 82 = .ok (.iinc 1 1, 3) := by decide +kernel
theorem dX2_init_85 : decode cX2_init 85 = .ok (.goto (-31), 3) := by decide +kernel
theorem dX2_init_88 : decode cX2_init 88 = .ok (.return_, 1) := by decide +kernel
set_option maxRecDepth 20000 in
theorem ggX2_percentOf_X3_pair : GoodIn wsX2_percentOf wsX3_pair := goodIn_r _ [4] (by decide +kernel) (by decide +kernel)
set_option maxRecDepth 20000 in
theorem gX2_percentOf_X3_pair_n31 : GoodIn wsX2_percentOf (wsX3_pair) := ggX2_percentOf_X3_pair
theorem dX2_percentOf_0 : decode cX2_percentOf 0 = .ok (.aload_n 0, 1) := by decide +kernel
theorem dX2_percentOf_1 : decode cX2_percentOf 1 = .ok (.getfield 9, 3) := by decide +kernel
theorem dX2_percentOf_4 : decode cX2_percentOf 4 = .ok (.iload_n 1, 1) := by decide +kernel
theorem dX2_percentOf_5 : decode cX2_percentOf 5 = .ok (.iload_n 2, 1) := by decide +kernel
theorem dX2_percentOf_6 : decode cX2_percentOf 6 = .ok (.invokestatic 31, 3) := by decide +kernel
theorem dX2_percentOf_9 : decode cX2_percentOf 9 = .ok (.iaload, 1) := by decide +kernel
theorem dX2_percentOf_10 : decode cX2_percentOf 10 = .ok (.ireturn, 1) := by decide +kernel
theorem dX2_numeratorOf_0 : decode cX2_numeratorOf 0 = .ok (.aload_n 0, 1) := by decide +kernel
theorem dX2_numeratorOf_1 : decode cX2_numeratorOf 1 = .ok (.getfield 15, 3) := by decide +kernel
theorem dX2_numeratorOf_4 : decode cX2_numeratorOf 4 = .ok (.iload_n 1, 1) := by decide +kernel
theorem dX2_numeratorOf_5 : decode cX2_numeratorOf 5 = .ok (.laload, 1) := by decide +kernel
theorem dX2_numeratorOf_6 : decode cX2_numeratorOf 6 = .ok (.lreturn, 1) := by decide +kernel
theorem dX2_denominatorOf_0 : decode cX2_denominatorOf 0 = .ok (.aload_n 0, 1) := by decide +kernel
theorem dX2_denominatorOf_1 : decode cX2_denominatorOf 1 = .ok (.getfield 19, 3) := by decide +kernel
theorem dX2_denominatorOf_4 : decode cX2_denominatorOf 4 = .ok (.iload_n 1, 1) := by decide +kernel
theorem dX2_denominatorOf_5 : decode cX2_denominatorOf 5 = .ok (.laload, 1) := by decide +kernel
theorem dX2_denominatorOf_6 : decode cX2_denominatorOf 6 = .ok (.lreturn, 1) := by decide +kernel
set_option maxRecDepth 20000 in
theorem ggX2_partOfParent_X2_scale : GoodIn wsX2_partOfParent wsX2_scale := goodIn_r _ [6, 7, 8, 9, 10] (by decide +kernel) (by decide +kernel)
set_option maxRecDepth 20000 in
theorem gX2_partOfParent_X2_scale : GoodIn wsX2_partOfParent (va_wsS RX2 35 yX2_scale wsX2_scale) := goodIn_app (goodIn_of _ (by decide +kernel)) ggX2_partOfParent_X2_scale
theorem dX2_partOfParent_0 : decode cX2_partOfParent 0 = .ok (.iload_n 2, 1) := by decide +kernel
theorem dX2_partOfParent_1 : decode cX2_partOfParent 1 = .ok (.aload_n 0, 1) := by decide +kernel
theorem dX2_partOfParent_2 : decode cX2_partOfParent 2 = .ok (.getfield 15, 3) := by decide +kernel
theorem dX2_partOfParent_5 : decode cX2_partOfParent 5 = .ok (.iload_n 1, 1) := by decide +kernel
theorem dX2_partOfParent_6 : decode cX2_partOfParent 6 = .ok (.laload, 1) := by decide +kernel
theorem dX2_partOfParent_7 : decode cX2_partOfParent 7 = .ok (.aload_n 0, 1) := by decide +kernel
theorem dX2_partOfParent_8 : decode cX2_partOfParent 8 = .ok (.getfield 19, 3) := by decide +kernel
theorem dX2_partOfParent_11 : decode cX2_partOfParent 11 = .ok (.iload_n 1, 1) := by decide +kernel
theorem dX2_partOfParent_12 : decode cX2_partOfParent 12 = .ok (.laload, 1) := by decide +kernel
theorem dX2_partOfParent_13 : decode cX2_partOfParent 13 = .ok (.invokestatic 35, 3) := by decide +kernel
theorem dX2_partOfParent_16 : decode cX2_partOfParent 16 = .ok (.ireturn, 1) := by decide +kernel
set_option maxRecDepth 20000 in
theorem ggX2_partOfOthers_X2_scale : GoodIn wsX2_partOfOthers wsX2_scale := goodIn_r _ [6, 7, 8, 9, 10] (by decide +kernel) (by decide +kernel)
set_option maxRecDepth 20000 in
theorem gX2_partOfOthers_X2_scale : GoodIn wsX2_partOfOthers (va_wsS RX2 35 yX2_scale wsX2_scale) := goodIn_app (goodIn_of _ (by decide +kernel)) ggX2_partOfOthers_X2_scale
theorem dX2_partOfOthers_0 : decode cX2_partOfOthers 0 = .ok (.aload_n 0, 1) := by decide +kernel
theorem dX2_partOfOthers_1 : decode cX2_partOfOthers 1 = .ok (.getfield 19, 3) := by decide +kernel
theorem dX2_partOfOthers_4 : decode cX2_partOfOthers 4 = .ok (.iload_n 1, 1) := by decide +kernel
theorem dX2_partOfOthers_5 : decode cX2_partOfOthers 5 = .ok (.laload, 1) := by decide +kernel
theorem dX2_partOfOthers_6 : decode cX2_partOfOthers 6 = .ok (.aload_n 0, 1) := by decide +kernel
theorem dX2_partOfOthers_7 : decode cX2_partOfOthers 7 = .ok (.getfield 15, 3) := by decide +kernel
theorem dX2_partOfOthers_10 : decode cX2_partOfOthers 10 = .ok (.iload_n 1, 1) := by decide +kernel
theorem dX2_partOfOthers_11 : decode cX2_partOfOthers 11 = .ok (.laload, 1) := by decide +kernel
theorem dX2_partOfOthers_12 : decode cX2_partOfOthers 12 = .ok (.lsub, 1) := by decide +kernel
theorem dX2_partOfOthers_13 : decode cX2_partOfOthers 13 = .ok (.lstore_n 3, 1) := by decide +kernel
theorem dX2_partOfOthers_14 : decode cX2_partOfOthers 14 = .ok (.iload_n 2, 1) := by decide +kernel
theorem dX2_partOfOthers_15 : decode cX2_partOfOthers 15 = .ok (.lload_n 3, 1) := by decide +kernel
theorem dX2_partOfOthers_16 : decode cX2_partOfOthers 16 = .ok (.aload_n 0, 1) := by decide +kernel
theorem dX2_partOfOthers_17 : decode cX2_partOfOthers 17 = .ok (.getfield 19, 3) := by decide +kernel
theorem dX2_partOfOthers_20 : decode cX2_partOfOthers 20 = .ok (.iload_n 1, 1) := by decide +kernel
theorem dX2_partOfOthers_21 : decode cX2_partOfOthers 21 = .ok (.laload, 1) := by decide +kernel
theorem dX2_partOfOthers_22 : decode cX2_partOfOthers 22 = .ok (.invokestatic 35, 3) := by decide +kernel
theorem dX2_partOfOthers_25 : decode cX2_partOfOthers 25 = .ok (.ireturn, 1) := by decide +kernel
set_option maxRecDepth 20000 in
theorem ggX2_scale_J9_floorDiv_f86c9 : GoodIn wsX2_scale wsJ9_floorDiv_f86c9 := goodIn_r _ [4] (by decide +kernel) (by decide +kernel)
set_option maxRecDepth 20000 in
theorem gX2_scale_J9_floorDiv_f86c9 : GoodIn wsX2_scale (va_wsS RX2 39 yJ9_floorDiv_f86c9 wsJ9_floorDiv_f86c9) := goodIn_app (goodIn_of _ (by decide +kernel)) ggX2_scale_J9_floorDiv_f86c9
theorem dX2_scale_0 : decode cX2_scale 0 = .ok (.lload_n 3, 1) := by decide +kernel
theorem dX2_scale_1 : decode cX2_scale 1 = .ok (.lconst 0, 1) := by decide +kernel
theorem dX2_scale_2 : decode cX2_scale 2 = .ok (.lcmp, 1) := by decide +kernel
theorem dX2_scale_3 : decode cX2_scale 3 = .ok (.ifCond .le 15, 3) := by decide +kernel
theorem dX2_scale_6 : decode cX2_scale 6 = .ok (.iload_n 0, 1) := by decide +kernel
theorem dX2_scale_7 : decode cX2_scale 7 = .ok (.i2l, 1) := by decide +kernel
theorem dX2_scale_8 : decode cX2_scale 8 = .ok (.lload_n 1, 1) := by decide +kernel
theorem dX2_scale_9 : decode cX2_scale 9 = .ok (.lmul, 1) := by decide +kernel
theorem dX2_scale_10 : decode cX2_scale 10 = .ok (.lload_n 3, 1) := by decide +kernel
theorem dX2_scale_11 : decode cX2_scale 11 = .ok (.invokestatic 39, 3) := by decide +kernel
theorem dX2_scale_14 : decode cX2_scale 14 = .ok (.l2i, 1) := by decide +kernel
theorem dX2_scale_15 : decode cX2_scale 15 = .ok (.goto 4, 3) := by decide +kernel
theorem dX2_scale_18 : decode cX2_scale 18 = .ok (.iconst 0, 1) := by decide +kernel
theorem dX2_scale_19 : decode cX2_scale 19 = .ok (.ireturn, 1) := by decide +kernel
set_option maxRecDepth 20000 in
theorem ggX2_take_X3_pair : GoodIn wsX2_take wsX3_pair := goodIn_r _ [4] (by decide +kernel) (by decide +kernel)
set_option maxRecDepth 20000 in
theorem gX2_take_X3_pair_n31 : GoodIn wsX2_take (wsX3_pair) := ggX2_take_X3_pair
set_option maxRecDepth 20000 in
theorem ggX2_take_X2_heldByAll : GoodIn wsX2_take wsX2_heldByAll := goodIn_r _ [9, 1, 2, 3, 4, 37, 38, 39, 40, 41, 42] (by decide +kernel) (by decide +kernel)
set_option maxRecDepth 20000 in
theorem gX2_take_X2_heldByAll : GoodIn wsX2_take (wsV RX2 45 RX2 yX2_heldByAll wsX2_heldByAll) := goodIn_app (goodIn_of _ (by decide +kernel)) ggX2_take_X2_heldByAll
set_option maxRecDepth 20000 in
theorem ggX2_take_X2_determineShares : GoodIn wsX2_take wsX2_determineShares := goodIn_r _ [13, 14, 15, 16, 17, 8, 18, 1, 19, 2, 3, 4, 20, 21, 22, 23, 24, 25, 26, 27, 28, 29, 30, 31, 32, 33, 34, 35, 36, 37, 38, 39, 40, 41, 42] (by decide +kernel) (by decide +kernel)
set_option maxRecDepth 20000 in
theorem gX2_take_X2_determineShares : GoodIn wsX2_take (wsV RX2 49 RX2 yX2_determineShares wsX2_determineShares) := goodIn_app (goodIn_of _ (by decide +kernel)) ggX2_take_X2_determineShares
theorem dX2_take_0 : decode cX2_take 0 = .ok (.iload_n 1, 1) := by decide +kernel
theorem dX2_take_1 : decode cX2_take 1 = .ok (.iload_n 2, 1) := by decide +kernel
theorem dX2_take_2 : decode cX2_take 2 = .ok (.invokestatic 31, 3) := by decide +kernel
theorem dX2_take_5 : decode cX2_take 5 = .ok (.istore 4, 2) := by decide +kernel
theorem dX2_take_7 : decode cX2_take 7 = .ok (.aload_n 0, 1) := by decide +kernel
theorem dX2_take_8 : decode cX2_take 8 = .ok (.getfield 9, 3) := by decide +kernel
theorem dX2_take_11 : decode cX2_take 11 = .ok (.iload 4, 2) := by decide +kernel
theorem dX2_take_13 : decode cX2_take 13 = .ok (.iaload, 1) := by decide +kernel
theorem dX2_take_14 : decode cX2_take 14 = .ok (.istore 5, 2) := by decide +kernel
theorem dX2_take_16 : decode cX2_take 16 = .ok (.aload_n 0, 1) := by decide +kernel
theorem dX2_take_17 : decode cX2_take 17 = .ok (.iload_n 2, 1) := by decide +kernel
theorem dX2_take_18 : decode cX2_take 18 = .ok (.invokevirtual 45, 3) := by decide +kernel
theorem dX2_take_21 : decode cX2_take 21 = .ok (.iload 5, 2) := by decide +kernel
theorem dX2_take_23 : decode cX2_take 23 = .ok (.isub, 1) := by decide +kernel
theorem dX2_take_24 : decode cX2_take 24 = .ok (.iload_n 3, 1) := by decide +kernel
theorem dX2_take_25 : decode cX2_take 25 = .ok (.iadd, 1) := by decide +kernel
theorem dX2_take_26 : decode cX2_take 26 = .ok (.bipush 100, 2) := by decide +kernel
theorem dX2_take_28 : decode cX2_take 28 = .ok (.if_icmp .le 5, 3) := by decide +kernel
theorem dX2_take_31 : decode cX2_take 31 = .ok (.iconst 0, 1) := by decide +kernel
theorem dX2_take_32 : decode cX2_take 32 = .ok (.ireturn, 1) := by decide +kernel
theorem dX2_take_33 : decode cX2_take 33 = .ok (.aload_n 0, 1) := by decide +kernel
theorem dX2_take_34 : decode cX2_take 34 = .ok (.getfield 9, 3) := by decide +kernel
theorem dX2_take_37 : decode cX2_take 37 = .ok (.iload 4, 2) := by decide +kernel
theorem dX2_take_39 : decode cX2_take 39 = .ok (.iload_n 3, 1) := by decide +kernel
theorem dX2_take_40 : decode cX2_take 40 = .ok (.iastore, 1) := by decide +kernel
theorem dX2_take_41 : decode cX2_take 41 = .ok (.aload_n 0, 1) := by decide +kernel
theorem dX2_take_42 : decode cX2_take 42 = .ok (.invokevirtual 49, 3) := by decide +kernel
theorem dX2_take_45 : decode cX2_take 45 = .ok (.istore 6, 2) := by decide +kernel
theorem dX2_take_47 : decode cX2_take 47 = .ok (.iload 6, 2) := by decide +kernel
theorem dX2_take_49 : decode cX2_take 49 = .ok (.ifCond .ne 12, 3) := by decide +kernel
theorem dX2_take_52 : decode cX2_take 52 = .ok (.aload_n 0, 1) := by decide +kernel
theorem dX2_take_53 : decode cX2_take 53 = .ok (.getfield 9, 3) := by decide +kernel
theorem dX2_take_56 : decode cX2_take 56 = .ok (.iload 4, 2) := by decide +kernel
theorem dX2_take_58 : decode cX2_take 58 = .ok (.iload 5, 2) := by decide +kernel
theorem dX2_take_60 : decode cX2_take 60 = .ok (.iastore, 1) := by decide +kernel
theorem dX2_take_61 : decode cX2_take 61 = .ok (.iload 6, 2) := by decide +kernel
theorem dX2_take_63 : decode cX2_take 63 = .ok (.ireturn, 1) := by decide +kernel
set_option maxRecDepth 20000 in
theorem ggX2_heldByAll_X3_pair : GoodIn wsX2_heldByAll wsX3_pair := goodIn_r _ [4] (by decide +kernel) (by decide +kernel)
set_option maxRecDepth 20000 in
theorem gX2_heldByAll_X3_pair_n31 : GoodIn wsX2_heldByAll (wsX3_pair) := ggX2_heldByAll_X3_pair
theorem dX2_heldByAll_0 : decode cX2_heldByAll 0 = .ok (.iconst 0, 1) := by decide +kernel
theorem dX2_heldByAll_1 : decode cX2_heldByAll 1 = .ok (.istore_n 2, 1) := by decide +kernel
theorem dX2_heldByAll_2 : decode cX2_heldByAll 2 = .ok (.iconst 0, 1) := by decide +kernel
theorem dX2_heldByAll_3 : decode cX2_heldByAll 3 = .ok (.istore_n 3, 1) := by decide +kernel
theorem dX2_heldByAll_4 : decode cX2_heldByAll 4 = .ok (.iload_n 3, 1) := by decide +kernel
theorem dX2_heldByAll_5 : decode cX2_heldByAll 5 = .ok (.bipush 6, 2) := by decide +kernel
theorem dX2_heldByAll_7 : decode cX2_heldByAll 7 = .ok (.if_icmp .ge 22, 3) := by decide +kernel
theorem dX2_heldByAll_10 : decode cX2_heldByAll 10 = .ok (.iload_n 2, 1) := by decide +kernel
theorem dX2_heldByAll_11 : decode cX2_heldByAll 11 = .ok (.aload_n 0, 1) := by decide +kernel
theorem dX2_heldByAll_12 : decode cX2_heldByAll 12 = .ok (.getfield 9, 3) := by decide +kernel
theorem dX2_heldByAll_15 : decode cX2_heldByAll 15 = .ok (.iload_n 3, 1) := by decide +kernel
theorem dX2_heldByAll_16 : decode cX2_heldByAll 16 = .ok (.iload_n 1, 1) := by decide +kernel
theorem dX2_heldByAll_17 : decode cX2_heldByAll 17 = .ok (.invokestatic 31, 3) := by decide +kernel
theorem dX2_heldByAll_20 : decode cX2_heldByAll 20 = .ok (.iaload, 1) := by decide +kernel
theorem dX2_heldByAll_21 : decode cX2_heldByAll 21 = .ok (.iadd, 1) := by decide +kernel
theorem dX2_heldByAll_22 : decode cX2_heldByAll 22 = .ok (.istore_n 2, 1) := by decide +kernel
theorem dX2_heldByAll_23 : decode cX2_heldByAll 23 = .ok (.iinc 3 1, 3) := by decide +kernel
theorem dX2_heldByAll_26 : decode cX2_heldByAll 26 = .ok (.goto (-22), 3) := by decide +kernel
theorem dX2_heldByAll_29 : decode cX2_heldByAll 29 = .ok (.iload_n 2, 1) := by decide +kernel
theorem dX2_heldByAll_30 : decode cX2_heldByAll 30 = .ok (.ireturn, 1) := by decide +kernel
set_option maxRecDepth 20000 in
theorem ggX2_determineShares_X2_writeEquations : GoodIn wsX2_determineShares wsX2_writeEquations := goodIn_r _ [6, 1, 7, 8, 9, 10, 11, 29, 30, 31, 32, 33, 34] (by decide +kernel) (by decide +kernel)
set_option maxRecDepth 20000 in
theorem gX2_determineShares_X2_writeEquations : GoodIn wsX2_determineShares (wsV RX2 53 RX2 yX2_writeEquations wsX2_writeEquations) := goodIn_app (goodIn_of _ (by decide +kernel)) ggX2_determineShares_X2_writeEquations
set_option maxRecDepth 20000 in
theorem ggX2_determineShares_X3_pair : GoodIn wsX2_determineShares wsX3_pair := goodIn_r _ [11] (by decide +kernel) (by decide +kernel)
set_option maxRecDepth 20000 in
theorem gX2_determineShares_X3_pair_n31 : GoodIn wsX2_determineShares (wsX3_pair) := ggX2_determineShares_X3_pair
set_option maxRecDepth 20000 in
theorem ggX2_determineShares_X2_clearColumn : GoodIn wsX2_determineShares wsX2_clearColumn := goodIn_r _ [15, 16, 17, 18, 5, 19, 1, 9, 10, 11, 29, 30, 31, 32, 33, 34] (by decide +kernel) (by decide +kernel)
set_option maxRecDepth 20000 in
theorem gX2_determineShares_X2_clearColumn : GoodIn wsX2_determineShares (wsV RX2 56 RX2 yX2_clearColumn wsX2_clearColumn) := goodIn_app (goodIn_of _ (by decide +kernel)) ggX2_determineShares_X2_clearColumn
set_option maxRecDepth 20000 in
theorem ggX2_determineShares_X2_keepShares : GoodIn wsX2_determineShares wsX2_keepShares := goodIn_r _ [23, 1, 24, 25, 9, 10, 11, 26, 27, 5, 28, 29, 30, 31, 32, 33, 34] (by decide +kernel) (by decide +kernel)
set_option maxRecDepth 20000 in
theorem gX2_determineShares_X2_keepShares : GoodIn wsX2_determineShares (wsV RX2 60 RX2 yX2_keepShares wsX2_keepShares) := goodIn_app (goodIn_of _ (by decide +kernel)) ggX2_determineShares_X2_keepShares
theorem dX2_determineShares_0 : decode cX2_determineShares 0 = .ok (.aload_n 0, 1) := by decide +kernel
theorem dX2_determineShares_1 : decode cX2_determineShares 1 = .ok (.invokevirtual 53, 3) := by decide +kernel
theorem dX2_determineShares_4 : decode cX2_determineShares 4 = .ok (.lconst 1, 1) := by decide +kernel
theorem dX2_determineShares_5 : decode cX2_determineShares 5 = .ok (.lstore_n 1, 1) := by decide +kernel
theorem dX2_determineShares_6 : decode cX2_determineShares 6 = .ok (.iconst 1, 1) := by decide +kernel
theorem dX2_determineShares_7 : decode cX2_determineShares 7 = .ok (.istore_n 3, 1) := by decide +kernel
theorem dX2_determineShares_8 : decode cX2_determineShares 8 = .ok (.iload_n 3, 1) := by decide +kernel
theorem dX2_determineShares_9 : decode cX2_determineShares 9 = .ok (.bipush 6, 2) := by decide +kernel
theorem dX2_determineShares_11 : decode cX2_determineShares 11 = .ok (.if_icmp .ge 41, 3) := by decide +kernel
theorem dX2_determineShares_14 : decode cX2_determineShares 14 = .ok (.aload_n 0, 1) := by decide +kernel
theorem dX2_determineShares_15 : decode cX2_determineShares 15 = .ok (.getfield 22, 3) := by decide +kernel
theorem dX2_determineShares_18 : decode cX2_determineShares 18 = .ok (.iload_n 3, 1) := by decide +kernel
theorem dX2_determineShares_19 : decode cX2_determineShares 19 = .ok (.iload_n 3, 1) := by decide +kernel
theorem dX2_determineShares_20 : decode cX2_determineShares 20 = .ok (.invokestatic 31, 3) := by decide +kernel
theorem dX2_determineShares_23 : decode cX2_determineShares 23 = .ok (.laload, 1) := by decide +kernel
theorem dX2_determineShares_24 : decode cX2_determineShares 24 = .ok (.lstore 4, 2) := by decide +kernel
theorem dX2_determineShares_26 : decode cX2_determineShares 26 = .ok (.lload 4, 2) := by decide +kernel
theorem dX2_determineShares_28 : decode cX2_determineShares 28 = .ok (.lconst 0, 1) := by decide +kernel
theorem dX2_determineShares_29 : decode cX2_determineShares 29 = .ok (.lcmp, 1) := by decide +kernel
theorem dX2_determineShares_30 : decode cX2_determineShares 30 = .ok (.ifCond .gt 5, 3) := by decide +kernel
theorem dX2_determineShares_33 : decode cX2_determineShares 33 = .ok (.iconst 0, 1) := by decide +kernel
theorem dX2_determineShares_34 : decode cX2_determineShares 34 = .ok (.ireturn, 1) := by decide +kernel
theorem dX2_determineShares_35 : decode cX2_determineShares 35 = .ok (.aload_n 0, 1) := by decide +kernel
theorem dX2_determineShares_36 : decode cX2_determineShares 36 = .ok (.iload_n 3, 1) := by decide +kernel
theorem dX2_determineShares_37 : decode cX2_determineShares 37 = .ok (.lload 4, 2) := by decide +kernel
theorem dX2_determineShares_39 : decode cX2_determineShares 39 = .ok (.lload_n 1, 1) := by decide +kernel
theorem dX2_determineShares_40 : decode cX2_determineShares 40 = .ok (.invokevirtual 56, 3) := by decide +kernel
theorem dX2_determineShares_43 : decode cX2_determineShares 43 = .ok (.lload 4, 2) := by decide +kernel
theorem dX2_determineShares_45 : decode cX2_determineShares 45 = .ok (.lstore_n 1, 1) := by decide +kernel
theorem dX2_determineShares_46 : decode cX2_determineShares 46 = .ok (.iinc 3 1, 3) := by decide +kernel
theorem dX2_determineShares_49 : decode cX2_determineShares 49 = .ok (.goto (-41), 3) := by decide +kernel
theorem dX2_determineShares_52 : decode cX2_determineShares 52 = .ok (.aload_n 0, 1) := by decide +kernel
theorem dX2_determineShares_53 : decode cX2_determineShares 53 = .ok (.lload_n 1, 1) := by decide +kernel
theorem dX2_determineShares_54 : decode cX2_determineShares 54 = .ok (.invokevirtual 60, 3) := by decide +kernel
theorem dX2_determineShares_57 : decode cX2_determineShares 57 = .ok (.iconst 1, 1) := by decide +kernel
theorem dX2_determineShares_58 : decode cX2_determineShares 58 = .ok (.ireturn, 1) := by decide +kernel
set_option maxRecDepth 20000 in
theorem ggX2_writeEquations_X3_pair : GoodIn wsX2_writeEquations wsX3_pair := goodIn_r _ [6] (by decide +kernel) (by decide +kernel)
set_option maxRecDepth 20000 in
theorem gX2_writeEquations_X3_pair_n31 : GoodIn wsX2_writeEquations (wsX3_pair) := ggX2_writeEquations_X3_pair
theorem dX2_writeEquations_0 : decode cX2_writeEquations 0 = .ok (.iconst 1, 1) := by decide +kernel
theorem dX2_writeEquations_1 : decode cX2_writeEquations 1 = .ok (.istore_n 1, 1) := by decide +kernel
theorem dX2_writeEquations_2 : decode cX2_writeEquations 2 = .ok (.iload_n 1, 1) := by decide +kernel
theorem dX2_writeEquations_3 : decode cX2_writeEquations 3 = .ok (.bipush 6, 2) := by decide +kernel
theorem dX2_writeEquations_5 : decode cX2_writeEquations 5 = .ok (.if_icmp .ge 77, 3) := by decide +kernel
theorem dX2_writeEquations_8 : decode cX2_writeEquations 8 = .ok (.aload_n 0, 1) := by decide +kernel
theorem dX2_writeEquations_9 : decode cX2_writeEquations 9 = .ok (.getfield 22, 3) := by decide +kernel
theorem dX2_writeEquations_12 : decode cX2_writeEquations 12 = .ok (.iload_n 1, 1) := by decide +kernel
theorem dX2_writeEquations_13 : decode cX2_writeEquations 13 = .ok (.iconst 0, 1) := by decide +kernel
theorem dX2_writeEquations_14 : decode cX2_writeEquations 14 = .ok (.invokestatic 31, 3) := by decide +kernel
theorem dX2_writeEquations_17 : decode cX2_writeEquations 17 = .ok (.aload_n 0, 1) := by decide +kernel
theorem dX2_writeEquations_18 : decode cX2_writeEquations 18 = .ok (.getfield 9, 3) := by decide +kernel
theorem dX2_writeEquations_21 : decode cX2_writeEquations 21 = .ok (.iconst 0, 1) := by decide +kernel
theorem dX2_writeEquations_22 : decode cX2_writeEquations 22 = .ok (.iload_n 1, 1) := by decide +kernel
theorem dX2_writeEquations_23 : decode cX2_writeEquations 23 = .ok (.invokestatic 31, 3) := by decide +kernel
theorem dX2_writeEquations_26 : decode cX2_writeEquations 26 = .ok (.iaload, 1) := by decide +kernel
theorem dX2_writeEquations_27 : decode cX2_writeEquations 27 = .ok (.i2l, 1) := by decide +kernel
theorem dX2_writeEquations_28 : decode cX2_writeEquations 28 = .ok (.lastore, 1) := by decide +kernel
theorem dX2_writeEquations_29 : decode cX2_writeEquations 29 = .ok (.iconst 1, 1) := by decide +kernel
theorem dX2_writeEquations_30 : decode cX2_writeEquations 30 = .ok (.istore_n 2, 1) := by decide +kernel
theorem dX2_writeEquations_31 : decode cX2_writeEquations 31 = .ok (.iload_n 2, 1) := by decide +kernel
theorem dX2_writeEquations_32 : decode cX2_writeEquations 32 = .ok (.bipush 6, 2) := by decide +kernel
theorem dX2_writeEquations_34 : decode cX2_writeEquations 34 = .ok (.if_icmp .ge 42, 3) := by decide +kernel
theorem dX2_writeEquations_37 : decode cX2_writeEquations 37 = .ok (.aload_n 0, 1) := by decide +kernel
theorem dX2_writeEquations_38 : decode cX2_writeEquations 38 = .ok (.getfield 22, 3) := by decide +kernel
theorem dX2_writeEquations_41 : decode cX2_writeEquations 41 = .ok (.iload_n 1, 1) := by decide +kernel
theorem dX2_writeEquations_42 : decode cX2_writeEquations 42 = .ok (.iload_n 2, 1) := by decide +kernel
theorem dX2_writeEquations_43 : decode cX2_writeEquations 43 = .ok (.invokestatic 31, 3) := by decide +kernel
theorem dX2_writeEquations_46 : decode cX2_writeEquations 46 = .ok (.iload_n 2, 1) := by decide +kernel
theorem dX2_writeEquations_47 : decode cX2_writeEquations 47 = .ok (.iload_n 1, 1) := by decide +kernel
theorem dX2_writeEquations_48 : decode cX2_writeEquations 48 = .ok (.if_icmp .ne 9, 3) := by decide +kernel
theorem dX2_writeEquations_51 : decode cX2_writeEquations 51 = .ok (.ldc2_w 64, 3) := by decide +kernel
theorem dX2_writeEquations_54 : decode cX2_writeEquations 54 = .ok (.goto 15, 3) := by decide +kernel
theorem dX2_writeEquations_57 : decode cX2_writeEquations 57 = .ok (.aload_n 0, 1) := by decide +kernel
theorem dX2_writeEquations_58 : decode cX2_writeEquations 58 = .ok (.getfield 9, 3) := by decide +kernel
theorem dX2_writeEquations_61 : decode cX2_writeEquations 61 = .ok (.iload_n 2, 1) := by decide +kernel
theorem dX2_writeEquations_62 : decode cX2_writeEquations 62 = .ok (.iload_n 1, 1) := by decide +kernel
theorem dX2_writeEquations_63 : decode cX2_writeEquations 63 = .ok (.invokestatic 31, 3) := by decide +kernel
theorem dX2_writeEquations_66 : decode cX2_writeEquations 66 = .ok (.iaload, 1) := by decide +kernel
theorem dX2_writeEquations_67 : decode cX2_writeEquations 67 = .ok (.ineg, 1) := by decide +kernel
theorem dX2_writeEquations_68 : decode cX2_writeEquations 68 = .ok (.i2l, 1) := by decide +kernel
theorem dX2_writeEquations_69 : decode cX2_writeEquations 69 = .ok (.lastore, 1) := by decide +kernel
theorem dX2_writeEquations_70 : decode cX2_writeEquations 70 = .ok (.iinc 2 1, 3) := by decide +kernel
theorem dX2_writeEquations_73 : decode cX2_writeEquations 73 = .ok (.goto (-42), 3) := by decide +kernel
theorem dX2_writeEquations_76 : decode cX2_writeEquations 76 = .ok (.iinc 1 1, 3) := by decide +kernel
theorem dX2_writeEquations_79 : decode cX2_writeEquations 79 = .ok (.goto (-77), 3) := by decide +kernel
theorem dX2_writeEquations_82 : decode cX2_writeEquations 82 = .ok (.return_, 1) := by decide +kernel
set_option maxRecDepth 20000 in
theorem ggX2_clearColumn_X2_clearEntry : GoodIn wsX2_clearColumn wsX2_clearEntry := goodIn_r _ [5, 6, 7, 8, 9, 10, 11, 12, 13, 14, 15] (by decide +kernel) (by decide +kernel)
set_option maxRecDepth 20000 in
theorem gX2_clearColumn_X2_clearEntry : GoodIn wsX2_clearColumn (wsV RX2 66 RX2 yX2_clearEntry wsX2_clearEntry) := goodIn_app (goodIn_of _ (by decide +kernel)) ggX2_clearColumn_X2_clearEntry
theorem dX2_clearColumn_0 : decode cX2_clearColumn 0 = .ok (.iconst 1, 1) := by decide +kernel
theorem dX2_clearColumn_1 : decode cX2_clearColumn 1 = .ok (.istore 6, 2) := by decide +kernel
theorem dX2_clearColumn_3 : decode cX2_clearColumn 3 = .ok (.iload 6, 2) := by decide +kernel
theorem dX2_clearColumn_5 : decode cX2_clearColumn 5 = .ok (.bipush 6, 2) := by decide +kernel
theorem dX2_clearColumn_7 : decode cX2_clearColumn 7 = .ok (.if_icmp .ge 25, 3) := by decide +kernel
theorem dX2_clearColumn_10 : decode cX2_clearColumn 10 = .ok (.iload 6, 2) := by decide +kernel
theorem dX2_clearColumn_12 : decode cX2_clearColumn 12 = .ok (.iload_n 1, 1) := by decide +kernel
theorem dX2_clearColumn_13 : decode cX2_clearColumn 13 = .ok (.if_icmp .eq 13, 3) := by decide +kernel
theorem dX2_clearColumn_16 : decode cX2_clearColumn 16 = .ok (.aload_n 0, 1) := by decide +kernel
theorem dX2_clearColumn_17 : decode cX2_clearColumn 17 = .ok (.iload 6, 2) := by decide +kernel
theorem dX2_clearColumn_19 : decode cX2_clearColumn 19 = .ok (.iload_n 1, 1) := by decide +kernel
theorem dX2_clearColumn_20 : decode cX2_clearColumn 20 = .ok (.lload_n 2, 1) := by decide +kernel
theorem dX2_clearColumn_21 : decode cX2_clearColumn 21 = .ok (.lload 4, 2) := by decide +kernel
theorem dX2_clearColumn_23 : decode cX2_clearColumn 23 = .ok (.invokevirtual 66, 3) := by decide +kernel
theorem dX2_clearColumn_26 : decode cX2_clearColumn 26 = .ok (.iinc 6 1, 3) := by decide +kernel
theorem dX2_clearColumn_29 : decode cX2_clearColumn 29 = .ok (.goto (-26), 3) := by decide +kernel
theorem dX2_clearColumn_32 : decode cX2_clearColumn 32 = .ok (.return_, 1) := by decide +kernel
set_option maxRecDepth 20000 in
theorem ggX2_clearEntry_X3_pair : GoodIn wsX2_clearEntry wsX3_pair := goodIn_r _ [4] (by decide +kernel) (by decide +kernel)
set_option maxRecDepth 20000 in
theorem gX2_clearEntry_X3_pair_n31 : GoodIn wsX2_clearEntry (wsX3_pair) := ggX2_clearEntry_X3_pair
theorem dX2_clearEntry_0 : decode cX2_clearEntry 0 = .ok (.aload_n 0, 1) := by decide +kernel
theorem dX2_clearEntry_1 : decode cX2_clearEntry 1 = .ok (.getfield 22, 3) := by decide +kernel
theorem dX2_clearEntry_4 : decode cX2_clearEntry 4 = .ok (.iload_n 1, 1) := by decide +kernel
theorem dX2_clearEntry_5 : decode cX2_clearEntry 5 = .ok (.iload_n 2, 1) := by decide +kernel
theorem dX2_clearEntry_6 : decode cX2_clearEntry 6 = .ok (.invokestatic 31, 3) := by decide +kernel
theorem dX2_clearEntry_9 : decode cX2_clearEntry 9 = .ok (.laload, 1) := by decide +kernel
theorem dX2_clearEntry_10 : decode cX2_clearEntry 10 = .ok (.lstore 7, 2) := by decide +kernel
theorem dX2_clearEntry_12 : decode cX2_clearEntry 12 = .ok (.lload 5, 2) := by decide +kernel
theorem dX2_clearEntry_14 : decode cX2_clearEntry 14 = .ok (.lconst 0, 1) := by decide +kernel
theorem dX2_clearEntry_15 : decode cX2_clearEntry 15 = .ok (.lcmp, 1) := by decide +kernel
theorem dX2_clearEntry_16 : decode cX2_clearEntry 16 = .ok (.ifCond .le 65, 3) := by decide +kernel
theorem dX2_clearEntry_19 : decode cX2_clearEntry 19 = .ok (.iconst 0, 1) := by decide +kernel
theorem dX2_clearEntry_20 : decode cX2_clearEntry 20 = .ok (.istore 9, 2) := by decide +kernel
theorem dX2_clearEntry_22 : decode cX2_clearEntry 22 = .ok (.iload 9, 2) := by decide +kernel
theorem dX2_clearEntry_24 : decode cX2_clearEntry 24 = .ok (.bipush 6, 2) := by decide +kernel
theorem dX2_clearEntry_26 : decode cX2_clearEntry 26 = .ok (.if_icmp .ge 55, 3) := by decide +kernel
theorem dX2_clearEntry_29 : decode cX2_clearEntry 29 = .ok (.lload 7, 2) := by decide +kernel
theorem dX2_clearEntry_31 : decode cX2_clearEntry 31 = .ok (.aload_n 0, 1) := by decide +kernel
theorem dX2_clearEntry_32 : decode cX2_clearEntry 32 = .ok (.getfield 22, 3) := by decide +kernel
theorem dX2_clearEntry_35 : decode cX2_clearEntry 35 = .ok (.iload_n 2, 1) := by decide +kernel
theorem dX2_clearEntry_36 : decode cX2_clearEntry 36 = .ok (.iload 9, 2) := by decide +kernel
theorem dX2_clearEntry_38 : decode cX2_clearEntry 38 = .ok (.invokestatic 31, 3) := by decide +kernel
theorem dX2_clearEntry_41 : decode cX2_clearEntry 41 = .ok (.laload, 1) := by decide +kernel
theorem dX2_clearEntry_42 : decode cX2_clearEntry 42 = .ok (.lmul, 1) := by decide +kernel
theorem dX2_clearEntry_43 : decode cX2_clearEntry 43 = .ok (.lstore 10, 2) := by decide +kernel
theorem dX2_clearEntry_45 : decode cX2_clearEntry 45 = .ok (.iload_n 1, 1) := by decide +kernel
theorem dX2_clearEntry_46 : decode cX2_clearEntry 46 = .ok (.iload 9, 2) := by decide +kernel
theorem dX2_clearEntry_48 : decode cX2_clearEntry 48 = .ok (.invokestatic 31, 3) := by decide +kernel
theorem dX2_clearEntry_51 : decode cX2_clearEntry 51 = .ok (.istore 12, 2) := by decide +kernel
theorem dX2_clearEntry_53 : decode cX2_clearEntry 53 = .ok (.aload_n 0, 1) := by decide +kernel
theorem dX2_clearEntry_54 : decode cX2_clearEntry 54 = .ok (.getfield 22, 3) := by decide +kernel
theorem dX2_clearEntry_57 : decode cX2_clearEntry 57 = .ok (.iload 12, 2) := by decide +kernel
theorem dX2_clearEntry_59 : decode cX2_clearEntry 59 = .ok (.aload_n 0, 1) := by decide +kernel
theorem dX2_clearEntry_60 : decode cX2_clearEntry 60 = .ok (.getfield 22, 3) := by decide +kernel
theorem dX2_clearEntry_63 : decode cX2_clearEntry 63 = .ok (.iload 12, 2) := by decide +kernel
theorem dX2_clearEntry_65 : decode cX2_clearEntry 65 = .ok (.laload, 1) := by decide +kernel
theorem dX2_clearEntry_66 : decode cX2_clearEntry 66 = .ok (.lload_n 3, 1) := by decide +kernel
theorem dX2_clearEntry_67 : decode cX2_clearEntry 67 = .ok (.lmul, 1) := by decide +kernel
theorem dX2_clearEntry_68 : decode cX2_clearEntry 68 = .ok (.lload 10, 2) := by decide +kernel
theorem dX2_clearEntry_70 : decode cX2_clearEntry 70 = .ok (.lsub, 1) := by decide +kernel
theorem dX2_clearEntry_71 : decode cX2_clearEntry 71 = .ok (.lload 5, 2) := by decide +kernel
theorem dX2_clearEntry_73 : decode cX2_clearEntry 73 = .ok (.ldiv, 1) := by decide +kernel
theorem dX2_clearEntry_74 : decode cX2_clearEntry 74 = .ok (.lastore, 1) := by decide +kernel
theorem dX2_clearEntry_75 : decode cX2_clearEntry 75 = .ok (.iinc 9 1, 3) := by decide +kernel
theorem dX2_clearEntry_78 : decode cX2_clearEntry 78 = .ok (.goto (-56), 3) := by decide +kernel
theorem dX2_clearEntry_81 : decode cX2_clearEntry 81 = .ok (.return_, 1) := by decide +kernel
set_option maxRecDepth 20000 in
theorem ggX2_keepShares_X3_pair : GoodIn wsX2_keepShares wsX3_pair := goodIn_r _ [6] (by decide +kernel) (by decide +kernel)
set_option maxRecDepth 20000 in
theorem gX2_keepShares_X3_pair_n31 : GoodIn wsX2_keepShares (wsX3_pair) := ggX2_keepShares_X3_pair
set_option maxRecDepth 20000 in
theorem ggX2_keepShares_X2_commonDivisor : GoodIn wsX2_keepShares wsX2_commonDivisor := goodIn_r _ [10] (by decide +kernel) (by decide +kernel)
set_option maxRecDepth 20000 in
theorem gX2_keepShares_X2_commonDivisor : GoodIn wsX2_keepShares (va_wsS RX2 70 yX2_commonDivisor wsX2_commonDivisor) := goodIn_app (goodIn_of _ (by decide +kernel)) ggX2_keepShares_X2_commonDivisor
theorem dX2_keepShares_0 : decode cX2_keepShares 0 = .ok (.iconst 1, 1) := by decide +kernel
theorem dX2_keepShares_1 : decode cX2_keepShares 1 = .ok (.istore_n 3, 1) := by decide +kernel
theorem dX2_keepShares_2 : decode cX2_keepShares 2 = .ok (.iload_n 3, 1) := by decide +kernel
theorem dX2_keepShares_3 : decode cX2_keepShares 3 = .ok (.bipush 6, 2) := by decide +kernel
theorem dX2_keepShares_5 : decode cX2_keepShares 5 = .ok (.if_icmp .ge 57, 3) := by decide +kernel
theorem dX2_keepShares_8 : decode cX2_keepShares 8 = .ok (.aload_n 0, 1) := by decide +kernel
theorem dX2_keepShares_9 : decode cX2_keepShares 9 = .ok (.getfield 22, 3) := by decide +kernel
theorem dX2_keepShares_12 : decode cX2_keepShares 12 = .ok (.iload_n 3, 1) := by decide +kernel
theorem dX2_keepShares_13 : decode cX2_keepShares 13 = .ok (.iconst 0, 1) := by decide +kernel
theorem dX2_keepShares_14 : decode cX2_keepShares 14 = .ok (.invokestatic 31, 3) := by decide +kernel
theorem dX2_keepShares_17 : decode cX2_keepShares 17 = .ok (.laload, 1) := by decide +kernel
theorem dX2_keepShares_18 : decode cX2_keepShares 18 = .ok (.lstore 4, 2) := by decide +kernel
theorem dX2_keepShares_20 : decode cX2_keepShares 20 = .ok (.lload_n 1, 1) := by decide +kernel
theorem dX2_keepShares_21 : decode cX2_keepShares 21 = .ok (.lload 4, 2) := by decide +kernel
theorem dX2_keepShares_23 : decode cX2_keepShares 23 = .ok (.invokestatic 70, 3) := by decide +kernel
theorem dX2_keepShares_26 : decode cX2_keepShares 26 = .ok (.lstore 6, 2) := by decide +kernel
theorem dX2_keepShares_28 : decode cX2_keepShares 28 = .ok (.lload 6, 2) := by decide +kernel
theorem dX2_keepShares_30 : decode cX2_keepShares 30 = .ok (.lconst 0, 1) := by decide +kernel
theorem dX2_keepShares_31 : decode cX2_keepShares 31 = .ok (.lcmp, 1) := by decide +kernel
theorem dX2_keepShares_32 : decode cX2_keepShares 32 = .ok (.ifCond .le 24, 3) := by decide +kernel
theorem dX2_keepShares_35 : decode cX2_keepShares 35 = .ok (.aload_n 0, 1) := by decide +kernel
theorem dX2_keepShares_36 : decode cX2_keepShares 36 = .ok (.getfield 15, 3) := by decide +kernel
theorem dX2_keepShares_39 : decode cX2_keepShares 39 = .ok (.iload_n 3, 1) := by decide +kernel
theorem dX2_keepShares_40 : decode cX2_keepShares 40 = .ok (.lload 4, 2) := by decide +kernel
theorem dX2_keepShares_42 : decode cX2_keepShares 42 = .ok (.lload 6, 2) := by decide +kernel
theorem dX2_keepShares_44 : decode cX2_keepShares 44 = .ok (.ldiv, 1) := by decide +kernel
theorem dX2_keepShares_45 : decode cX2_keepShares 45 = .ok (.lastore, 1) := by decide +kernel
theorem dX2_keepShares_46 : decode cX2_keepShares 46 = .ok (.aload_n 0, 1) := by decide +kernel
theorem dX2_keepShares_47 : decode cX2_keepShares 47 = .ok (.getfield 19, 3) := by decide +kernel
theorem dX2_keepShares_50 : decode cX2_keepShares 50 = .ok (.iload_n 3, 1) := by decide +kernel
theorem dX2_keepShares_51 : decode cX2_keepShares 51 = .ok (.lload_n 1, 1) := by decide +kernel
theorem dX2_keepShares_52 : decode cX2_keepShares 52 = .ok (.lload 6, 2) := by decide +kernel
theorem dX2_keepShares_54 : decode cX2_keepShares 54 = .ok (.ldiv, 1) := by decide +kernel
theorem dX2_keepShares_55 : decode cX2_keepShares 55 = .ok (.lastore, 1) := by decide +kernel
theorem dX2_keepShares_56 : decode cX2_keepShares 56 = .ok (.iinc 3 1, 3) := by decide +kernel
theorem dX2_keepShares_59 : decode cX2_keepShares 59 = .ok (.goto (-57), 3) := by decide +kernel
theorem dX2_keepShares_62 : decode cX2_keepShares 62 = .ok (.return_, 1) := by decide +kernel
theorem dX2_commonDivisor_0 : decode cX2_commonDivisor 0 = .ok (.lload_n 0, 1) := by decide +kernel
theorem dX2_commonDivisor_1 : decode cX2_commonDivisor 1 = .ok (.lstore 4, 2) := by decide +kernel
theorem dX2_commonDivisor_3 : decode cX2_commonDivisor 3 = .ok (.lload_n 2, 1) := by decide +kernel
theorem dX2_commonDivisor_4 : decode cX2_commonDivisor 4 = .ok (.lstore 6, 2) := by decide +kernel
theorem dX2_commonDivisor_6 : decode cX2_commonDivisor 6 = .ok (.iconst 0, 1) := by decide +kernel
theorem dX2_commonDivisor_7 : decode cX2_commonDivisor 7 = .ok (.istore 8, 2) := by decide +kernel
theorem dX2_commonDivisor_9 : decode cX2_commonDivisor 9 = .ok (.iload 8, 2) := by decide +kernel
theorem dX2_commonDivisor_11 : decode cX2_commonDivisor 11 = .ok (.bipush 100, 2) := by decide +kernel
theorem dX2_commonDivisor_13 : decode cX2_commonDivisor 13 = .ok (.if_icmp .ge 31, 3) := by decide +kernel
theorem dX2_commonDivisor_16 : decode cX2_commonDivisor 16 = .ok (.lload 6, 2) := by decide +kernel
theorem dX2_commonDivisor_18 : decode cX2_commonDivisor 18 = .ok (.lconst 0, 1) := by decide +kernel
theorem dX2_commonDivisor_19 : decode cX2_commonDivisor 19 = .ok (.lcmp, 1) := by decide +kernel
theorem dX2_commonDivisor_20 : decode cX2_commonDivisor 20 = .ok (.ifCond .eq 24, 3) := by decide +kernel
theorem dX2_commonDivisor_23 : decode cX2_commonDivisor 23 = .ok (.lload 4, 2) := by decide +kernel
theorem dX2_commonDivisor_25 : decode cX2_commonDivisor 25 = .ok (.lload 6, 2) := by decide +kernel
theorem dX2_commonDivisor_27 : decode cX2_commonDivisor 27 = .ok (.lrem, 1) := by decide +kernel
theorem dX2_commonDivisor_28 : decode cX2_commonDivisor 28 = .ok (.lstore 9, 2) := by decide +kernel
theorem dX2_commonDivisor_30 : decode cX2_commonDivisor 30 = .ok (.lload 6, 2) := by decide +kernel
theorem dX2_commonDivisor_32 : decode cX2_commonDivisor 32 = .ok (.lstore 4, 2) := by decide +kernel
theorem dX2_commonDivisor_34 : decode cX2_commonDivisor 34 = .ok (.lload 9, 2) := by decide +kernel
theorem dX2_commonDivisor_36 : decode cX2_commonDivisor 36 = .ok (.lstore 6, 2) := by decide +kernel
theorem dX2_commonDivisor_38 : decode cX2_commonDivisor 38 = .ok (.iinc 8 1, 3) := by decide +kernel
theorem dX2_commonDivisor_41 : decode cX2_commonDivisor 41 = .ok (.goto (-32), 3) := by decide +kernel
theorem dX2_commonDivisor_44 : decode cX2_commonDivisor 44 = .ok (.lload 4, 2) := by decide +kernel
theorem dX2_commonDivisor_46 : decode cX2_commonDivisor 46 = .ok (.lreturn, 1) := by decide +kernel
set_option maxRecDepth 20000 in
theorem ggX2_millionthsAfter_X2_playRound : GoodIn wsX2_millionthsAfter wsX2_playRound := goodIn_r _ [7, 8, 1, 9, 10, 11, 12, 13, 14, 15, 16, 17, 18] (by decide +kernel) (by decide +kernel)
set_option maxRecDepth 20000 in
theorem gX2_millionthsAfter_X2_playRound : GoodIn wsX2_millionthsAfter (wsV RX2 74 RX2 yX2_playRound wsX2_playRound) := goodIn_app (goodIn_of _ (by decide +kernel)) ggX2_millionthsAfter_X2_playRound
theorem dX2_millionthsAfter_0 : decode cX2_millionthsAfter 0 = .ok (.iconst 0, 1) := by decide +kernel
theorem dX2_millionthsAfter_1 : decode cX2_millionthsAfter 1 = .ok (.istore_n 3, 1) := by decide +kernel
theorem dX2_millionthsAfter_2 : decode cX2_millionthsAfter 2 = .ok (.iload_n 3, 1) := by decide +kernel
theorem dX2_millionthsAfter_3 : decode cX2_millionthsAfter 3 = .ok (.bipush 6, 2) := by decide +kernel
theorem dX2_millionthsAfter_5 : decode cX2_millionthsAfter 5 = .ok (.if_icmp .ge 25, 3) := by decide +kernel
theorem dX2_millionthsAfter_8 : decode cX2_millionthsAfter 8 = .ok (.aload_n 0, 1) := by decide +kernel
theorem dX2_millionthsAfter_9 : decode cX2_millionthsAfter 9 = .ok (.getfield 25, 3) := by decide +kernel
theorem dX2_millionthsAfter_12 : decode cX2_millionthsAfter 12 = .ok (.iload_n 3, 1) := by decide +kernel
theorem dX2_millionthsAfter_13 : decode cX2_millionthsAfter 13 = .ok (.iload_n 3, 1) := by decide +kernel
theorem dX2_millionthsAfter_14 : decode cX2_millionthsAfter 14 = .ok (.ifCond .ne 8, 3) := by decide +kernel
theorem dX2_millionthsAfter_17 : decode cX2_millionthsAfter 17 = .ok (.ldc 73, 2) := by decide +kernel
theorem dX2_millionthsAfter_19 : decode cX2_millionthsAfter 19 = .ok (.goto 4, 3) := by decide +kernel
theorem dX2_millionthsAfter_22 : decode cX2_millionthsAfter 22 = .ok (.iconst 0, 1) := by decide +kernel
theorem dX2_millionthsAfter_23 : decode cX2_millionthsAfter 23 = .ok (.iastore, 1) := by decide +kernel
theorem dX2_millionthsAfter_24 : decode cX2_millionthsAfter 24 = .ok (.iinc 3 1, 3) := by decide +kernel
theorem dX2_millionthsAfter_27 : decode cX2_millionthsAfter 27 = .ok (.goto (-25), 3) := by decide +kernel
theorem dX2_millionthsAfter_30 : decode cX2_millionthsAfter 30 = .ok (.iconst 0, 1) := by decide +kernel
theorem dX2_millionthsAfter_31 : decode cX2_millionthsAfter 31 = .ok (.istore_n 3, 1) := by decide +kernel
theorem dX2_millionthsAfter_32 : decode cX2_millionthsAfter 32 = .ok (.iload_n 3, 1) := by decide +kernel
theorem dX2_millionthsAfter_33 : decode cX2_millionthsAfter 33 = .ok (.iload_n 1, 1) := by decide +kernel
theorem dX2_millionthsAfter_34 : decode cX2_millionthsAfter 34 = .ok (.if_icmp .ge 13, 3) := by decide +kernel
theorem dX2_millionthsAfter_37 : decode cX2_millionthsAfter 37 = .ok (.aload_n 0, 1) := by decide +kernel
theorem dX2_millionthsAfter_38 : decode cX2_millionthsAfter 38 = .ok (.invokevirtual 74, 3) := by decide +kernel
theorem dX2_millionthsAfter_41 : decode cX2_millionthsAfter 41 = .ok (.iinc 3 1, 3) := by decide +kernel
theorem dX2_millionthsAfter_44 : decode cX2_millionthsAfter 44 = .ok (.goto (-12), 3) := by decide +kernel
theorem dX2_millionthsAfter_47 : decode cX2_millionthsAfter 47 = .ok (.aload_n 0, 1) := by decide +kernel
theorem dX2_millionthsAfter_48 : decode cX2_millionthsAfter 48 = .ok (.getfield 25, 3) := by decide +kernel
theorem dX2_millionthsAfter_51 : decode cX2_millionthsAfter 51 = .ok (.iload_n 2, 1) := by decide +kernel
theorem dX2_millionthsAfter_52 : decode cX2_millionthsAfter 52 = .ok (.iaload, 1) := by decide +kernel
theorem dX2_millionthsAfter_53 : decode cX2_millionthsAfter 53 = .ok (.ireturn, 1) := by decide +kernel
set_option maxRecDepth 20000 in
theorem ggX2_playRound_X3_pair : GoodIn wsX2_playRound wsX3_pair := goodIn_r _ [6] (by decide +kernel) (by decide +kernel)
set_option maxRecDepth 20000 in
theorem gX2_playRound_X3_pair_n31 : GoodIn wsX2_playRound (wsX3_pair) := ggX2_playRound_X3_pair
theorem dX2_playRound_0 : decode cX2_playRound 0 = .ok (.iconst 1, 1) := by decide +kernel
theorem dX2_playRound_1 : decode cX2_playRound 1 = .ok (.istore_n 1, 1) := by decide +kernel
theorem dX2_playRound_2 : decode cX2_playRound 2 = .ok (.iload_n 1, 1) := by decide +kernel
theorem dX2_playRound_3 : decode cX2_playRound 3 = .ok (.bipush 6, 2) := by decide +kernel
theorem dX2_playRound_5 : decode cX2_playRound 5 = .ok (.if_icmp .ge 55, 3) := by decide +kernel
theorem dX2_playRound_8 : decode cX2_playRound 8 = .ok (.iconst 0, 1) := by decide +kernel
theorem dX2_playRound_9 : decode cX2_playRound 9 = .ok (.istore_n 2, 1) := by decide +kernel
theorem dX2_playRound_10 : decode cX2_playRound 10 = .ok (.iconst 0, 1) := by decide +kernel
theorem dX2_playRound_11 : decode cX2_playRound 11 = .ok (.istore_n 3, 1) := by decide +kernel
theorem dX2_playRound_12 : decode cX2_playRound 12 = .ok (.iload_n 3, 1) := by decide +kernel
theorem dX2_playRound_13 : decode cX2_playRound 13 = .ok (.bipush 6, 2) := by decide +kernel
theorem dX2_playRound_15 : decode cX2_playRound 15 = .ok (.if_icmp .ge 29, 3) := by decide +kernel
theorem dX2_playRound_18 : decode cX2_playRound 18 = .ok (.iload_n 2, 1) := by decide +kernel
theorem dX2_playRound_19 : decode cX2_playRound 19 = .ok (.aload_n 0, 1) := by decide +kernel
theorem dX2_playRound_20 : decode cX2_playRound 20 = .ok (.getfield 9, 3) := by decide +kernel
theorem dX2_playRound_23 : decode cX2_playRound 23 = .ok (.iload_n 3, 1) := by decide +kernel
theorem dX2_playRound_24 : decode cX2_playRound 24 = .ok (.iload_n 1, 1) := by decide +kernel
theorem dX2_playRound_25 : decode cX2_playRound 25 = .ok (.invokestatic 31, 3) := by decide +kernel
theorem dX2_playRound_28 : decode cX2_playRound 28 = .ok (.iaload, 1) := by decide +kernel
theorem dX2_playRound_29 : decode cX2_playRound 29 = .ok (.aload_n 0, 1) := by decide +kernel
theorem dX2_playRound_30 : decode cX2_playRound 30 = .ok (.getfield 25, 3) := by decide +kernel
theorem dX2_playRound_33 : decode cX2_playRound 33 = .ok (.iload_n 3, 1) := by decide +kernel
theorem dX2_playRound_34 : decode cX2_playRound 34 = .ok (.iaload, 1) := by decide +kernel
theorem dX2_playRound_35 : decode cX2_playRound 35 = .ok (.imul, 1) := by decide +kernel
theorem dX2_playRound_36 : decode cX2_playRound 36 = .ok (.iadd, 1) := by decide +kernel
theorem dX2_playRound_37 : decode cX2_playRound 37 = .ok (.istore_n 2, 1) := by decide +kernel
theorem dX2_playRound_38 : decode cX2_playRound 38 = .ok (.iinc 3 1, 3) := by decide +kernel
theorem dX2_playRound_41 : decode cX2_playRound 41 = .ok (.goto (-29), 3) := by decide +kernel
theorem dX2_playRound_44 : decode cX2_playRound 44 = .ok (.aload_n 0, 1) := by decide +kernel
theorem dX2_playRound_45 : decode cX2_playRound 45 = .ok (.getfield 28, 3) := by decide +kernel
theorem dX2_playRound_48 : decode cX2_playRound 48 = .ok (.iload_n 1, 1) := by decide +kernel
theorem dX2_playRound_49 : decode cX2_playRound 49 = .ok (.iload_n 2, 1) := by decide +kernel
theorem dX2_playRound_50 : decode cX2_playRound 50 = .ok (.bipush 100, 2) := by decide +kernel
theorem dX2_playRound_52 : decode cX2_playRound 52 = .ok (.idiv, 1) := by decide +kernel
theorem dX2_playRound_53 : decode cX2_playRound 53 = .ok (.iastore, 1) := by decide +kernel
theorem dX2_playRound_54 : decode cX2_playRound 54 = .ok (.iinc 1 1, 3) := by decide +kernel
theorem dX2_playRound_57 : decode cX2_playRound 57 = .ok (.goto (-55), 3) := by decide +kernel
theorem dX2_playRound_60 : decode cX2_playRound 60 = .ok (.iconst 1, 1) := by decide +kernel
theorem dX2_playRound_61 : decode cX2_playRound 61 = .ok (.istore_n 1, 1) := by decide +kernel
theorem dX2_playRound_62 : decode cX2_playRound 62 = .ok (.iload_n 1, 1) := by decide +kernel
theorem dX2_playRound_63 : decode cX2_playRound 63 = .ok (.bipush 6, 2) := by decide +kernel
theorem dX2_playRound_65 : decode cX2_playRound 65 = .ok (.if_icmp .ge 21, 3) := by decide +kernel
theorem dX2_playRound_68 : decode cX2_playRound 68 = .ok (.aload_n 0, 1) := by decide +kernel
theorem dX2_playRound_69 : decode cX2_playRound 69 = .ok (.getfield 25, 3) := by decide +kernel
theorem dX2_playRound_72 : decode cX2_playRound 72 = .ok (.iload_n 1, 1) := by decide +kernel
theorem dX2_playRound_73 : decode cX2_playRound 73 = .ok (.aload_n 0, 1) := by decide +kernel
theorem dX2_playRound_74 : decode cX2_playRound 74 = .ok (.getfield 28, 3) := by decide +kernel
theorem dX2_playRound_77 : decode cX2_playRound 77 = .ok (.iload_n 1, 1) := by decide +kernel
theorem dX2_playRound_78 : decode cX2_playRound 78 = .ok (.iaload, 1) := by decide +kernel
theorem dX2_playRound_79 : decode cX2_playRound 79 = .ok (.iastore, 1) := by decide +kernel
theorem dX2_playRound_80 : decode cX2_playRound 80 = .ok (.iinc 1 1, 3) := by decide +kernel
theorem dX2_playRound_83 : decode cX2_playRound 83 = .ok (.goto (-21), 3) := by decide +kernel
theorem dX2_playRound_86 : decode cX2_playRound 86 = .ok (.return_, 1) := by decide +kernel
set_option maxRecDepth 20000 in
theorem ggX2_members_X2_withControlled : GoodIn wsX2_members wsX2_withControlled := goodIn_r _ [5, 6, 7, 8, 4, 9, 10, 11, 12, 13, 14, 15, 16, 17, 18, 19, 20, 21] (by decide +kernel) (by decide +kernel)
set_option maxRecDepth 20000 in
theorem gX2_members_X2_withControlled : GoodIn wsX2_members (wsV RX2 77 RX2 yX2_withControlled wsX2_withControlled) := goodIn_app (goodIn_of _ (by decide +kernel)) ggX2_members_X2_withControlled
theorem dX2_members_0 : decode cX2_members 0 = .ok (.iconst 1, 1) := by decide +kernel
theorem dX2_members_1 : decode cX2_members 1 = .ok (.istore_n 1, 1) := by decide +kernel
theorem dX2_members_2 : decode cX2_members 2 = .ok (.iconst 1, 1) := by decide +kernel
theorem dX2_members_3 : decode cX2_members 3 = .ok (.istore_n 2, 1) := by decide +kernel
theorem dX2_members_4 : decode cX2_members 4 = .ok (.iload_n 2, 1) := by decide +kernel
theorem dX2_members_5 : decode cX2_members 5 = .ok (.bipush 6, 2) := by decide +kernel
theorem dX2_members_7 : decode cX2_members 7 = .ok (.if_icmp .ge 15, 3) := by decide +kernel
theorem dX2_members_10 : decode cX2_members 10 = .ok (.aload_n 0, 1) := by decide +kernel
theorem dX2_members_11 : decode cX2_members 11 = .ok (.iload_n 1, 1) := by decide +kernel
theorem dX2_members_12 : decode cX2_members 12 = .ok (.invokevirtual 77, 3) := by decide +kernel
theorem dX2_members_15 : decode cX2_members 15 = .ok (.istore_n 1, 1) := by decide +kernel
theorem dX2_members_16 : decode cX2_members 16 = .ok (.iinc 2 1, 3) := by decide +kernel
theorem dX2_members_19 : decode cX2_members 19 = .ok (.goto (-15), 3) := by decide +kernel
theorem dX2_members_22 : decode cX2_members 22 = .ok (.iload_n 1, 1) := by decide +kernel
theorem dX2_members_23 : decode cX2_members 23 = .ok (.ireturn, 1) := by decide +kernel
set_option maxRecDepth 20000 in
theorem ggX2_withControlled_X2_heldAmong : GoodIn wsX2_withControlled wsX2_heldAmong := goodIn_r _ [5, 6, 7, 8, 9, 10, 11, 12, 13, 14, 15, 16, 17] (by decide +kernel) (by decide +kernel)
set_option maxRecDepth 20000 in
theorem gX2_withControlled_X2_heldAmong : GoodIn wsX2_withControlled (wsV RX2 80 RX2 yX2_heldAmong wsX2_heldAmong) := goodIn_app (goodIn_of _ (by decide +kernel)) ggX2_withControlled_X2_heldAmong
theorem dX2_withControlled_0 : decode cX2_withControlled 0 = .ok (.iload_n 1, 1) := by decide +kernel
theorem dX2_withControlled_1 : decode cX2_withControlled 1 = .ok (.istore_n 2, 1) := by decide +kernel
theorem dX2_withControlled_2 : decode cX2_withControlled 2 = .ok (.iconst 1, 1) := by decide +kernel
theorem dX2_withControlled_3 : decode cX2_withControlled 3 = .ok (.istore_n 3, 1) := by decide +kernel
theorem dX2_withControlled_4 : decode cX2_withControlled 4 = .ok (.iload_n 3, 1) := by decide +kernel
theorem dX2_withControlled_5 : decode cX2_withControlled 5 = .ok (.bipush 6, 2) := by decide +kernel
theorem dX2_withControlled_7 : decode cX2_withControlled 7 = .ok (.if_icmp .ge 26, 3) := by decide +kernel
theorem dX2_withControlled_10 : decode cX2_withControlled 10 = .ok (.aload_n 0, 1) := by decide +kernel
theorem dX2_withControlled_11 : decode cX2_withControlled 11 = .ok (.iload_n 1, 1) := by decide +kernel
theorem dX2_withControlled_12 : decode cX2_withControlled 12 = .ok (.iload_n 3, 1) := by decide +kernel
theorem dX2_withControlled_13 : decode cX2_withControlled 13 = .ok (.invokevirtual 80, 3) := by decide +kernel
theorem dX2_withControlled_16 : decode cX2_withControlled 16 = .ok (.bipush 50, 2) := by decide +kernel
theorem dX2_withControlled_18 : decode cX2_withControlled 18 = .ok (.if_icmp .le 9, 3) := by decide +kernel
theorem dX2_withControlled_21 : decode cX2_withControlled 21 = .ok (.iload_n 2, 1) := by decide +kernel
theorem dX2_withControlled_22 : decode cX2_withControlled 22 = .ok (.iconst 1, 1) := by decide +kernel
theorem dX2_withControlled_23 : decode cX2_withControlled 23 = .ok (.iload_n 3, 1) := by decide +kernel
theorem dX2_withControlled_24 : decode cX2_withControlled 24 = .ok (.ishl, 1) := by decide +kernel
theorem dX2_withControlled_25 : decode cX2_withControlled 25 = .ok (.ior, 1) := by decide +kernel
theorem dX2_withControlled_26 : decode cX2_withControlled 26 = .ok (.istore_n 2, 1) := by decide +kernel
theorem dX2_withControlled_27 : decode cX2_withControlled 27 = .ok (.iinc 3 1, 3) := by decide +kernel
theorem dX2_withControlled_30 : decode cX2_withControlled 30 = .ok (.goto (-26), 3) := by decide +kernel
theorem dX2_withControlled_33 : decode cX2_withControlled 33 = .ok (.iload_n 2, 1) := by decide +kernel
theorem dX2_withControlled_34 : decode cX2_withControlled 34 = .ok (.ireturn, 1) := by decide +kernel
set_option maxRecDepth 20000 in
theorem ggX2_heldAmong_X3_isMember : GoodIn wsX2_heldAmong wsX3_isMember := goodIn_r _ [4] (by decide +kernel) (by decide +kernel)
set_option maxRecDepth 20000 in
theorem gX2_heldAmong_X3_isMember_n83 : GoodIn wsX2_heldAmong (wsX3_isMember) := ggX2_heldAmong_X3_isMember
set_option maxRecDepth 20000 in
theorem ggX2_heldAmong_X3_pair : GoodIn wsX2_heldAmong wsX3_pair := goodIn_r _ [6] (by decide +kernel) (by decide +kernel)
set_option maxRecDepth 20000 in
theorem gX2_heldAmong_X3_pair_n31 : GoodIn wsX2_heldAmong (wsX3_pair) := ggX2_heldAmong_X3_pair
theorem dX2_heldAmong_0 : decode cX2_heldAmong 0 = .ok (.iconst 0, 1) := by decide +kernel
theorem dX2_heldAmong_1 : decode cX2_heldAmong 1 = .ok (.istore_n 3, 1) := by decide +kernel
theorem dX2_heldAmong_2 : decode cX2_heldAmong 2 = .ok (.iconst 0, 1) := by decide +kernel
theorem dX2_heldAmong_3 : decode cX2_heldAmong 3 = .ok (.istore 4, 2) := by decide +kernel
theorem dX2_heldAmong_5 : decode cX2_heldAmong 5 = .ok (.iload 4, 2) := by decide +kernel
theorem dX2_heldAmong_7 : decode cX2_heldAmong 7 = .ok (.bipush 6, 2) := by decide +kernel
theorem dX2_heldAmong_9 : decode cX2_heldAmong 9 = .ok (.if_icmp .ge 32, 3) := by decide +kernel
theorem dX2_heldAmong_12 : decode cX2_heldAmong 12 = .ok (.iload_n 1, 1) := by decide +kernel
theorem dX2_heldAmong_13 : decode cX2_heldAmong 13 = .ok (.iload 4, 2) := by decide +kernel
theorem dX2_heldAmong_15 : decode cX2_heldAmong 15 = .ok (.invokestatic 83, 3) := by decide +kernel
theorem dX2_heldAmong_18 : decode cX2_heldAmong 18 = .ok (.ifCond .eq 17, 3) := by decide +kernel
theorem dX2_heldAmong_21 : decode cX2_heldAmong 21 = .ok (.iload_n 3, 1) := by decide +kernel
theorem dX2_heldAmong_22 : decode cX2_heldAmong 22 = .ok (.aload_n 0, 1) := by decide +kernel
theorem dX2_heldAmong_23 : decode cX2_heldAmong 23 = .ok (.getfield 9, 3) := by decide +kernel
theorem dX2_heldAmong_26 : decode cX2_heldAmong 26 = .ok (.iload 4, 2) := by decide +kernel
theorem dX2_heldAmong_28 : decode cX2_heldAmong 28 = .ok (.iload_n 2, 1) := by decide +kernel
theorem dX2_heldAmong_29 : decode cX2_heldAmong 29 = .ok (.invokestatic 31, 3) := by decide +kernel
theorem dX2_heldAmong_32 : decode cX2_heldAmong 32 = .ok (.iaload, 1) := by decide +kernel
theorem dX2_heldAmong_33 : decode cX2_heldAmong 33 = .ok (.iadd, 1) := by decide +kernel
theorem dX2_heldAmong_34 : decode cX2_heldAmong 34 = .ok (.istore_n 3, 1) := by decide +kernel
theorem dX2_heldAmong_35 : decode cX2_heldAmong 35 = .ok (.iinc 4 1, 3) := by decide +kernel
theorem dX2_heldAmong_38 : decode cX2_heldAmong 38 = .ok (.goto (-33), 3) := by decide +kernel
theorem dX2_heldAmong_41 : decode cX2_heldAmong 41 = .ok (.iload_n 3, 1) := by decide +kernel
theorem dX2_heldAmong_42 : decode cX2_heldAmong 42 = .ok (.ireturn, 1) := by decide +kernel
theorem dJ9_floorDiv_7cf53_0 : decode cJ9_floorDiv_7cf53 0 = .ok (.iload_n 0, 1) := by decide +kernel
theorem dJ9_floorDiv_7cf53_1 : decode cJ9_floorDiv_7cf53 1 = .ok (.iload_n 1, 1) := by decide +kernel
theorem dJ9_floorDiv_7cf53_2 : decode cJ9_floorDiv_7cf53 2 = .ok (.idiv, 1) := by decide +kernel
theorem dJ9_floorDiv_7cf53_3 : decode cJ9_floorDiv_7cf53 3 = .ok (.istore_n 2, 1) := by decide +kernel
theorem dJ9_floorDiv_7cf53_4 : decode cJ9_floorDiv_7cf53 4 = .ok (.iload_n 0, 1) := by decide +kernel
theorem dJ9_floorDiv_7cf53_5 : decode cJ9_floorDiv_7cf53 5 = .ok (.iload_n 1, 1) := by decide +kernel
theorem dJ9_floorDiv_7cf53_6 : decode cJ9_floorDiv_7cf53 6 = .ok (.ixor, 1) := by decide +kernel
theorem dJ9_floorDiv_7cf53_7 : decode cJ9_floorDiv_7cf53 7 = .ok (.ifCond .ge 14, 3) := by decide +kernel
theorem dJ9_floorDiv_7cf53_10 : decode cJ9_floorDiv_7cf53 10 = .ok (.iload_n 2, 1) := by decide +kernel
theorem dJ9_floorDiv_7cf53_11 : decode cJ9_floorDiv_7cf53 11 = .ok (.iload_n 1, 1) := by decide +kernel
theorem dJ9_floorDiv_7cf53_12 : decode cJ9_floorDiv_7cf53 12 = .ok (.imul, 1) := by decide +kernel
theorem dJ9_floorDiv_7cf53_13 : decode cJ9_floorDiv_7cf53 13 = .ok (.iload_n 0, 1) := by decide +kernel
theorem dJ9_floorDiv_7cf53_14 : decode cJ9_floorDiv_7cf53 14 = .ok (.if_icmp .eq 7, 3) := by decide +kernel
theorem dJ9_floorDiv_7cf53_17 : decode cJ9_floorDiv_7cf53 17 = .ok (.iload_n 2, 1) := by decide +kernel
theorem dJ9_floorDiv_7cf53_18 : decode cJ9_floorDiv_7cf53 18 = .ok (.iconst 1, 1) := by decide +kernel
theorem dJ9_floorDiv_7cf53_19 : decode cJ9_floorDiv_7cf53 19 = .ok (.isub, 1) := by decide +kernel
theorem dJ9_floorDiv_7cf53_20 : decode cJ9_floorDiv_7cf53 20 = .ok (.ireturn, 1) := by decide +kernel
theorem dJ9_floorDiv_7cf53_21 : decode cJ9_floorDiv_7cf53 21 = .ok (.iload_n 2, 1) := by decide +kernel
theorem dJ9_floorDiv_7cf53_22 : decode cJ9_floorDiv_7cf53 22 = .ok (.ireturn, 1) := by decide +kernel
theorem dJ9_floorDiv_f86c9_0 : decode cJ9_floorDiv_f86c9 0 = .ok (.lload_n 0, 1) := by decide +kernel
theorem dJ9_floorDiv_f86c9_1 : decode cJ9_floorDiv_f86c9 1 = .ok (.lload_n 2, 1) := by decide +kernel
theorem dJ9_floorDiv_f86c9_2 : decode cJ9_floorDiv_f86c9 2 = .ok (.ldiv, 1) := by decide +kernel
theorem dJ9_floorDiv_f86c9_3 : decode cJ9_floorDiv_f86c9 3 = .ok (.lstore 4, 2) := by decide +kernel
theorem dJ9_floorDiv_f86c9_5 : decode cJ9_floorDiv_f86c9 5 = .ok (.lload_n 0, 1) := by decide +kernel
theorem dJ9_floorDiv_f86c9_6 : decode cJ9_floorDiv_f86c9 6 = .ok (.lload_n 2, 1) := by decide +kernel
theorem dJ9_floorDiv_f86c9_7 : decode cJ9_floorDiv_f86c9 7 = .ok (.lxor, 1) := by decide +kernel
theorem dJ9_floorDiv_f86c9_8 : decode cJ9_floorDiv_f86c9 8 = .ok (.lconst 0, 1) := by decide +kernel
theorem dJ9_floorDiv_f86c9_9 : decode cJ9_floorDiv_f86c9 9 = .ok (.lcmp, 1) := by decide +kernel
theorem dJ9_floorDiv_f86c9_10 : decode cJ9_floorDiv_f86c9 10 = .ok (.ifCond .ge 17, 3) := by decide +kernel
theorem dJ9_floorDiv_f86c9_13 : decode cJ9_floorDiv_f86c9 13 = .ok (.lload 4, 2) := by decide +kernel
theorem dJ9_floorDiv_f86c9_15 : decode cJ9_floorDiv_f86c9 15 = .ok (.lload_n 2, 1) := by decide +kernel
theorem dJ9_floorDiv_f86c9_16 : decode cJ9_floorDiv_f86c9 16 = .ok (.lmul, 1) := by decide +kernel
theorem dJ9_floorDiv_f86c9_17 : decode cJ9_floorDiv_f86c9 17 = .ok (.lload_n 0, 1) := by decide +kernel
theorem dJ9_floorDiv_f86c9_18 : decode cJ9_floorDiv_f86c9 18 = .ok (.lcmp, 1) := by decide +kernel
theorem dJ9_floorDiv_f86c9_19 : decode cJ9_floorDiv_f86c9 19 = .ok (.ifCond .eq 8, 3) := by decide +kernel
theorem dJ9_floorDiv_f86c9_22 : decode cJ9_floorDiv_f86c9 22 = .ok (.lload 4, 2) := by decide +kernel
theorem dJ9_floorDiv_f86c9_24 : decode cJ9_floorDiv_f86c9 24 = .ok (.lconst 1, 1) := by decide +kernel
theorem dJ9_floorDiv_f86c9_25 : decode cJ9_floorDiv_f86c9 25 = .ok (.lsub, 1) := by decide +kernel
theorem dJ9_floorDiv_f86c9_26 : decode cJ9_floorDiv_f86c9 26 = .ok (.lreturn, 1) := by decide +kernel
theorem dJ9_floorDiv_f86c9_27 : decode cJ9_floorDiv_f86c9 27 = .ok (.lload 4, 2) := by decide +kernel
theorem dJ9_floorDiv_f86c9_29 : decode cJ9_floorDiv_f86c9 29 = .ok (.lreturn, 1) := by decide +kernel
theorem dJ9_min_7cf53_0 : decode cJ9_min_7cf53 0 = .ok (.iload_n 0, 1) := by decide +kernel
theorem dJ9_min_7cf53_1 : decode cJ9_min_7cf53 1 = .ok (.iload_n 1, 1) := by decide +kernel
theorem dJ9_min_7cf53_2 : decode cJ9_min_7cf53 2 = .ok (.if_icmp .gt 7, 3) := by decide +kernel
theorem dJ9_min_7cf53_5 : decode cJ9_min_7cf53 5 = .ok (.iload_n 0, 1) := by decide +kernel
theorem dJ9_min_7cf53_6 : decode cJ9_min_7cf53 6 = .ok (.goto 4, 3) := by decide +kernel
theorem dJ9_min_7cf53_9 : decode cJ9_min_7cf53 9 = .ok (.iload_n 1, 1) := by decide +kernel
theorem dJ9_min_7cf53_10 : decode cJ9_min_7cf53 10 = .ok (.ireturn, 1) := by decide +kernel
end
section
set_option maxRecDepth 20000 in
theorem ggX3_init_X2_init : GoodIn wsX3_init wsX2_init := goodIn_r _ [21, 22, 2, 3, 16, 23, 24, 25, 26, 27, 28, 29, 45, 46, 47, 48, 49, 50] (by decide +kernel) (by decide +kernel)
set_option maxRecDepth 20000 in
theorem gX3_init_X2_init_n9 : GoodIn wsX3_init (wsX2_init) := ggX3_init_X2_init
set_option maxRecDepth 20000 in
theorem ggX3_init_X1_init : GoodIn wsX3_init wsX1_init := goodIn_r _ [31, 32, 2, 3, 16, 33, 34, 35, 36, 37, 38, 39, 57, 58, 59, 60, 61, 62, 63] (by decide +kernel) (by decide +kernel)
set_option maxRecDepth 20000 in
theorem gX3_init_X1_init_n18 : GoodIn wsX3_init (wsX1_init) := ggX3_init_X1_init
set_option maxRecDepth 20000 in
theorem ggX3_init_X0_init : GoodIn wsX3_init wsX0_init := goodIn_r _ [41, 42, 2, 3, 16, 43, 44, 64, 65] (by decide +kernel) (by decide +kernel)
set_option maxRecDepth 20000 in
theorem gX3_init_X0_init_n25 : GoodIn wsX3_init (wsX0_init) := ggX3_init_X0_init
theorem dX3_init_0 : decode cX3_init 0 = .ok (.aload_n 0, 1) := by decide +kernel
theorem dX3_init_1 : decode cX3_init 1 = .ok (.invokespecial 1, 3) := by decide +kernel
theorem dX3_init_4 : decode cX3_init 4 = .ok (.aload_n 0, 1) := by decide +kernel
theorem dX3_init_5 : decode cX3_init 5 = .ok (.new 7, 3) := by decide +kernel
theorem dX3_init_8 : decode cX3_init 8 = .ok (.dup, 1) := by decide +kernel
theorem dX3_init_9 : decode cX3_init 9 = .ok (.invokespecial 9, 3) := by decide +kernel
theorem dX3_init_12 : decode cX3_init 12 = .ok (.putfield 10, 3) := by decide +kernel
theorem dX3_init_15 : decode cX3_init 15 = .ok (.aload_n 0, 1) := by decide +kernel
theorem dX3_init_16 : decode cX3_init 16 = .ok (.new 16, 3) := by decide +kernel
theorem dX3_init_19 : decode cX3_init 19 = .ok (.dup, 1) := by decide +kernel
theorem dX3_init_20 : decode cX3_init 20 = .ok (.invokespecial 18, 3) := by decide +kernel
theorem dX3_init_23 : decode cX3_init 23 = .ok (.putfield 19, 3) := by decide +kernel
theorem dX3_init_26 : decode cX3_init 26 = .ok (.aload_n 0, 1) := by decide +kernel
theorem dX3_init_27 : decode cX3_init 27 = .ok (.new 23, 3) := by decide +kernel
theorem dX3_init_30 : decode cX3_init 30 = .ok (.dup, 1) := by decide +kernel
theorem dX3_init_31 : decode cX3_init 31 = .ok (.invokespecial 25, 3) := by decide +kernel
theorem dX3_init_34 : decode cX3_init 34 = .ok (.putfield 26, 3) := by decide +kernel
theorem dX3_init_37 : decode cX3_init 37 = .ok (.aload_n 0, 1) := by decide +kernel
theorem dX3_init_38 : decode cX3_init 38 = .ok (.bipush 6, 2) := by decide +kernel
theorem dX3_init_40 : decode cX3_init 40 = .ok (.newarray .int, 2) := by decide +kernel
theorem dX3_init_42 : decode cX3_init 42 = .ok (.putfield 30, 3) := by decide +kernel
theorem dX3_init_45 : decode cX3_init 45 = .ok (.aload_n 0, 1) := by decide +kernel
theorem dX3_init_46 : decode cX3_init 46 = .ok (.bipush 12, 2) := by decide +kernel
theorem dX3_init_48 : decode cX3_init 48 = .ok (.newarray .int, 2) := by decide +kernel
theorem dX3_init_50 : decode cX3_init 50 = .ok (.putfield 34, 3) := by decide +kernel
theorem dX3_init_53 : decode cX3_init 53 = .ok (.aload_n 0, 1) := by decide +kernel
theorem dX3_init_54 : decode cX3_init 54 = .ok (.iconst 0, 1) := by decide +kernel
theorem dX3_init_55 : decode cX3_init 55 = .ok (.putfield 37, 3) := by decide +kernel
theorem dX3_init_58 : decode cX3_init 58 = .ok (.return_, 1) := by decide +kernel
set_option maxRecDepth 20000 in
theorem ggX3_hold_X3_requireTwoCompanies : GoodIn wsX3_hold wsX3_requireTwoCompanies := goodIn_ca (goodIn_r _ [5, 6, 7, 8, 9, 4, 10, 11, 12, 13] (by decide +kernel) (by decide +kernel)) (goodIn_sub (fun _ h => List.mem_cons_of_mem _ (List.mem_append_left _ (List.mem_append_right _ h))) (by decide +kernel))
set_option maxRecDepth 20000 in
theorem gX3_hold_X3_requireTwoCompanies : GoodIn wsX3_hold (va_wsS RX3 41 yX3_requireTwoCompanies wsX3_requireTwoCompanies) := goodIn_app (goodIn_of _ (by decide +kernel)) ggX3_hold_X3_requireTwoCompanies
set_option maxRecDepth 20000 in
theorem ggX3_hold_X3_requireRange : GoodIn wsX3_hold wsX3_requireRange := goodIn_ca (goodIn_r _ [13, 6, 7] (by decide +kernel) (by decide +kernel)) (goodIn_sub (fun _ h => List.mem_cons_of_mem _ (List.mem_append_left _ (List.mem_append_right _ h))) (by decide +kernel))
set_option maxRecDepth 20000 in
theorem gX3_hold_X3_requireRange : GoodIn wsX3_hold (va_wsS RX3 45 yX3_requireRange wsX3_requireRange) := goodIn_app (goodIn_of _ (by decide +kernel)) ggX3_hold_X3_requireRange
set_option maxRecDepth 20000 in
theorem ggX3_hold_X2_percentOf : GoodIn wsX3_hold wsX2_percentOf := goodIn_r _ [17, 18, 19, 4, 20, 66, 67, 68, 69, 70, 71] (by decide +kernel) (by decide +kernel)
set_option maxRecDepth 20000 in
theorem gX3_hold_X2_percentOf_n49 : GoodIn wsX3_hold (wsX2_percentOf) := ggX3_hold_X2_percentOf
set_option maxRecDepth 20000 in
theorem ggX3_hold_X2_take : GoodIn wsX3_hold wsX2_take := goodIn_r _ [23, 18, 19, 4, 20, 24, 25, 26, 15, 27, 28, 29, 30, 31, 32, 33, 34, 35, 36, 37, 38, 39, 40, 41, 42, 43, 44, 45, 46, 47, 48, 49, 50, 51, 52, 53, 54, 66, 67, 68, 69, 70, 71] (by decide +kernel) (by decide +kernel)
set_option maxRecDepth 20000 in
theorem gX3_hold_X2_take_n53 : GoodIn wsX3_hold (wsX2_take) := ggX3_hold_X2_take
set_option maxRecDepth 20000 in
theorem ggX3_hold_X3_requireTaken : GoodIn wsX3_hold wsX3_requireTaken := goodIn_ca (goodIn_r _ [57, 58, 59] (by decide +kernel) (by decide +kernel)) (goodIn_sub (fun _ h => List.mem_cons_of_mem _ (List.mem_append_right _ h)) (by decide +kernel))
set_option maxRecDepth 20000 in
theorem gX3_hold_X3_requireTaken : GoodIn wsX3_hold (va_wsS RX3 57 yX3_requireTaken wsX3_requireTaken) := goodIn_app (goodIn_of _ (by decide +kernel)) ggX3_hold_X3_requireTaken
theorem dX3_hold_0 : decode cX3_hold 0 = .ok (.iload_n 1, 1) := by decide +kernel
theorem dX3_hold_1 : decode cX3_hold 1 = .ok (.iload_n 2, 1) := by decide +kernel
theorem dX3_hold_2 : decode cX3_hold 2 = .ok (.invokestatic 41, 3) := by decide +kernel
theorem dX3_hold_5 : decode cX3_hold 5 = .ok (.iload_n 3, 1) := by decide +kernel
theorem dX3_hold_6 : decode cX3_hold 6 = .ok (.iconst 0, 1) := by decide +kernel
theorem dX3_hold_7 : decode cX3_hold 7 = .ok (.bipush 100, 2) := by decide +kernel
theorem dX3_hold_9 : decode cX3_hold 9 = .ok (.invokestatic 45, 3) := by decide +kernel
theorem dX3_hold_12 : decode cX3_hold 12 = .ok (.aload_n 0, 1) := by decide +kernel
theorem dX3_hold_13 : decode cX3_hold 13 = .ok (.getfield 10, 3) := by decide +kernel
theorem dX3_hold_16 : decode cX3_hold 16 = .ok (.iload_n 1, 1) := by decide +kernel
theorem dX3_hold_17 : decode cX3_hold 17 = .ok (.iload_n 2, 1) := by decide +kernel
theorem dX3_hold_18 : decode cX3_hold 18 = .ok (.invokevirtual 49, 3) := by decide +kernel
theorem dX3_hold_21 : decode cX3_hold 21 = .ok (.istore 4, 2) := by decide +kernel
theorem dX3_hold_23 : decode cX3_hold 23 = .ok (.aload_n 0, 1) := by decide +kernel
theorem dX3_hold_24 : decode cX3_hold 24 = .ok (.getfield 10, 3) := by decide +kernel
theorem dX3_hold_27 : decode cX3_hold 27 = .ok (.iload_n 1, 1) := by decide +kernel
theorem dX3_hold_28 : decode cX3_hold 28 = .ok (.iload_n 2, 1) := by decide +kernel
theorem dX3_hold_29 : decode cX3_hold 29 = .ok (.iload_n 3, 1) := by decide +kernel
theorem dX3_hold_30 : decode cX3_hold 30 = .ok (.invokevirtual 53, 3) := by decide +kernel
theorem dX3_hold_33 : decode cX3_hold 33 = .ok (.invokestatic 57, 3) := by decide +kernel
theorem dX3_hold_36 : decode cX3_hold 36 = .ok (.iload 4, 2) := by decide +kernel
theorem dX3_hold_38 : decode cX3_hold 38 = .ok (.ireturn, 1) := by decide +kernel
set_option maxRecDepth 20000 in
theorem ggX3_acquire_X3_requireTwoCompanies : GoodIn wsX3_acquire wsX3_requireTwoCompanies := goodIn_ca (goodIn_r _ [8, 9, 10, 11, 12, 7, 13, 14, 15, 16] (by decide +kernel) (by decide +kernel)) (goodIn_sub (fun _ h => List.mem_cons_of_mem _ (List.mem_append_left _ (List.mem_append_right _ h))) (by decide +kernel))
set_option maxRecDepth 20000 in
theorem gX3_acquire_X3_requireTwoCompanies : GoodIn wsX3_acquire (va_wsS RX3 41 yX3_requireTwoCompanies wsX3_requireTwoCompanies) := goodIn_app (goodIn_of _ (by decide +kernel)) ggX3_acquire_X3_requireTwoCompanies
set_option maxRecDepth 20000 in
theorem ggX3_acquire_X3_requireRange : GoodIn wsX3_acquire wsX3_requireRange := goodIn_ca (goodIn_r _ [16, 9, 10] (by decide +kernel) (by decide +kernel)) (goodIn_sub (fun _ h => List.mem_cons_of_mem _ (List.mem_append_left _ (List.mem_append_right _ h))) (by decide +kernel))
set_option maxRecDepth 20000 in
theorem gX3_acquire_X3_requireRange : GoodIn wsX3_acquire (va_wsS RX3 45 yX3_requireRange wsX3_requireRange) := goodIn_app (goodIn_of _ (by decide +kernel)) ggX3_acquire_X3_requireRange
set_option maxRecDepth 20000 in
theorem ggX3_acquire_X2_percentOf : GoodIn wsX3_acquire wsX2_percentOf := goodIn_r _ [20, 21, 22, 7, 23, 92, 93, 94, 95, 96, 97] (by decide +kernel) (by decide +kernel)
set_option maxRecDepth 20000 in
theorem gX3_acquire_X2_percentOf_n49 : GoodIn wsX3_acquire (wsX2_percentOf) := ggX3_acquire_X2_percentOf
set_option maxRecDepth 20000 in
theorem ggX3_acquire_X2_take : GoodIn wsX3_acquire wsX2_take := goodIn_r _ [26, 21, 22, 7, 23, 27, 28, 29, 18, 30, 31, 32, 33, 34, 35, 36, 37, 38, 39, 40, 41, 42, 43, 44, 45, 46, 47, 48, 49, 50, 51, 52, 53, 54, 55, 56, 57, 92, 93, 94, 95, 96, 97] (by decide +kernel) (by decide +kernel)
set_option maxRecDepth 20000 in
theorem gX3_acquire_X2_take_n53 : GoodIn wsX3_acquire (wsX2_take) := ggX3_acquire_X2_take
set_option maxRecDepth 20000 in
theorem ggX3_acquire_X3_requireTaken : GoodIn wsX3_acquire wsX3_requireTaken := goodIn_ca (goodIn_r _ [60, 61, 62] (by decide +kernel) (by decide +kernel)) (goodIn_sub (fun _ h => List.mem_cons_of_mem _ (List.mem_append_right _ h)) (by decide +kernel))
set_option maxRecDepth 20000 in
theorem gX3_acquire_X3_requireTaken : GoodIn wsX3_acquire (va_wsS RX3 57 yX3_requireTaken wsX3_requireTaken) := goodIn_app (goodIn_of _ (by decide +kernel)) ggX3_acquire_X3_requireTaken
set_option maxRecDepth 20000 in
theorem ggX3_acquire_X1_netOf : GoodIn wsX3_acquire wsX1_netOf := goodIn_r _ [66, 67, 68, 69, 64, 70, 71, 72, 73, 74, 75, 76, 77, 78, 79, 80, 81, 82, 83, 84, 98, 99, 100, 101, 102, 103, 104] (by decide +kernel) (by decide +kernel)
set_option maxRecDepth 20000 in
theorem gX3_acquire_X1_netOf_n62 : GoodIn wsX3_acquire (wsX1_netOf) := ggX3_acquire_X1_netOf
set_option maxRecDepth 20000 in
theorem ggX3_acquire_J9_floorDiv_7cf53 : GoodIn wsX3_acquire wsJ9_floorDiv_7cf53 := goodIn_r _ [79] (by decide +kernel) (by decide +kernel)
set_option maxRecDepth 20000 in
theorem gX3_acquire_J9_floorDiv_7cf53 : GoodIn wsX3_acquire (va_wsS RX3 66 yJ9_floorDiv_7cf53 wsJ9_floorDiv_7cf53) := goodIn_app (goodIn_of _ (by decide +kernel)) ggX3_acquire_J9_floorDiv_7cf53
theorem dX3_acquire_0 : decode cX3_acquire 0 = .ok (.iload_n 1, 1) := by decide +kernel
theorem dX3_acquire_1 : decode cX3_acquire 1 = .ok (.iload_n 2, 1) := by decide +kernel
theorem dX3_acquire_2 : decode cX3_acquire 2 = .ok (.invokestatic 41, 3) := by decide +kernel
theorem dX3_acquire_5 : decode cX3_acquire 5 = .ok (.iload_n 3, 1) := by decide +kernel
theorem dX3_acquire_6 : decode cX3_acquire 6 = .ok (.iconst 1, 1) := by decide +kernel
theorem dX3_acquire_7 : decode cX3_acquire 7 = .ok (.bipush 100, 2) := by decide +kernel
theorem dX3_acquire_9 : decode cX3_acquire 9 = .ok (.invokestatic 45, 3) := by decide +kernel
theorem dX3_acquire_12 : decode cX3_acquire 12 = .ok (.iload 4, 2) := by decide +kernel
theorem dX3_acquire_14 : decode cX3_acquire 14 = .ok (.iconst 0, 1) := by decide +kernel
theorem dX3_acquire_15 : decode cX3_acquire 15 = .ok (.ldc 61, 2) := by decide +kernel
theorem dX3_acquire_17 : decode cX3_acquire 17 = .ok (.invokestatic 45, 3) := by decide +kernel
theorem dX3_acquire_20 : decode cX3_acquire 20 = .ok (.aload_n 0, 1) := by decide +kernel
theorem dX3_acquire_21 : decode cX3_acquire 21 = .ok (.getfield 10, 3) := by decide +kernel
theorem dX3_acquire_24 : decode cX3_acquire 24 = .ok (.iload_n 1, 1) := by decide +kernel
theorem dX3_acquire_25 : decode cX3_acquire 25 = .ok (.iload_n 2, 1) := by decide +kernel
theorem dX3_acquire_26 : decode cX3_acquire 26 = .ok (.invokevirtual 49, 3) := by decide +kernel
theorem dX3_acquire_29 : decode cX3_acquire 29 = .ok (.iload_n 3, 1) := by decide +kernel
theorem dX3_acquire_30 : decode cX3_acquire 30 = .ok (.iadd, 1) := by decide +kernel
theorem dX3_acquire_31 : decode cX3_acquire 31 = .ok (.istore 5, 2) := by decide +kernel
theorem dX3_acquire_33 : decode cX3_acquire 33 = .ok (.aload_n 0, 1) := by decide +kernel
theorem dX3_acquire_34 : decode cX3_acquire 34 = .ok (.getfield 10, 3) := by decide +kernel
theorem dX3_acquire_37 : decode cX3_acquire 37 = .ok (.iload_n 1, 1) := by decide +kernel
theorem dX3_acquire_38 : decode cX3_acquire 38 = .ok (.iload_n 2, 1) := by decide +kernel
theorem dX3_acquire_39 : decode cX3_acquire 39 = .ok (.iload 5, 2) := by decide +kernel
theorem dX3_acquire_41 : decode cX3_acquire 41 = .ok (.invokevirtual 53, 3) := by decide +kernel
theorem dX3_acquire_44 : decode cX3_acquire 44 = .ok (.invokestatic 57, 3) := by decide +kernel
theorem dX3_acquire_47 : decode cX3_acquire 47 = .ok (.aload_n 0, 1) := by decide +kernel
theorem dX3_acquire_48 : decode cX3_acquire 48 = .ok (.getfield 30, 3) := by decide +kernel
theorem dX3_acquire_51 : decode cX3_acquire 51 = .ok (.iload_n 2, 1) := by decide +kernel
theorem dX3_acquire_52 : decode cX3_acquire 52 = .ok (.dup2, 1) := by decide +kernel
theorem dX3_acquire_53 : decode cX3_acquire 53 = .ok (.iaload, 1) := by decide +kernel
theorem dX3_acquire_54 : decode cX3_acquire 54 = .ok (.iload 4, 2) := by decide +kernel
theorem dX3_acquire_56 : decode cX3_acquire 56 = .ok (.iload_n 3, 1) := by decide +kernel
theorem dX3_acquire_57 : decode cX3_acquire 57 = .ok (.aload_n 0, 1) := by decide +kernel
theorem dX3_acquire_58 : decode cX3_acquire 58 = .ok (.getfield 19, 3) := by decide +kernel
theorem dX3_acquire_61 : decode cX3_acquire 61 = .ok (.iload_n 2, 1) := by decide +kernel
theorem dX3_acquire_62 : decode cX3_acquire 62 = .ok (.invokevirtual 62, 3) := by decide +kernel
theorem dX3_acquire_65 : decode cX3_acquire 65 = .ok (.imul, 1) := by decide +kernel
theorem dX3_acquire_66 : decode cX3_acquire 66 = .ok (.bipush 100, 2) := by decide +kernel
theorem dX3_acquire_68 : decode cX3_acquire 68 = .ok (.invokestatic 66, 3) := by decide +kernel
theorem dX3_acquire_71 : decode cX3_acquire 71 = .ok (.isub, 1) := by decide +kernel
theorem dX3_acquire_72 : decode cX3_acquire 72 = .ok (.iadd, 1) := by decide +kernel
theorem dX3_acquire_73 : decode cX3_acquire 73 = .ok (.iastore, 1) := by decide +kernel
theorem dX3_acquire_74 : decode cX3_acquire 74 = .ok (.iload 5, 2) := by decide +kernel
theorem dX3_acquire_76 : decode cX3_acquire 76 = .ok (.ireturn, 1) := by decide +kernel
set_option maxRecDepth 20000 in
theorem ggX3_held_X3_requireCompany : GoodIn wsX3_held wsX3_requireCompany := goodIn_ca (goodIn_r _ [5, 6, 7, 4, 8, 9, 10] (by decide +kernel) (by decide +kernel)) (goodIn_sub (fun _ h => List.mem_cons_of_mem _ (List.mem_append_right _ h)) (by decide +kernel))
set_option maxRecDepth 20000 in
theorem gX3_held_X3_requireCompany : GoodIn wsX3_held (va_wsS RX3 71 yX3_requireCompany wsX3_requireCompany) := goodIn_app (goodIn_of _ (by decide +kernel)) ggX3_held_X3_requireCompany
set_option maxRecDepth 20000 in
theorem ggX3_held_X2_percentOf : GoodIn wsX3_held wsX2_percentOf := goodIn_r _ [14, 15, 16, 4, 17, 24, 25, 26, 27, 28, 29] (by decide +kernel) (by decide +kernel)
set_option maxRecDepth 20000 in
theorem gX3_held_X2_percentOf_n49 : GoodIn wsX3_held (wsX2_percentOf) := ggX3_held_X2_percentOf
theorem dX3_held_0 : decode cX3_held 0 = .ok (.iload_n 1, 1) := by decide +kernel
theorem dX3_held_1 : decode cX3_held 1 = .ok (.invokestatic 71, 3) := by decide +kernel
theorem dX3_held_4 : decode cX3_held 4 = .ok (.iload_n 2, 1) := by decide +kernel
theorem dX3_held_5 : decode cX3_held 5 = .ok (.invokestatic 71, 3) := by decide +kernel
theorem dX3_held_8 : decode cX3_held 8 = .ok (.aload_n 0, 1) := by decide +kernel
theorem dX3_held_9 : decode cX3_held 9 = .ok (.getfield 10, 3) := by decide +kernel
theorem dX3_held_12 : decode cX3_held 12 = .ok (.iload_n 1, 1) := by decide +kernel
theorem dX3_held_13 : decode cX3_held 13 = .ok (.iload_n 2, 1) := by decide +kernel
theorem dX3_held_14 : decode cX3_held 14 = .ok (.invokevirtual 49, 3) := by decide +kernel
theorem dX3_held_17 : decode cX3_held 17 = .ok (.ireturn, 1) := by decide +kernel
set_option maxRecDepth 20000 in
theorem ggX3_shareNumerator_X3_requireCompany : GoodIn wsX3_shareNumerator wsX3_requireCompany := goodIn_ca (goodIn_r _ [5, 6, 7, 4, 8, 9, 10] (by decide +kernel) (by decide +kernel)) (goodIn_sub (fun _ h => List.mem_cons_of_mem _ (List.mem_append_right _ h)) (by decide +kernel))
set_option maxRecDepth 20000 in
theorem gX3_shareNumerator_X3_requireCompany : GoodIn wsX3_shareNumerator (va_wsS RX3 71 yX3_requireCompany wsX3_requireCompany) := goodIn_app (goodIn_of _ (by decide +kernel)) ggX3_shareNumerator_X3_requireCompany
set_option maxRecDepth 20000 in
theorem ggX3_shareNumerator_X2_numeratorOf : GoodIn wsX3_shareNumerator wsX2_numeratorOf := goodIn_r _ [14, 15, 22, 23, 24, 25, 26, 27] (by decide +kernel) (by decide +kernel)
set_option maxRecDepth 20000 in
theorem gX3_shareNumerator_X2_numeratorOf_n75 : GoodIn wsX3_shareNumerator (wsX2_numeratorOf) := ggX3_shareNumerator_X2_numeratorOf
theorem dX3_shareNumerator_0 : decode cX3_shareNumerator 0 = .ok (.iload_n 1, 1) := by decide +kernel
theorem dX3_shareNumerator_1 : decode cX3_shareNumerator 1 = .ok (.invokestatic 71, 3) := by decide +kernel
theorem dX3_shareNumerator_4 : decode cX3_shareNumerator 4 = .ok (.aload_n 0, 1) := by decide +kernel
theorem dX3_shareNumerator_5 : decode cX3_shareNumerator 5 = .ok (.getfield 10, 3) := by decide +kernel
theorem dX3_shareNumerator_8 : decode cX3_shareNumerator 8 = .ok (.iload_n 1, 1) := by decide +kernel
theorem dX3_shareNumerator_9 : decode cX3_shareNumerator 9 = .ok (.invokevirtual 75, 3) := by decide +kernel
theorem dX3_shareNumerator_12 : decode cX3_shareNumerator 12 = .ok (.lreturn, 1) := by decide +kernel
set_option maxRecDepth 20000 in
theorem ggX3_shareDenominator_X3_requireCompany : GoodIn wsX3_shareDenominator wsX3_requireCompany := goodIn_ca (goodIn_r _ [5, 6, 7, 4, 8, 9, 10] (by decide +kernel) (by decide +kernel)) (goodIn_sub (fun _ h => List.mem_cons_of_mem _ (List.mem_append_right _ h)) (by decide +kernel))
set_option maxRecDepth 20000 in
theorem gX3_shareDenominator_X3_requireCompany : GoodIn wsX3_shareDenominator (va_wsS RX3 71 yX3_requireCompany wsX3_requireCompany) := goodIn_app (goodIn_of _ (by decide +kernel)) ggX3_shareDenominator_X3_requireCompany
set_option maxRecDepth 20000 in
theorem ggX3_shareDenominator_X2_denominatorOf : GoodIn wsX3_shareDenominator wsX2_denominatorOf := goodIn_r _ [14, 15, 22, 23, 24, 25, 26, 27] (by decide +kernel) (by decide +kernel)
set_option maxRecDepth 20000 in
theorem gX3_shareDenominator_X2_denominatorOf_n79 : GoodIn wsX3_shareDenominator (wsX2_denominatorOf) := ggX3_shareDenominator_X2_denominatorOf
theorem dX3_shareDenominator_0 : decode cX3_shareDenominator 0 = .ok (.iload_n 1, 1) := by decide +kernel
theorem dX3_shareDenominator_1 : decode cX3_shareDenominator 1 = .ok (.invokestatic 71, 3) := by decide +kernel
theorem dX3_shareDenominator_4 : decode cX3_shareDenominator 4 = .ok (.aload_n 0, 1) := by decide +kernel
theorem dX3_shareDenominator_5 : decode cX3_shareDenominator 5 = .ok (.getfield 10, 3) := by decide +kernel
theorem dX3_shareDenominator_8 : decode cX3_shareDenominator 8 = .ok (.iload_n 1, 1) := by decide +kernel
theorem dX3_shareDenominator_9 : decode cX3_shareDenominator 9 = .ok (.invokevirtual 79, 3) := by decide +kernel
theorem dX3_shareDenominator_12 : decode cX3_shareDenominator 12 = .ok (.lreturn, 1) := by decide +kernel
set_option maxRecDepth 20000 in
theorem ggX3_shareByRounds_X3_requireCompany : GoodIn wsX3_shareByRounds wsX3_requireCompany := goodIn_ca (goodIn_r _ [5, 6, 7, 4, 8, 9, 10] (by decide +kernel) (by decide +kernel)) (goodIn_sub (fun _ h => List.mem_cons_of_mem _ (List.mem_append_right _ h)) (by decide +kernel))
set_option maxRecDepth 20000 in
theorem gX3_shareByRounds_X3_requireCompany : GoodIn wsX3_shareByRounds (va_wsS RX3 71 yX3_requireCompany wsX3_requireCompany) := goodIn_app (goodIn_of _ (by decide +kernel)) ggX3_shareByRounds_X3_requireCompany
set_option maxRecDepth 20000 in
theorem ggX3_shareByRounds_X3_requireRange : GoodIn wsX3_shareByRounds wsX3_requireRange := goodIn_ca (goodIn_r _ [8, 9, 10] (by decide +kernel) (by decide +kernel)) (goodIn_sub (fun _ h => List.mem_cons_of_mem _ (List.mem_append_right _ h)) (by decide +kernel))
set_option maxRecDepth 20000 in
theorem gX3_shareByRounds_X3_requireRange : GoodIn wsX3_shareByRounds (va_wsS RX3 45 yX3_requireRange wsX3_requireRange) := goodIn_app (goodIn_of _ (by decide +kernel)) ggX3_shareByRounds_X3_requireRange
set_option maxRecDepth 20000 in
theorem ggX3_shareByRounds_X2_millionthsAfter : GoodIn wsX3_shareByRounds wsX2_millionthsAfter := goodIn_r _ [14, 15, 16, 17, 18, 19, 12, 20, 21, 22, 23, 4, 24, 31, 32, 33, 34, 35, 36] (by decide +kernel) (by decide +kernel)
set_option maxRecDepth 20000 in
theorem gX3_shareByRounds_X2_millionthsAfter_n82 : GoodIn wsX3_shareByRounds (wsX2_millionthsAfter) := ggX3_shareByRounds_X2_millionthsAfter
theorem dX3_shareByRounds_0 : decode cX3_shareByRounds 0 = .ok (.iload_n 1, 1) := by decide +kernel
theorem dX3_shareByRounds_1 : decode cX3_shareByRounds 1 = .ok (.invokestatic 71, 3) := by decide +kernel
theorem dX3_shareByRounds_4 : decode cX3_shareByRounds 4 = .ok (.iload_n 2, 1) := by decide +kernel
theorem dX3_shareByRounds_5 : decode cX3_shareByRounds 5 = .ok (.iconst 0, 1) := by decide +kernel
theorem dX3_shareByRounds_6 : decode cX3_shareByRounds 6 = .ok (.sipush 200, 3) := by decide +kernel
theorem dX3_shareByRounds_9 : decode cX3_shareByRounds 9 = .ok (.invokestatic 45, 3) := by decide +kernel
theorem dX3_shareByRounds_12 : decode cX3_shareByRounds 12 = .ok (.aload_n 0, 1) := by decide +kernel
theorem dX3_shareByRounds_13 : decode cX3_shareByRounds 13 = .ok (.getfield 10, 3) := by decide +kernel
theorem dX3_shareByRounds_16 : decode cX3_shareByRounds 16 = .ok (.iload_n 2, 1) := by decide +kernel
theorem dX3_shareByRounds_17 : decode cX3_shareByRounds 17 = .ok (.iload_n 1, 1) := by decide +kernel
theorem dX3_shareByRounds_18 : decode cX3_shareByRounds 18 = .ok (.invokevirtual 82, 3) := by decide +kernel
theorem dX3_shareByRounds_21 : decode cX3_shareByRounds 21 = .ok (.ireturn, 1) := by decide +kernel
set_option maxRecDepth 20000 in
theorem ggX3_group_X2_members : GoodIn wsX3_group wsX2_members := goodIn_r _ [5, 6, 7, 8, 3, 9, 10, 11, 12, 13, 14, 15, 16, 17, 18, 19, 26, 27, 28, 29, 30, 31] (by decide +kernel) (by decide +kernel)
set_option maxRecDepth 20000 in
theorem gX3_group_X2_members_n85 : GoodIn wsX3_group (wsX2_members) := ggX3_group_X2_members
theorem dX3_group_0 : decode cX3_group 0 = .ok (.aload_n 0, 1) := by decide +kernel
theorem dX3_group_1 : decode cX3_group 1 = .ok (.getfield 10, 3) := by decide +kernel
theorem dX3_group_4 : decode cX3_group 4 = .ok (.invokevirtual 85, 3) := by decide +kernel
theorem dX3_group_7 : decode cX3_group 7 = .ok (.ireturn, 1) := by decide +kernel
set_option maxRecDepth 20000 in
theorem ggX3_goodwill_X3_requireCompany : GoodIn wsX3_goodwill wsX3_requireCompany := goodIn_ca (goodIn_r _ [5, 6, 7, 4, 8, 9, 10] (by decide +kernel) (by decide +kernel)) (goodIn_sub (fun _ h => List.mem_cons_of_mem _ (List.mem_append_right _ h)) (by decide +kernel))
set_option maxRecDepth 20000 in
theorem gX3_goodwill_X3_requireCompany : GoodIn wsX3_goodwill (va_wsS RX3 71 yX3_requireCompany wsX3_requireCompany) := goodIn_app (goodIn_of _ (by decide +kernel)) ggX3_goodwill_X3_requireCompany
theorem dX3_goodwill_0 : decode cX3_goodwill 0 = .ok (.iload_n 1, 1) := by decide +kernel
theorem dX3_goodwill_1 : decode cX3_goodwill 1 = .ok (.invokestatic 71, 3) := by decide +kernel
theorem dX3_goodwill_4 : decode cX3_goodwill 4 = .ok (.aload_n 0, 1) := by decide +kernel
theorem dX3_goodwill_5 : decode cX3_goodwill 5 = .ok (.getfield 30, 3) := by decide +kernel
theorem dX3_goodwill_8 : decode cX3_goodwill 8 = .ok (.iload_n 1, 1) := by decide +kernel
theorem dX3_goodwill_9 : decode cX3_goodwill 9 = .ok (.iaload, 1) := by decide +kernel
theorem dX3_goodwill_10 : decode cX3_goodwill 10 = .ok (.ireturn, 1) := by decide +kernel
set_option maxRecDepth 20000 in
theorem ggX3_setBooks_X3_requireCompany : GoodIn wsX3_setBooks wsX3_requireCompany := goodIn_ca (goodIn_r _ [7, 8, 9, 6, 10, 11, 12] (by decide +kernel) (by decide +kernel)) (goodIn_sub (fun _ h => List.mem_cons_of_mem _ (List.mem_append_right _ h)) (by decide +kernel))
set_option maxRecDepth 20000 in
theorem gX3_setBooks_X3_requireCompany : GoodIn wsX3_setBooks (va_wsS RX3 71 yX3_requireCompany wsX3_requireCompany) := goodIn_app (goodIn_of _ (by decide +kernel)) ggX3_setBooks_X3_requireCompany
set_option maxRecDepth 20000 in
theorem ggX3_setBooks_X3_requireRange : GoodIn wsX3_setBooks wsX3_requireRange := goodIn_ca (goodIn_r _ [10, 11, 12] (by decide +kernel) (by decide +kernel)) (goodIn_sub (fun _ h => List.mem_cons_of_mem _ (List.mem_append_right _ h)) (by decide +kernel))
set_option maxRecDepth 20000 in
theorem gX3_setBooks_X3_requireRange : GoodIn wsX3_setBooks (va_wsS RX3 45 yX3_requireRange wsX3_requireRange) := goodIn_app (goodIn_of _ (by decide +kernel)) ggX3_setBooks_X3_requireRange
set_option maxRecDepth 20000 in
theorem ggX3_setBooks_X3_requireBalance : GoodIn wsX3_setBooks wsX3_requireBalance := goodIn_ca (goodIn_r _ [15, 11, 12] (by decide +kernel) (by decide +kernel)) (goodIn_sub (fun _ h => List.mem_cons_of_mem _ (List.mem_append_right _ h)) (by decide +kernel))
set_option maxRecDepth 20000 in
theorem gX3_setBooks_X3_requireBalance : GoodIn wsX3_setBooks (va_wsS RX3 90 yX3_requireBalance wsX3_requireBalance) := goodIn_app (goodIn_of _ (by decide +kernel)) ggX3_setBooks_X3_requireBalance
set_option maxRecDepth 20000 in
theorem ggX3_setBooks_X1_enter : GoodIn wsX3_setBooks wsX1_enter := goodIn_r _ [19, 20, 21, 22, 23, 30, 31, 32, 33, 34, 35, 36] (by decide +kernel) (by decide +kernel)
set_option maxRecDepth 20000 in
theorem gX3_setBooks_X1_enter_n93 : GoodIn wsX3_setBooks (wsX1_enter) := ggX3_setBooks_X1_enter
theorem dX3_setBooks_0 : decode cX3_setBooks 0 = .ok (.iload_n 1, 1) := by decide +kernel
theorem dX3_setBooks_1 : decode cX3_setBooks 1 = .ok (.invokestatic 71, 3) := by decide +kernel
theorem dX3_setBooks_4 : decode cX3_setBooks 4 = .ok (.iload_n 2, 1) := by decide +kernel
theorem dX3_setBooks_5 : decode cX3_setBooks 5 = .ok (.iconst 0, 1) := by decide +kernel
theorem dX3_setBooks_6 : decode cX3_setBooks 6 = .ok (.ldc 61, 2) := by decide +kernel
theorem dX3_setBooks_8 : decode cX3_setBooks 8 = .ok (.invokestatic 45, 3) := by decide +kernel
theorem dX3_setBooks_11 : decode cX3_setBooks 11 = .ok (.iload_n 3, 1) := by decide +kernel
theorem dX3_setBooks_12 : decode cX3_setBooks 12 = .ok (.iconst 0, 1) := by decide +kernel
theorem dX3_setBooks_13 : decode cX3_setBooks 13 = .ok (.ldc 61, 2) := by decide +kernel
theorem dX3_setBooks_15 : decode cX3_setBooks 15 = .ok (.invokestatic 45, 3) := by decide +kernel
theorem dX3_setBooks_18 : decode cX3_setBooks 18 = .ok (.iload 4, 2) := by decide +kernel
theorem dX3_setBooks_20 : decode cX3_setBooks 20 = .ok (.ldc 89, 2) := by decide +kernel
theorem dX3_setBooks_22 : decode cX3_setBooks 22 = .ok (.ldc 61, 2) := by decide +kernel
theorem dX3_setBooks_24 : decode cX3_setBooks 24 = .ok (.invokestatic 45, 3) := by decide +kernel
theorem dX3_setBooks_27 : decode cX3_setBooks 27 = .ok (.iload 5, 2) := by decide +kernel
theorem dX3_setBooks_29 : decode cX3_setBooks 29 = .ok (.ldc 89, 2) := by decide +kernel
theorem dX3_setBooks_31 : decode cX3_setBooks 31 = .ok (.ldc 61, 2) := by decide +kernel
theorem dX3_setBooks_33 : decode cX3_setBooks 33 = .ok (.invokestatic 45, 3) := by decide +kernel
theorem dX3_setBooks_36 : decode cX3_setBooks 36 = .ok (.iload_n 2, 1) := by decide +kernel
theorem dX3_setBooks_37 : decode cX3_setBooks 37 = .ok (.iload_n 3, 1) := by decide +kernel
theorem dX3_setBooks_38 : decode cX3_setBooks 38 = .ok (.iload 4, 2) := by decide +kernel
theorem dX3_setBooks_40 : decode cX3_setBooks 40 = .ok (.iadd, 1) := by decide +kernel
theorem dX3_setBooks_41 : decode cX3_setBooks 41 = .ok (.iload 5, 2) := by decide +kernel
theorem dX3_setBooks_43 : decode cX3_setBooks 43 = .ok (.iadd, 1) := by decide +kernel
theorem dX3_setBooks_44 : decode cX3_setBooks 44 = .ok (.invokestatic 90, 3) := by decide +kernel
theorem dX3_setBooks_47 : decode cX3_setBooks 47 = .ok (.aload_n 0, 1) := by decide +kernel
theorem dX3_setBooks_48 : decode cX3_setBooks 48 = .ok (.getfield 19, 3) := by decide +kernel
theorem dX3_setBooks_51 : decode cX3_setBooks 51 = .ok (.iload_n 1, 1) := by decide +kernel
theorem dX3_setBooks_52 : decode cX3_setBooks 52 = .ok (.iload_n 2, 1) := by decide +kernel
theorem dX3_setBooks_53 : decode cX3_setBooks 53 = .ok (.iload_n 3, 1) := by decide +kernel
theorem dX3_setBooks_54 : decode cX3_setBooks 54 = .ok (.iload 4, 2) := by decide +kernel
theorem dX3_setBooks_56 : decode cX3_setBooks 56 = .ok (.iload 5, 2) := by decide +kernel
theorem dX3_setBooks_58 : decode cX3_setBooks 58 = .ok (.invokevirtual 93, 3) := by decide +kernel
theorem dX3_setBooks_61 : decode cX3_setBooks 61 = .ok (.return_, 1) := by decide +kernel
set_option maxRecDepth 20000 in
theorem ggX3_setRates_X3_requireCompany : GoodIn wsX3_setRates wsX3_requireCompany := goodIn_ca (goodIn_r _ [5, 6, 7, 4, 8, 9, 10] (by decide +kernel) (by decide +kernel)) (goodIn_sub (fun _ h => List.mem_cons_of_mem _ (List.mem_append_right _ h)) (by decide +kernel))
set_option maxRecDepth 20000 in
theorem gX3_setRates_X3_requireCompany : GoodIn wsX3_setRates (va_wsS RX3 71 yX3_requireCompany wsX3_requireCompany) := goodIn_app (goodIn_of _ (by decide +kernel)) ggX3_setRates_X3_requireCompany
set_option maxRecDepth 20000 in
theorem ggX3_setRates_X3_requireRange : GoodIn wsX3_setRates wsX3_requireRange := goodIn_ca (goodIn_r _ [8, 9, 10] (by decide +kernel) (by decide +kernel)) (goodIn_sub (fun _ h => List.mem_cons_of_mem _ (List.mem_append_right _ h)) (by decide +kernel))
set_option maxRecDepth 20000 in
theorem gX3_setRates_X3_requireRange : GoodIn wsX3_setRates (va_wsS RX3 45 yX3_requireRange wsX3_requireRange) := goodIn_app (goodIn_of _ (by decide +kernel)) ggX3_setRates_X3_requireRange
set_option maxRecDepth 20000 in
theorem ggX3_setRates_X1_enterRates : GoodIn wsX3_setRates wsX1_enterRates := goodIn_r _ [14, 15, 16, 17, 24, 25, 26, 27, 28, 29, 30] (by decide +kernel) (by decide +kernel)
set_option maxRecDepth 20000 in
theorem gX3_setRates_X1_enterRates_n97 : GoodIn wsX3_setRates (wsX1_enterRates) := ggX3_setRates_X1_enterRates
theorem dX3_setRates_0 : decode cX3_setRates 0 = .ok (.iload_n 1, 1) := by decide +kernel
theorem dX3_setRates_1 : decode cX3_setRates 1 = .ok (.invokestatic 71, 3) := by decide +kernel
theorem dX3_setRates_4 : decode cX3_setRates 4 = .ok (.iload_n 2, 1) := by decide +kernel
theorem dX3_setRates_5 : decode cX3_setRates 5 = .ok (.iconst 1, 1) := by decide +kernel
theorem dX3_setRates_6 : decode cX3_setRates 6 = .ok (.sipush 1000, 3) := by decide +kernel
theorem dX3_setRates_9 : decode cX3_setRates 9 = .ok (.invokestatic 45, 3) := by decide +kernel
theorem dX3_setRates_12 : decode cX3_setRates 12 = .ok (.iload_n 3, 1) := by decide +kernel
theorem dX3_setRates_13 : decode cX3_setRates 13 = .ok (.iconst 1, 1) := by decide +kernel
theorem dX3_setRates_14 : decode cX3_setRates 14 = .ok (.sipush 1000, 3) := by decide +kernel
theorem dX3_setRates_17 : decode cX3_setRates 17 = .ok (.invokestatic 45, 3) := by decide +kernel
theorem dX3_setRates_20 : decode cX3_setRates 20 = .ok (.iload 4, 2) := by decide +kernel
theorem dX3_setRates_22 : decode cX3_setRates 22 = .ok (.iconst 1, 1) := by decide +kernel
theorem dX3_setRates_23 : decode cX3_setRates 23 = .ok (.sipush 1000, 3) := by decide +kernel
theorem dX3_setRates_26 : decode cX3_setRates 26 = .ok (.invokestatic 45, 3) := by decide +kernel
theorem dX3_setRates_29 : decode cX3_setRates 29 = .ok (.aload_n 0, 1) := by decide +kernel
theorem dX3_setRates_30 : decode cX3_setRates 30 = .ok (.getfield 19, 3) := by decide +kernel
theorem dX3_setRates_33 : decode cX3_setRates 33 = .ok (.iload_n 1, 1) := by decide +kernel
theorem dX3_setRates_34 : decode cX3_setRates 34 = .ok (.iload_n 2, 1) := by decide +kernel
theorem dX3_setRates_35 : decode cX3_setRates 35 = .ok (.iload_n 3, 1) := by decide +kernel
theorem dX3_setRates_36 : decode cX3_setRates 36 = .ok (.iload 4, 2) := by decide +kernel
theorem dX3_setRates_38 : decode cX3_setRates 38 = .ok (.invokevirtual 97, 3) := by decide +kernel
theorem dX3_setRates_41 : decode cX3_setRates 41 = .ok (.return_, 1) := by decide +kernel
set_option maxRecDepth 20000 in
theorem ggX3_netValue_X3_requireCompany : GoodIn wsX3_netValue wsX3_requireCompany := goodIn_ca (goodIn_r _ [5, 6, 7, 4, 8, 9, 10] (by decide +kernel) (by decide +kernel)) (goodIn_sub (fun _ h => List.mem_cons_of_mem _ (List.mem_append_right _ h)) (by decide +kernel))
set_option maxRecDepth 20000 in
theorem gX3_netValue_X3_requireCompany : GoodIn wsX3_netValue (va_wsS RX3 71 yX3_requireCompany wsX3_requireCompany) := goodIn_app (goodIn_of _ (by decide +kernel)) ggX3_netValue_X3_requireCompany
set_option maxRecDepth 20000 in
theorem ggX3_netValue_X1_netOf : GoodIn wsX3_netValue wsX1_netOf := goodIn_r _ [14, 15, 16, 17, 12, 18, 19, 20, 21, 22, 23, 24, 25, 26, 27, 28, 29, 30, 31, 32, 39, 40, 41, 42, 43, 44, 45] (by decide +kernel) (by decide +kernel)
set_option maxRecDepth 20000 in
theorem gX3_netValue_X1_netOf_n62 : GoodIn wsX3_netValue (wsX1_netOf) := ggX3_netValue_X1_netOf
theorem dX3_netValue_0 : decode cX3_netValue 0 = .ok (.iload_n 1, 1) := by decide +kernel
theorem dX3_netValue_1 : decode cX3_netValue 1 = .ok (.invokestatic 71, 3) := by decide +kernel
theorem dX3_netValue_4 : decode cX3_netValue 4 = .ok (.aload_n 0, 1) := by decide +kernel
theorem dX3_netValue_5 : decode cX3_netValue 5 = .ok (.getfield 19, 3) := by decide +kernel
theorem dX3_netValue_8 : decode cX3_netValue 8 = .ok (.iload_n 1, 1) := by decide +kernel
theorem dX3_netValue_9 : decode cX3_netValue 9 = .ok (.invokevirtual 62, 3) := by decide +kernel
theorem dX3_netValue_12 : decode cX3_netValue 12 = .ok (.ireturn, 1) := by decide +kernel
set_option maxRecDepth 20000 in
theorem ggX3_translatedEquity_X3_requireCompany : GoodIn wsX3_translatedEquity wsX3_requireCompany := goodIn_ca (goodIn_r _ [5, 6, 7, 4, 8, 9, 10] (by decide +kernel) (by decide +kernel)) (goodIn_sub (fun _ h => List.mem_cons_of_mem _ (List.mem_append_right _ h)) (by decide +kernel))
set_option maxRecDepth 20000 in
theorem gX3_translatedEquity_X3_requireCompany : GoodIn wsX3_translatedEquity (va_wsS RX3 71 yX3_requireCompany wsX3_requireCompany) := goodIn_app (goodIn_of _ (by decide +kernel)) ggX3_translatedEquity_X3_requireCompany
set_option maxRecDepth 20000 in
theorem ggX3_translatedEquity_X1_equityOf : GoodIn wsX3_translatedEquity wsX1_equityOf := goodIn_r _ [14, 15, 16, 17, 18, 12, 19, 20, 21, 22, 23, 30, 31, 32, 33, 34, 35, 36] (by decide +kernel) (by decide +kernel)
set_option maxRecDepth 20000 in
theorem gX3_translatedEquity_X1_equityOf_n101 : GoodIn wsX3_translatedEquity (wsX1_equityOf) := ggX3_translatedEquity_X1_equityOf
theorem dX3_translatedEquity_0 : decode cX3_translatedEquity 0 = .ok (.iload_n 1, 1) := by decide +kernel
theorem dX3_translatedEquity_1 : decode cX3_translatedEquity 1 = .ok (.invokestatic 71, 3) := by decide +kernel
theorem dX3_translatedEquity_4 : decode cX3_translatedEquity 4 = .ok (.aload_n 0, 1) := by decide +kernel
theorem dX3_translatedEquity_5 : decode cX3_translatedEquity 5 = .ok (.getfield 19, 3) := by decide +kernel
theorem dX3_translatedEquity_8 : decode cX3_translatedEquity 8 = .ok (.iload_n 1, 1) := by decide +kernel
theorem dX3_translatedEquity_9 : decode cX3_translatedEquity 9 = .ok (.invokevirtual 101, 3) := by decide +kernel
theorem dX3_translatedEquity_12 : decode cX3_translatedEquity 12 = .ok (.ireturn, 1) := by decide +kernel
set_option maxRecDepth 20000 in
theorem ggX3_translatedResult_X3_requireCompany : GoodIn wsX3_translatedResult wsX3_requireCompany := goodIn_ca (goodIn_r _ [5, 6, 7, 4, 8, 9, 10] (by decide +kernel) (by decide +kernel)) (goodIn_sub (fun _ h => List.mem_cons_of_mem _ (List.mem_append_right _ h)) (by decide +kernel))
set_option maxRecDepth 20000 in
theorem gX3_translatedResult_X3_requireCompany : GoodIn wsX3_translatedResult (va_wsS RX3 71 yX3_requireCompany wsX3_requireCompany) := goodIn_app (goodIn_of _ (by decide +kernel)) ggX3_translatedResult_X3_requireCompany
set_option maxRecDepth 20000 in
theorem ggX3_translatedResult_X1_profitOf : GoodIn wsX3_translatedResult wsX1_profitOf := goodIn_r _ [14, 15, 16, 17, 18, 12, 19, 20, 21, 22, 23, 30, 31, 32, 33, 34, 35, 36] (by decide +kernel) (by decide +kernel)
set_option maxRecDepth 20000 in
theorem gX3_translatedResult_X1_profitOf_n104 : GoodIn wsX3_translatedResult (wsX1_profitOf) := ggX3_translatedResult_X1_profitOf
theorem dX3_translatedResult_0 : decode cX3_translatedResult 0 = .ok (.iload_n 1, 1) := by decide +kernel
theorem dX3_translatedResult_1 : decode cX3_translatedResult 1 = .ok (.invokestatic 71, 3) := by decide +kernel
theorem dX3_translatedResult_4 : decode cX3_translatedResult 4 = .ok (.aload_n 0, 1) := by decide +kernel
theorem dX3_translatedResult_5 : decode cX3_translatedResult 5 = .ok (.getfield 19, 3) := by decide +kernel
theorem dX3_translatedResult_8 : decode cX3_translatedResult 8 = .ok (.iload_n 1, 1) := by decide +kernel
theorem dX3_translatedResult_9 : decode cX3_translatedResult 9 = .ok (.invokevirtual 104, 3) := by decide +kernel
theorem dX3_translatedResult_12 : decode cX3_translatedResult 12 = .ok (.ireturn, 1) := by decide +kernel
set_option maxRecDepth 20000 in
theorem ggX3_reserve_X3_requireCompany : GoodIn wsX3_reserve wsX3_requireCompany := goodIn_ca (goodIn_r _ [5, 6, 7, 4, 8, 9, 10] (by decide +kernel) (by decide +kernel)) (goodIn_sub (fun _ h => List.mem_cons_of_mem _ (List.mem_append_right _ h)) (by decide +kernel))
set_option maxRecDepth 20000 in
theorem gX3_reserve_X3_requireCompany : GoodIn wsX3_reserve (va_wsS RX3 71 yX3_requireCompany wsX3_requireCompany) := goodIn_app (goodIn_of _ (by decide +kernel)) ggX3_reserve_X3_requireCompany
set_option maxRecDepth 20000 in
theorem ggX3_reserve_X1_netOf : GoodIn wsX3_reserve wsX1_netOf := goodIn_r _ [14, 15, 16, 17, 12, 18, 19, 20, 21, 22, 23, 24, 25, 26, 27, 28, 29, 30, 31, 32, 49, 50, 51, 52, 53, 54, 55] (by decide +kernel) (by decide +kernel)
set_option maxRecDepth 20000 in
theorem gX3_reserve_X1_netOf_n62 : GoodIn wsX3_reserve (wsX1_netOf) := ggX3_reserve_X1_netOf
set_option maxRecDepth 20000 in
theorem ggX3_reserve_X1_equityOf : GoodIn wsX3_reserve wsX1_equityOf := goodIn_r _ [35, 36, 37, 21, 22, 12, 23, 24, 25, 26, 27, 49, 50, 51, 52, 53, 54, 55] (by decide +kernel) (by decide +kernel)
set_option maxRecDepth 20000 in
theorem gX3_reserve_X1_equityOf_n101 : GoodIn wsX3_reserve (wsX1_equityOf) := ggX3_reserve_X1_equityOf
set_option maxRecDepth 20000 in
theorem ggX3_reserve_X1_profitOf : GoodIn wsX3_reserve wsX1_profitOf := goodIn_r _ [40, 41, 42, 21, 22, 12, 23, 24, 25, 26, 27, 49, 50, 51, 52, 53, 54, 55] (by decide +kernel) (by decide +kernel)
set_option maxRecDepth 20000 in
theorem gX3_reserve_X1_profitOf_n104 : GoodIn wsX3_reserve (wsX1_profitOf) := ggX3_reserve_X1_profitOf
theorem dX3_reserve_0 : decode cX3_reserve 0 = .ok (.iload_n 1, 1) := by decide +kernel
theorem dX3_reserve_1 : decode cX3_reserve 1 = .ok (.invokestatic 71, 3) := by decide +kernel
theorem dX3_reserve_4 : decode cX3_reserve 4 = .ok (.aload_n 0, 1) := by decide +kernel
theorem dX3_reserve_5 : decode cX3_reserve 5 = .ok (.getfield 19, 3) := by decide +kernel
theorem dX3_reserve_8 : decode cX3_reserve 8 = .ok (.iload_n 1, 1) := by decide +kernel
theorem dX3_reserve_9 : decode cX3_reserve 9 = .ok (.invokevirtual 62, 3) := by decide +kernel
theorem dX3_reserve_12 : decode cX3_reserve 12 = .ok (.aload_n 0, 1) := by decide +kernel
theorem dX3_reserve_13 : decode cX3_reserve 13 = .ok (.getfield 19, 3) := by decide +kernel
theorem dX3_reserve_16 : decode cX3_reserve 16 = .ok (.iload_n 1, 1) := by decide +kernel
theorem dX3_reserve_17 : decode cX3_reserve 17 = .ok (.invokevirtual 101, 3) := by decide +kernel
theorem dX3_reserve_20 : decode cX3_reserve 20 = .ok (.isub, 1) := by decide +kernel
theorem dX3_reserve_21 : decode cX3_reserve 21 = .ok (.aload_n 0, 1) := by decide +kernel
theorem dX3_reserve_22 : decode cX3_reserve 22 = .ok (.getfield 19, 3) := by decide +kernel
theorem dX3_reserve_25 : decode cX3_reserve 25 = .ok (.iload_n 1, 1) := by decide +kernel
theorem dX3_reserve_26 : decode cX3_reserve 26 = .ok (.invokevirtual 104, 3) := by decide +kernel
theorem dX3_reserve_29 : decode cX3_reserve 29 = .ok (.isub, 1) := by decide +kernel
theorem dX3_reserve_30 : decode cX3_reserve 30 = .ok (.ireturn, 1) := by decide +kernel
set_option maxRecDepth 20000 in
theorem ggX3_claim_X3_requireTwoCompanies : GoodIn wsX3_claim wsX3_requireTwoCompanies := goodIn_ca (goodIn_r _ [6, 7, 8, 9, 10, 5, 11, 12, 13, 14] (by decide +kernel) (by decide +kernel)) (goodIn_sub (fun _ h => List.mem_cons_of_mem _ (List.mem_append_right _ h)) (by decide +kernel))
set_option maxRecDepth 20000 in
theorem gX3_claim_X3_requireTwoCompanies : GoodIn wsX3_claim (va_wsS RX3 41 yX3_requireTwoCompanies wsX3_requireTwoCompanies) := goodIn_app (goodIn_of _ (by decide +kernel)) ggX3_claim_X3_requireTwoCompanies
set_option maxRecDepth 20000 in
theorem ggX3_claim_X3_requireRange : GoodIn wsX3_claim wsX3_requireRange := goodIn_ca (goodIn_r _ [14, 7, 8] (by decide +kernel) (by decide +kernel)) (goodIn_sub (fun _ h => List.mem_cons_of_mem _ (List.mem_append_right _ h)) (by decide +kernel))
set_option maxRecDepth 20000 in
theorem gX3_claim_X3_requireRange : GoodIn wsX3_claim (va_wsS RX3 45 yX3_requireRange wsX3_requireRange) := goodIn_app (goodIn_of _ (by decide +kernel)) ggX3_claim_X3_requireRange
set_option maxRecDepth 20000 in
theorem ggX3_claim_X0_replaceClaim : GoodIn wsX3_claim wsX0_replaceClaim := goodIn_r _ [18, 19, 20, 5, 21, 28, 29] (by decide +kernel) (by decide +kernel)
set_option maxRecDepth 20000 in
theorem gX3_claim_X0_replaceClaim_n107 : GoodIn wsX3_claim (wsX0_replaceClaim) := ggX3_claim_X0_replaceClaim
theorem dX3_claim_0 : decode cX3_claim 0 = .ok (.iload_n 1, 1) := by decide +kernel
theorem dX3_claim_1 : decode cX3_claim 1 = .ok (.iload_n 2, 1) := by decide +kernel
theorem dX3_claim_2 : decode cX3_claim 2 = .ok (.invokestatic 41, 3) := by decide +kernel
theorem dX3_claim_5 : decode cX3_claim 5 = .ok (.iload_n 3, 1) := by decide +kernel
theorem dX3_claim_6 : decode cX3_claim 6 = .ok (.iconst 0, 1) := by decide +kernel
theorem dX3_claim_7 : decode cX3_claim 7 = .ok (.ldc 61, 2) := by decide +kernel
theorem dX3_claim_9 : decode cX3_claim 9 = .ok (.invokestatic 45, 3) := by decide +kernel
theorem dX3_claim_12 : decode cX3_claim 12 = .ok (.aload_n 0, 1) := by decide +kernel
theorem dX3_claim_13 : decode cX3_claim 13 = .ok (.getfield 26, 3) := by decide +kernel
theorem dX3_claim_16 : decode cX3_claim 16 = .ok (.iload_n 1, 1) := by decide +kernel
theorem dX3_claim_17 : decode cX3_claim 17 = .ok (.iload_n 2, 1) := by decide +kernel
theorem dX3_claim_18 : decode cX3_claim 18 = .ok (.iload_n 3, 1) := by decide +kernel
theorem dX3_claim_19 : decode cX3_claim 19 = .ok (.invokevirtual 107, 3) := by decide +kernel
theorem dX3_claim_22 : decode cX3_claim 22 = .ok (.ireturn, 1) := by decide +kernel
set_option maxRecDepth 20000 in
theorem ggX3_admit_X3_requireTwoCompanies : GoodIn wsX3_admit wsX3_requireTwoCompanies := goodIn_ca (goodIn_r _ [6, 7, 8, 9, 10, 5, 11, 12, 13, 14] (by decide +kernel) (by decide +kernel)) (goodIn_sub (fun _ h => List.mem_cons_of_mem _ (List.mem_append_right _ h)) (by decide +kernel))
set_option maxRecDepth 20000 in
theorem gX3_admit_X3_requireTwoCompanies : GoodIn wsX3_admit (va_wsS RX3 41 yX3_requireTwoCompanies wsX3_requireTwoCompanies) := goodIn_app (goodIn_of _ (by decide +kernel)) ggX3_admit_X3_requireTwoCompanies
set_option maxRecDepth 20000 in
theorem ggX3_admit_X3_requireRange : GoodIn wsX3_admit wsX3_requireRange := goodIn_ca (goodIn_r _ [14, 7, 8] (by decide +kernel) (by decide +kernel)) (goodIn_sub (fun _ h => List.mem_cons_of_mem _ (List.mem_append_right _ h)) (by decide +kernel))
set_option maxRecDepth 20000 in
theorem gX3_admit_X3_requireRange : GoodIn wsX3_admit (va_wsS RX3 45 yX3_requireRange wsX3_requireRange) := goodIn_app (goodIn_of _ (by decide +kernel)) ggX3_admit_X3_requireRange
set_option maxRecDepth 20000 in
theorem ggX3_admit_X0_replaceAdmitted : GoodIn wsX3_admit wsX0_replaceAdmitted := goodIn_r _ [18, 19, 20, 5, 21, 28, 29] (by decide +kernel) (by decide +kernel)
set_option maxRecDepth 20000 in
theorem gX3_admit_X0_replaceAdmitted_n111 : GoodIn wsX3_admit (wsX0_replaceAdmitted) := ggX3_admit_X0_replaceAdmitted
theorem dX3_admit_0 : decode cX3_admit 0 = .ok (.iload_n 1, 1) := by decide +kernel
theorem dX3_admit_1 : decode cX3_admit 1 = .ok (.iload_n 2, 1) := by decide +kernel
theorem dX3_admit_2 : decode cX3_admit 2 = .ok (.invokestatic 41, 3) := by decide +kernel
theorem dX3_admit_5 : decode cX3_admit 5 = .ok (.iload_n 3, 1) := by decide +kernel
theorem dX3_admit_6 : decode cX3_admit 6 = .ok (.iconst 0, 1) := by decide +kernel
theorem dX3_admit_7 : decode cX3_admit 7 = .ok (.ldc 61, 2) := by decide +kernel
theorem dX3_admit_9 : decode cX3_admit 9 = .ok (.invokestatic 45, 3) := by decide +kernel
theorem dX3_admit_12 : decode cX3_admit 12 = .ok (.aload_n 0, 1) := by decide +kernel
theorem dX3_admit_13 : decode cX3_admit 13 = .ok (.getfield 26, 3) := by decide +kernel
theorem dX3_admit_16 : decode cX3_admit 16 = .ok (.iload_n 2, 1) := by decide +kernel
theorem dX3_admit_17 : decode cX3_admit 17 = .ok (.iload_n 1, 1) := by decide +kernel
theorem dX3_admit_18 : decode cX3_admit 18 = .ok (.iload_n 3, 1) := by decide +kernel
theorem dX3_admit_19 : decode cX3_admit 19 = .ok (.invokevirtual 111, 3) := by decide +kernel
theorem dX3_admit_22 : decode cX3_admit 22 = .ok (.ireturn, 1) := by decide +kernel
set_option maxRecDepth 20000 in
theorem ggX3_difference_X3_requireTwoCompanies : GoodIn wsX3_difference wsX3_requireTwoCompanies := goodIn_ca (goodIn_r _ [5, 6, 7, 8, 9, 4, 10, 11, 12, 13] (by decide +kernel) (by decide +kernel)) (goodIn_sub (fun _ h => List.mem_cons_of_mem _ (List.mem_append_right _ h)) (by decide +kernel))
set_option maxRecDepth 20000 in
theorem gX3_difference_X3_requireTwoCompanies : GoodIn wsX3_difference (va_wsS RX3 41 yX3_requireTwoCompanies wsX3_requireTwoCompanies) := goodIn_app (goodIn_of _ (by decide +kernel)) ggX3_difference_X3_requireTwoCompanies
set_option maxRecDepth 20000 in
theorem ggX3_difference_X0_disputed : GoodIn wsX3_difference wsX0_disputed := goodIn_r _ [17, 18, 19, 20, 4, 21, 28, 29] (by decide +kernel) (by decide +kernel)
set_option maxRecDepth 20000 in
theorem gX3_difference_X0_disputed_n114 : GoodIn wsX3_difference (wsX0_disputed) := ggX3_difference_X0_disputed
theorem dX3_difference_0 : decode cX3_difference 0 = .ok (.iload_n 1, 1) := by decide +kernel
theorem dX3_difference_1 : decode cX3_difference 1 = .ok (.iload_n 2, 1) := by decide +kernel
theorem dX3_difference_2 : decode cX3_difference 2 = .ok (.invokestatic 41, 3) := by decide +kernel
theorem dX3_difference_5 : decode cX3_difference 5 = .ok (.aload_n 0, 1) := by decide +kernel
theorem dX3_difference_6 : decode cX3_difference 6 = .ok (.getfield 26, 3) := by decide +kernel
theorem dX3_difference_9 : decode cX3_difference 9 = .ok (.iload_n 1, 1) := by decide +kernel
theorem dX3_difference_10 : decode cX3_difference 10 = .ok (.iload_n 2, 1) := by decide +kernel
theorem dX3_difference_11 : decode cX3_difference 11 = .ok (.invokevirtual 114, 3) := by decide +kernel
theorem dX3_difference_14 : decode cX3_difference 14 = .ok (.ireturn, 1) := by decide +kernel
set_option maxRecDepth 20000 in
theorem ggX3_eliminated_X2_members : GoodIn wsX3_eliminated wsX2_members := goodIn_r _ [6, 7, 8, 9, 4, 10, 11, 12, 13, 14, 15, 16, 17, 18, 19, 20, 37, 38, 39, 40, 41, 42] (by decide +kernel) (by decide +kernel)
set_option maxRecDepth 20000 in
theorem gX3_eliminated_X2_members_n85 : GoodIn wsX3_eliminated (wsX2_members) := ggX3_eliminated_X2_members
set_option maxRecDepth 20000 in
theorem ggX3_eliminated_X0_agreedAmong : GoodIn wsX3_eliminated wsX0_agreedAmong := goodIn_r _ [24, 25, 26, 27, 28, 29, 30, 16, 17, 18, 19, 20, 43, 44] (by decide +kernel) (by decide +kernel)
set_option maxRecDepth 20000 in
theorem gX3_eliminated_X0_agreedAmong_n117 : GoodIn wsX3_eliminated (wsX0_agreedAmong) := ggX3_eliminated_X0_agreedAmong
theorem dX3_eliminated_0 : decode cX3_eliminated 0 = .ok (.aload_n 0, 1) := by decide +kernel
theorem dX3_eliminated_1 : decode cX3_eliminated 1 = .ok (.getfield 26, 3) := by decide +kernel
theorem dX3_eliminated_4 : decode cX3_eliminated 4 = .ok (.aload_n 0, 1) := by decide +kernel
theorem dX3_eliminated_5 : decode cX3_eliminated 5 = .ok (.getfield 10, 3) := by decide +kernel
theorem dX3_eliminated_8 : decode cX3_eliminated 8 = .ok (.invokevirtual 85, 3) := by decide +kernel
theorem dX3_eliminated_11 : decode cX3_eliminated 11 = .ok (.invokevirtual 117, 3) := by decide +kernel
theorem dX3_eliminated_14 : decode cX3_eliminated 14 = .ok (.ireturn, 1) := by decide +kernel
set_option maxRecDepth 20000 in
theorem ggX3_assets_X2_members : GoodIn wsX3_assets wsX2_members := goodIn_r _ [7, 8, 9, 10, 5, 11, 12, 13, 14, 15, 16, 17, 18, 19, 20, 21, 52, 53, 54, 55, 56, 57] (by decide +kernel) (by decide +kernel)
set_option maxRecDepth 20000 in
theorem gX3_assets_X2_members_n85 : GoodIn wsX3_assets (wsX2_members) := ggX3_assets_X2_members
set_option maxRecDepth 20000 in
theorem ggX3_assets_X3_isMember : GoodIn wsX3_assets wsX3_isMember := goodIn_r _ [19] (by decide +kernel) (by decide +kernel)
set_option maxRecDepth 20000 in
theorem gX3_assets_X3_isMember : GoodIn wsX3_assets (va_wsS RX3 120 yX3_isMember wsX3_isMember) := goodIn_app (goodIn_of _ (by decide +kernel)) ggX3_assets_X3_isMember
set_option maxRecDepth 20000 in
theorem ggX3_assets_X1_assetsOf : GoodIn wsX3_assets wsX1_assetsOf := goodIn_r _ [26, 27, 28, 29, 30, 24, 31, 32, 33, 34, 35, 58, 59, 60, 61, 62, 63, 64] (by decide +kernel) (by decide +kernel)
set_option maxRecDepth 20000 in
theorem gX3_assets_X1_assetsOf_n124 : GoodIn wsX3_assets (wsX1_assetsOf) := ggX3_assets_X1_assetsOf
set_option maxRecDepth 20000 in
theorem ggX3_assets_X0_agreedAmong : GoodIn wsX3_assets wsX0_agreedAmong := goodIn_r _ [39, 40, 41, 42, 43, 44, 45, 17, 18, 19, 20, 21, 65, 66] (by decide +kernel) (by decide +kernel)
set_option maxRecDepth 20000 in
theorem gX3_assets_X0_agreedAmong_n117 : GoodIn wsX3_assets (wsX0_agreedAmong) := ggX3_assets_X0_agreedAmong
theorem dX3_assets_0 : decode cX3_assets 0 = .ok (.aload_n 0, 1) := by decide +kernel
theorem dX3_assets_1 : decode cX3_assets 1 = .ok (.getfield 10, 3) := by decide +kernel
theorem dX3_assets_4 : decode cX3_assets 4 = .ok (.invokevirtual 85, 3) := by decide +kernel
theorem dX3_assets_7 : decode cX3_assets 7 = .ok (.istore_n 1, 1) := by decide +kernel
theorem dX3_assets_8 : decode cX3_assets 8 = .ok (.iconst 0, 1) := by decide +kernel
theorem dX3_assets_9 : decode cX3_assets 9 = .ok (.istore_n 2, 1) := by decide +kernel
theorem dX3_assets_10 : decode cX3_assets 10 = .ok (.iconst 0, 1) := by decide +kernel
theorem dX3_assets_11 : decode cX3_assets 11 = .ok (.istore_n 3, 1) := by decide +kernel
theorem dX3_assets_12 : decode cX3_assets 12 = .ok (.iload_n 3, 1) := by decide +kernel
theorem dX3_assets_13 : decode cX3_assets 13 = .ok (.bipush 6, 2) := by decide +kernel
theorem dX3_assets_15 : decode cX3_assets 15 = .ok (.if_icmp .ge 28, 3) := by decide +kernel
theorem dX3_assets_18 : decode cX3_assets 18 = .ok (.iload_n 1, 1) := by decide +kernel
theorem dX3_assets_19 : decode cX3_assets 19 = .ok (.iload_n 3, 1) := by decide +kernel
theorem dX3_assets_20 : decode cX3_assets 20 = .ok (.invokestatic 120, 3) := by decide +kernel
theorem dX3_assets_23 : decode cX3_assets 23 = .ok (.ifCond .eq 14, 3) := by decide +kernel
theorem dX3_assets_26 : decode cX3_assets 26 = .ok (.iload_n 2, 1) := by decide +kernel
theorem dX3_assets_27 : decode cX3_assets 27 = .ok (.aload_n 0, 1) := by decide +kernel
theorem dX3_assets_28 : decode cX3_assets 28 = .ok (.getfield 19, 3) := by decide +kernel
theorem dX3_assets_31 : decode cX3_assets 31 = .ok (.iload_n 3, 1) := by decide +kernel
theorem dX3_assets_32 : decode cX3_assets 32 = .ok (.invokevirtual 124, 3) := by decide +kernel
theorem dX3_assets_35 : decode cX3_assets 35 = .ok (.iadd, 1) := by decide +kernel
theorem dX3_assets_36 : decode cX3_assets 36 = .ok (.istore_n 2, 1) := by decide +kernel
theorem dX3_assets_37 : decode cX3_assets 37 = .ok (.iinc 3 1, 3) := by decide +kernel
theorem dX3_assets_40 : decode cX3_assets 40 = .ok (.goto (-28), 3) := by decide +kernel
theorem dX3_assets_43 : decode cX3_assets 43 = .ok (.iload_n 2, 1) := by decide +kernel
theorem dX3_assets_44 : decode cX3_assets 44 = .ok (.aload_n 0, 1) := by decide +kernel
theorem dX3_assets_45 : decode cX3_assets 45 = .ok (.getfield 26, 3) := by decide +kernel
theorem dX3_assets_48 : decode cX3_assets 48 = .ok (.iload_n 1, 1) := by decide +kernel
theorem dX3_assets_49 : decode cX3_assets 49 = .ok (.invokevirtual 117, 3) := by decide +kernel
theorem dX3_assets_52 : decode cX3_assets 52 = .ok (.isub, 1) := by decide +kernel
theorem dX3_assets_53 : decode cX3_assets 53 = .ok (.ireturn, 1) := by decide +kernel
set_option maxRecDepth 20000 in
theorem ggX3_debts_X2_members : GoodIn wsX3_debts wsX2_members := goodIn_r _ [7, 8, 9, 10, 5, 11, 12, 13, 14, 15, 16, 17, 18, 19, 20, 21, 52, 53, 54, 55, 56, 57] (by decide +kernel) (by decide +kernel)
set_option maxRecDepth 20000 in
theorem gX3_debts_X2_members_n85 : GoodIn wsX3_debts (wsX2_members) := ggX3_debts_X2_members
set_option maxRecDepth 20000 in
theorem ggX3_debts_X3_isMember : GoodIn wsX3_debts wsX3_isMember := goodIn_r _ [19] (by decide +kernel) (by decide +kernel)
set_option maxRecDepth 20000 in
theorem gX3_debts_X3_isMember : GoodIn wsX3_debts (va_wsS RX3 120 yX3_isMember wsX3_isMember) := goodIn_app (goodIn_of _ (by decide +kernel)) ggX3_debts_X3_isMember
set_option maxRecDepth 20000 in
theorem ggX3_debts_X1_debtsOf : GoodIn wsX3_debts wsX1_debtsOf := goodIn_r _ [26, 27, 28, 29, 30, 24, 31, 32, 33, 34, 35, 58, 59, 60, 61, 62, 63, 64] (by decide +kernel) (by decide +kernel)
set_option maxRecDepth 20000 in
theorem gX3_debts_X1_debtsOf_n127 : GoodIn wsX3_debts (wsX1_debtsOf) := ggX3_debts_X1_debtsOf
set_option maxRecDepth 20000 in
theorem ggX3_debts_X0_agreedAmong : GoodIn wsX3_debts wsX0_agreedAmong := goodIn_r _ [39, 40, 41, 42, 43, 44, 45, 17, 18, 19, 20, 21, 65, 66] (by decide +kernel) (by decide +kernel)
set_option maxRecDepth 20000 in
theorem gX3_debts_X0_agreedAmong_n117 : GoodIn wsX3_debts (wsX0_agreedAmong) := ggX3_debts_X0_agreedAmong
theorem dX3_debts_0 : decode cX3_debts 0 = .ok (.aload_n 0, 1) := by decide +kernel
theorem dX3_debts_1 : decode cX3_debts 1 = .ok (.getfield 10, 3) := by decide +kernel
theorem dX3_debts_4 : decode cX3_debts 4 = .ok (.invokevirtual 85, 3) := by decide +kernel
theorem dX3_debts_7 : decode cX3_debts 7 = .ok (.istore_n 1, 1) := by decide +kernel
theorem dX3_debts_8 : decode cX3_debts 8 = .ok (.iconst 0, 1) := by decide +kernel
theorem dX3_debts_9 : decode cX3_debts 9 = .ok (.istore_n 2, 1) := by decide +kernel
theorem dX3_debts_10 : decode cX3_debts 10 = .ok (.iconst 0, 1) := by decide +kernel
theorem dX3_debts_11 : decode cX3_debts 11 = .ok (.istore_n 3, 1) := by decide +kernel
theorem dX3_debts_12 : decode cX3_debts 12 = .ok (.iload_n 3, 1) := by decide +kernel
theorem dX3_debts_13 : decode cX3_debts 13 = .ok (.bipush 6, 2) := by decide +kernel
theorem dX3_debts_15 : decode cX3_debts 15 = .ok (.if_icmp .ge 28, 3) := by decide +kernel
theorem dX3_debts_18 : decode cX3_debts 18 = .ok (.iload_n 1, 1) := by decide +kernel
theorem dX3_debts_19 : decode cX3_debts 19 = .ok (.iload_n 3, 1) := by decide +kernel
theorem dX3_debts_20 : decode cX3_debts 20 = .ok (.invokestatic 120, 3) := by decide +kernel
theorem dX3_debts_23 : decode cX3_debts 23 = .ok (.ifCond .eq 14, 3) := by decide +kernel
theorem dX3_debts_26 : decode cX3_debts 26 = .ok (.iload_n 2, 1) := by decide +kernel
theorem dX3_debts_27 : decode cX3_debts 27 = .ok (.aload_n 0, 1) := by decide +kernel
theorem dX3_debts_28 : decode cX3_debts 28 = .ok (.getfield 19, 3) := by decide +kernel
theorem dX3_debts_31 : decode cX3_debts 31 = .ok (.iload_n 3, 1) := by decide +kernel
theorem dX3_debts_32 : decode cX3_debts 32 = .ok (.invokevirtual 127, 3) := by decide +kernel
theorem dX3_debts_35 : decode cX3_debts 35 = .ok (.iadd, 1) := by decide +kernel
theorem dX3_debts_36 : decode cX3_debts 36 = .ok (.istore_n 2, 1) := by decide +kernel
theorem dX3_debts_37 : decode cX3_debts 37 = .ok (.iinc 3 1, 3) := by decide +kernel
theorem dX3_debts_40 : decode cX3_debts 40 = .ok (.goto (-28), 3) := by decide +kernel
theorem dX3_debts_43 : decode cX3_debts 43 = .ok (.iload_n 2, 1) := by decide +kernel
theorem dX3_debts_44 : decode cX3_debts 44 = .ok (.aload_n 0, 1) := by decide +kernel
theorem dX3_debts_45 : decode cX3_debts 45 = .ok (.getfield 26, 3) := by decide +kernel
theorem dX3_debts_48 : decode cX3_debts 48 = .ok (.iload_n 1, 1) := by decide +kernel
theorem dX3_debts_49 : decode cX3_debts 49 = .ok (.invokevirtual 117, 3) := by decide +kernel
theorem dX3_debts_52 : decode cX3_debts 52 = .ok (.isub, 1) := by decide +kernel
theorem dX3_debts_53 : decode cX3_debts 53 = .ok (.ireturn, 1) := by decide +kernel
set_option maxRecDepth 20000 in
theorem ggX3_minority_X3_requireCompany : GoodIn wsX3_minority wsX3_requireCompany := goodIn_ca (goodIn_r _ [5, 6, 7, 4, 8, 9, 10] (by decide +kernel) (by decide +kernel)) (goodIn_sub (fun _ h => List.mem_cons_of_mem _ (List.mem_append_right _ h)) (by decide +kernel))
set_option maxRecDepth 20000 in
theorem gX3_minority_X3_requireCompany : GoodIn wsX3_minority (va_wsS RX3 71 yX3_requireCompany wsX3_requireCompany) := goodIn_app (goodIn_of _ (by decide +kernel)) ggX3_minority_X3_requireCompany
set_option maxRecDepth 20000 in
theorem ggX3_minority_X2_members : GoodIn wsX3_minority wsX2_members := goodIn_r _ [14, 15, 16, 17, 12, 18, 19, 20, 21, 22, 23, 24, 4, 25, 26, 27, 73, 74, 75, 76, 77, 78] (by decide +kernel) (by decide +kernel)
set_option maxRecDepth 20000 in
theorem gX3_minority_X2_members_n85 : GoodIn wsX3_minority (wsX2_members) := ggX3_minority_X2_members
set_option maxRecDepth 20000 in
theorem ggX3_minority_X3_minorityAmong : GoodIn wsX3_minority wsX3_minorityAmong := goodIn_r _ [31, 1, 32, 33, 24, 4, 25, 34, 35, 36, 37, 38, 39, 40, 41, 42, 43, 44, 45, 46, 47, 48, 49, 50, 51, 52, 53, 54, 55, 56, 12, 57, 58, 59, 60, 61, 62, 63, 64, 65, 66, 67, 68, 69, 70, 71, 72, 79, 80, 81, 82, 83, 84, 85, 73, 74, 75, 76, 77, 78] (by decide +kernel) (by decide +kernel)
set_option maxRecDepth 20000 in
theorem gX3_minority_X3_minorityAmong : GoodIn wsX3_minority (wsV RX3 130 RX3 yX3_minorityAmong wsX3_minorityAmong) := goodIn_app (goodIn_of _ (by decide +kernel)) ggX3_minority_X3_minorityAmong
theorem dX3_minority_0 : decode cX3_minority 0 = .ok (.iload_n 1, 1) := by decide +kernel
theorem dX3_minority_1 : decode cX3_minority 1 = .ok (.invokestatic 71, 3) := by decide +kernel
theorem dX3_minority_4 : decode cX3_minority 4 = .ok (.aload_n 0, 1) := by decide +kernel
theorem dX3_minority_5 : decode cX3_minority 5 = .ok (.aload_n 0, 1) := by decide +kernel
theorem dX3_minority_6 : decode cX3_minority 6 = .ok (.getfield 10, 3) := by decide +kernel
theorem dX3_minority_9 : decode cX3_minority 9 = .ok (.invokevirtual 85, 3) := by decide +kernel
theorem dX3_minority_12 : decode cX3_minority 12 = .ok (.iload_n 1, 1) := by decide +kernel
theorem dX3_minority_13 : decode cX3_minority 13 = .ok (.invokevirtual 130, 3) := by decide +kernel
theorem dX3_minority_16 : decode cX3_minority 16 = .ok (.ireturn, 1) := by decide +kernel
set_option maxRecDepth 20000 in
theorem ggX3_equity_X2_members : GoodIn wsX3_equity wsX2_members := goodIn_r _ [5, 6, 7, 8, 3, 9, 10, 11, 12, 13, 14, 15, 16, 17, 18, 19, 84, 85, 86, 87, 88, 89] (by decide +kernel) (by decide +kernel)
set_option maxRecDepth 20000 in
theorem gX3_equity_X2_members_n85 : GoodIn wsX3_equity (wsX2_members) := ggX3_equity_X2_members
set_option maxRecDepth 20000 in
theorem ggX3_equity_X3_minorityAmong : GoodIn wsX3_equity wsX3_minorityAmong := goodIn_r _ [23, 1, 24, 25, 15, 16, 17, 26, 27, 28, 29, 30, 31, 32, 33, 34, 35, 36, 37, 38, 39, 40, 41, 42, 43, 44, 45, 46, 47, 48, 3, 49, 50, 51, 52, 53, 54, 55, 56, 57, 58, 78, 79, 80, 81, 82, 83, 90, 91, 92, 93, 94, 95, 96, 84, 85, 86, 87, 88, 89] (by decide +kernel) (by decide +kernel)
set_option maxRecDepth 20000 in
theorem gX3_equity_X3_minorityAmong : GoodIn wsX3_equity (wsV RX3 130 RX3 yX3_minorityAmong wsX3_minorityAmong) := goodIn_app (goodIn_of _ (by decide +kernel)) ggX3_equity_X3_minorityAmong
set_option maxRecDepth 20000 in
theorem ggX3_equity_X3_assets : GoodIn wsX3_equity wsX3_assets := goodIn_r _ [62, 1, 24, 63, 2, 3, 4, 5, 6, 7, 8, 9, 10, 11, 12, 13, 14, 15, 16, 17, 18, 19, 25, 31, 27, 32, 33, 34, 35, 36, 37, 38, 39, 40, 41, 42, 64, 65, 66, 67, 68, 69, 70, 71, 72, 73, 78, 79, 80, 81, 82, 83, 84, 85, 86, 87, 88, 89, 90, 91, 92, 93, 94, 95, 96, 97, 98] (by decide +kernel) (by decide +kernel)
set_option maxRecDepth 20000 in
theorem gX3_equity_X3_assets : GoodIn wsX3_equity (wsV RX3 133 RX3 yX3_assets wsX3_assets) := goodIn_app (goodIn_of _ (by decide +kernel)) ggX3_equity_X3_assets
set_option maxRecDepth 20000 in
theorem ggX3_equity_X3_debts : GoodIn wsX3_equity wsX3_debts := goodIn_r _ [77, 1, 24, 63, 2, 3, 4, 5, 6, 7, 8, 9, 10, 11, 12, 13, 14, 15, 16, 17, 18, 19, 25, 44, 27, 45, 46, 47, 35, 36, 37, 38, 39, 40, 41, 42, 64, 65, 66, 67, 68, 69, 70, 71, 72, 73, 78, 79, 80, 81, 82, 83, 84, 85, 86, 87, 88, 89, 90, 91, 92, 93, 94, 95, 96, 97, 98] (by decide +kernel) (by decide +kernel)
set_option maxRecDepth 20000 in
theorem gX3_equity_X3_debts : GoodIn wsX3_equity (wsV RX3 136 RX3 yX3_debts wsX3_debts) := goodIn_app (goodIn_of _ (by decide +kernel)) ggX3_equity_X3_debts
theorem dX3_equity_0 : decode cX3_equity 0 = .ok (.aload_n 0, 1) := by decide +kernel
theorem dX3_equity_1 : decode cX3_equity 1 = .ok (.getfield 10, 3) := by decide +kernel
theorem dX3_equity_4 : decode cX3_equity 4 = .ok (.invokevirtual 85, 3) := by decide +kernel
theorem dX3_equity_7 : decode cX3_equity 7 = .ok (.istore_n 1, 1) := by decide +kernel
theorem dX3_equity_8 : decode cX3_equity 8 = .ok (.iconst 0, 1) := by decide +kernel
theorem dX3_equity_9 : decode cX3_equity 9 = .ok (.istore_n 2, 1) := by decide +kernel
theorem dX3_equity_10 : decode cX3_equity 10 = .ok (.iconst 0, 1) := by decide +kernel
theorem dX3_equity_11 : decode cX3_equity 11 = .ok (.istore_n 3, 1) := by decide +kernel
theorem dX3_equity_12 : decode cX3_equity 12 = .ok (.iload_n 3, 1) := by decide +kernel
theorem dX3_equity_13 : decode cX3_equity 13 = .ok (.bipush 6, 2) := by decide +kernel
theorem dX3_equity_15 : decode cX3_equity 15 = .ok (.if_icmp .ge 18, 3) := by decide +kernel
theorem dX3_equity_18 : decode cX3_equity 18 = .ok (.iload_n 2, 1) := by decide +kernel
theorem dX3_equity_19 : decode cX3_equity 19 = .ok (.aload_n 0, 1) := by decide +kernel
theorem dX3_equity_20 : decode cX3_equity 20 = .ok (.iload_n 1, 1) := by decide +kernel
theorem dX3_equity_21 : decode cX3_equity 21 = .ok (.iload_n 3, 1) := by decide +kernel
theorem dX3_equity_22 : decode cX3_equity 22 = .ok (.invokevirtual 130, 3) := by decide +kernel
theorem dX3_equity_25 : decode cX3_equity 25 = .ok (.iadd, 1) := by decide +kernel
theorem dX3_equity_26 : decode cX3_equity 26 = .ok (.istore_n 2, 1) := by decide +kernel
theorem dX3_equity_27 : decode cX3_equity 27 = .ok (.iinc 3 1, 3) := by decide +kernel
theorem dX3_equity_30 : decode cX3_equity 30 = .ok (.goto (-18), 3) := by decide +kernel
theorem dX3_equity_33 : decode cX3_equity 33 = .ok (.aload_n 0, 1) := by decide +kernel
theorem dX3_equity_34 : decode cX3_equity 34 = .ok (.invokevirtual 133, 3) := by decide +kernel
theorem dX3_equity_37 : decode cX3_equity 37 = .ok (.aload_n 0, 1) := by decide +kernel
theorem dX3_equity_38 : decode cX3_equity 38 = .ok (.invokevirtual 136, 3) := by decide +kernel
theorem dX3_equity_41 : decode cX3_equity 41 = .ok (.isub, 1) := by decide +kernel
theorem dX3_equity_42 : decode cX3_equity 42 = .ok (.iload_n 2, 1) := by decide +kernel
theorem dX3_equity_43 : decode cX3_equity 43 = .ok (.isub, 1) := by decide +kernel
theorem dX3_equity_44 : decode cX3_equity 44 = .ok (.ireturn, 1) := by decide +kernel
set_option maxRecDepth 20000 in
theorem ggX3_result_X2_members : GoodIn wsX3_result wsX2_members := goodIn_r _ [6, 7, 8, 9, 4, 10, 11, 12, 13, 14, 15, 16, 17, 18, 19, 20, 52, 53, 54, 55, 56, 57] (by decide +kernel) (by decide +kernel)
set_option maxRecDepth 20000 in
theorem gX3_result_X2_members_n85 : GoodIn wsX3_result (wsX2_members) := ggX3_result_X2_members
set_option maxRecDepth 20000 in
theorem ggX3_result_X3_isMember : GoodIn wsX3_result wsX3_isMember := goodIn_r _ [18] (by decide +kernel) (by decide +kernel)
set_option maxRecDepth 20000 in
theorem gX3_result_X3_isMember : GoodIn wsX3_result (va_wsS RX3 120 yX3_isMember wsX3_isMember) := goodIn_app (goodIn_of _ (by decide +kernel)) ggX3_result_X3_isMember
set_option maxRecDepth 20000 in
theorem ggX3_result_X1_profitOf : GoodIn wsX3_result wsX1_profitOf := goodIn_r _ [25, 26, 27, 28, 29, 23, 30, 31, 32, 33, 34, 58, 59, 60, 61, 62, 63, 64] (by decide +kernel) (by decide +kernel)
set_option maxRecDepth 20000 in
theorem gX3_result_X1_profitOf_n104 : GoodIn wsX3_result (wsX1_profitOf) := ggX3_result_X1_profitOf
set_option maxRecDepth 20000 in
theorem ggX3_result_X2_partOfParent : GoodIn wsX3_result wsX2_partOfParent := goodIn_r _ [37, 38, 39, 40, 41, 4, 42, 43, 44, 33, 45, 52, 53, 54, 55, 56, 57] (by decide +kernel) (by decide +kernel)
set_option maxRecDepth 20000 in
theorem gX3_result_X2_partOfParent_n139 : GoodIn wsX3_result (wsX2_partOfParent) := ggX3_result_X2_partOfParent
theorem dX3_result_0 : decode cX3_result 0 = .ok (.aload_n 0, 1) := by decide +kernel
theorem dX3_result_1 : decode cX3_result 1 = .ok (.getfield 10, 3) := by decide +kernel
theorem dX3_result_4 : decode cX3_result 4 = .ok (.invokevirtual 85, 3) := by decide +kernel
theorem dX3_result_7 : decode cX3_result 7 = .ok (.istore_n 1, 1) := by decide +kernel
theorem dX3_result_8 : decode cX3_result 8 = .ok (.iconst 0, 1) := by decide +kernel
theorem dX3_result_9 : decode cX3_result 9 = .ok (.istore_n 2, 1) := by decide +kernel
theorem dX3_result_10 : decode cX3_result 10 = .ok (.iconst 0, 1) := by decide +kernel
theorem dX3_result_11 : decode cX3_result 11 = .ok (.istore_n 3, 1) := by decide +kernel
theorem dX3_result_12 : decode cX3_result 12 = .ok (.iload_n 3, 1) := by decide +kernel
theorem dX3_result_13 : decode cX3_result 13 = .ok (.bipush 6, 2) := by decide +kernel
theorem dX3_result_15 : decode cX3_result 15 = .ok (.if_icmp .ge 36, 3) := by decide +kernel
theorem dX3_result_18 : decode cX3_result 18 = .ok (.iload_n 1, 1) := by decide +kernel
theorem dX3_result_19 : decode cX3_result 19 = .ok (.iload_n 3, 1) := by decide +kernel
theorem dX3_result_20 : decode cX3_result 20 = .ok (.invokestatic 120, 3) := by decide +kernel
theorem dX3_result_23 : decode cX3_result 23 = .ok (.ifCond .eq 22, 3) := by decide +kernel
theorem dX3_result_26 : decode cX3_result 26 = .ok (.iload_n 2, 1) := by decide +kernel
theorem dX3_result_27 : decode cX3_result 27 = .ok (.aload_n 0, 1) := by decide +kernel
theorem dX3_result_28 : decode cX3_result 28 = .ok (.getfield 10, 3) := by decide +kernel
theorem dX3_result_31 : decode cX3_result 31 = .ok (.iload_n 3, 1) := by decide +kernel
theorem dX3_result_32 : decode cX3_result 32 = .ok (.aload_n 0, 1) := by decide +kernel
theorem dX3_result_33 : decode cX3_result 33 = .ok (.getfield 19, 3) := by decide +kernel
theorem dX3_result_36 : decode cX3_result 36 = .ok (.iload_n 3, 1) := by decide +kernel
theorem dX3_result_37 : decode cX3_result 37 = .ok (.invokevirtual 104, 3) := by decide +kernel
theorem dX3_result_40 : decode cX3_result 40 = .ok (.invokevirtual 139, 3) := by decide +kernel
theorem dX3_result_43 : decode cX3_result 43 = .ok (.iadd, 1) := by decide +kernel
theorem dX3_result_44 : decode cX3_result 44 = .ok (.istore_n 2, 1) := by decide +kernel
theorem dX3_result_45 : decode cX3_result 45 = .ok (.iinc 3 1, 3) := by decide +kernel
theorem dX3_result_48 : decode cX3_result 48 = .ok (.goto (-36), 3) := by decide +kernel
theorem dX3_result_51 : decode cX3_result 51 = .ok (.iload_n 2, 1) := by decide +kernel
theorem dX3_result_52 : decode cX3_result 52 = .ok (.ireturn, 1) := by decide +kernel
set_option maxRecDepth 20000 in
theorem ggX3_close_X3_result : GoodIn wsX3_close wsX3_result := goodIn_r _ [10, 11, 5, 12, 13, 14, 15, 16, 17, 18, 19, 20, 21, 22, 23, 24, 25, 9, 26, 27, 28, 29, 30, 31, 32, 33, 34, 35, 36, 37, 38, 39, 40, 41, 42, 43, 44, 45, 46, 47, 48, 49, 50, 51, 52, 53, 58, 59, 60, 61, 62, 63, 64, 65, 66, 67, 68, 69, 70, 71, 72, 73, 74, 75, 76] (by decide +kernel) (by decide +kernel)
set_option maxRecDepth 20000 in
theorem gX3_close_X3_result : GoodIn wsX3_close (wsV RX3 149 RX3 yX3_result wsX3_result) := goodIn_app (goodIn_of _ (by decide +kernel)) ggX3_close_X3_result
set_option maxRecDepth 20000 in
theorem ggX3_close_X1_carryResults : GoodIn wsX3_close wsX1_carryResults := goodIn_r _ [56, 57, 34, 70, 71, 72, 73, 74, 75, 76] (by decide +kernel) (by decide +kernel)
set_option maxRecDepth 20000 in
theorem gX3_close_X1_carryResults_n152 : GoodIn wsX3_close (wsX1_carryResults) := ggX3_close_X1_carryResults
theorem dX3_close_0 : decode cX3_close 0 = .ok (.aload_n 0, 1) := by decide +kernel
theorem dX3_close_1 : decode cX3_close 1 = .ok (.getfield 37, 3) := by decide +kernel
theorem dX3_close_4 : decode cX3_close 4 = .ok (.ifCond .lt 12, 3) := by decide +kernel
theorem dX3_close_7 : decode cX3_close 7 = .ok (.aload_n 0, 1) := by decide +kernel
theorem dX3_close_8 : decode cX3_close 8 = .ok (.getfield 37, 3) := by decide +kernel
theorem dX3_close_11 : decode cX3_close 11 = .ok (.bipush 12, 2) := by decide +kernel
theorem dX3_close_13 : decode cX3_close 13 = .ok (.if_icmp .lt 13, 3) := by decide +kernel
theorem dX3_close_16 : decode cX3_close 16 = .ok (.new 142, 3) := by decide +kernel
theorem dX3_close_19 : decode cX3_close 19 = .ok (.dup, 1) := by decide +kernel
theorem dX3_close_20 : decode cX3_close 20 = .ok (.ldc 144, 2) := by decide +kernel
theorem dX3_close_22 : decode cX3_close 22 = .ok (.invokespecial 146, 3) := by decide +kernel
theorem dX3_close_25 : decode cX3_close 25 = .ok (.athrow, 1) := by decide +kernel
theorem dX3_close_26 : decode cX3_close 26 = .ok (.aload_n 0, 1) := by decide +kernel
theorem dX3_close_27 : decode cX3_close 27 = .ok (.invokevirtual 149, 3) := by decide +kernel
theorem dX3_close_30 : decode cX3_close 30 = .ok (.istore_n 1, 1) := by decide +kernel
theorem dX3_close_31 : decode cX3_close 31 = .ok (.aload_n 0, 1) := by decide +kernel
theorem dX3_close_32 : decode cX3_close 32 = .ok (.getfield 34, 3) := by decide +kernel
theorem dX3_close_35 : decode cX3_close 35 = .ok (.aload_n 0, 1) := by decide +kernel
theorem dX3_close_36 : decode cX3_close 36 = .ok (.getfield 37, 3) := by decide +kernel
theorem dX3_close_39 : decode cX3_close 39 = .ok (.iload_n 1, 1) := by decide +kernel
theorem dX3_close_40 : decode cX3_close 40 = .ok (.iastore, 1) := by decide +kernel
theorem dX3_close_41 : decode cX3_close 41 = .ok (.aload_n 0, 1) := by decide +kernel
theorem dX3_close_42 : decode cX3_close 42 = .ok (.dup, 1) := by decide +kernel
theorem dX3_close_43 : decode cX3_close 43 = .ok (.getfield 37, 3) := by decide +kernel
theorem dX3_close_46 : decode cX3_close 46 = .ok (.iconst 1, 1) := by decide +kernel
theorem dX3_close_47 : decode cX3_close 47 = .ok (.iadd, 1) := by decide +kernel
theorem dX3_close_48 : decode cX3_close 48 = .ok (.putfield 37, 3) := by decide +kernel
theorem dX3_close_51 : decode cX3_close 51 = .ok (.aload_n 0, 1) := by decide +kernel
theorem dX3_close_52 : decode cX3_close 52 = .ok (.getfield 19, 3) := by decide +kernel
theorem dX3_close_55 : decode cX3_close 55 = .ok (.invokevirtual 152, 3) := by decide +kernel
theorem dX3_close_58 : decode cX3_close 58 = .ok (.iload_n 1, 1) := by decide +kernel
theorem dX3_close_59 : decode cX3_close 59 = .ok (.ireturn, 1) := by decide +kernel
set_option maxRecDepth 20000 in
theorem ggX3_resultOf_X3_requireRange : GoodIn wsX3_resultOf wsX3_requireRange := goodIn_ca (goodIn_r _ [8, 1, 2] (by decide +kernel) (by decide +kernel)) (goodIn_sub (fun _ h => List.mem_cons_of_mem _ (List.mem_append_right _ h)) (by decide +kernel))
set_option maxRecDepth 20000 in
theorem gX3_resultOf_X3_requireRange : GoodIn wsX3_resultOf (va_wsS RX3 45 yX3_requireRange wsX3_requireRange) := goodIn_app (goodIn_of _ (by decide +kernel)) ggX3_resultOf_X3_requireRange
theorem dX3_resultOf_0 : decode cX3_resultOf 0 = .ok (.iload_n 1, 1) := by decide +kernel
theorem dX3_resultOf_1 : decode cX3_resultOf 1 = .ok (.iconst 0, 1) := by decide +kernel
theorem dX3_resultOf_2 : decode cX3_resultOf 2 = .ok (.bipush 11, 2) := by decide +kernel
theorem dX3_resultOf_4 : decode cX3_resultOf 4 = .ok (.invokestatic 45, 3) := by decide +kernel
theorem dX3_resultOf_7 : decode cX3_resultOf 7 = .ok (.iload_n 1, 1) := by decide +kernel
theorem dX3_resultOf_8 : decode cX3_resultOf 8 = .ok (.aload_n 0, 1) := by decide +kernel
theorem dX3_resultOf_9 : decode cX3_resultOf 9 = .ok (.getfield 37, 3) := by decide +kernel
theorem dX3_resultOf_12 : decode cX3_resultOf 12 = .ok (.if_icmp .lt 13, 3) := by decide +kernel
theorem dX3_resultOf_15 : decode cX3_resultOf 15 = .ok (.new 155, 3) := by decide +kernel
theorem dX3_resultOf_18 : decode cX3_resultOf 18 = .ok (.dup, 1) := by decide +kernel
theorem dX3_resultOf_19 : decode cX3_resultOf 19 = .ok (.ldc 157, 2) := by decide +kernel
theorem dX3_resultOf_21 : decode cX3_resultOf 21 = .ok (.invokespecial 159, 3) := by decide +kernel
theorem dX3_resultOf_24 : decode cX3_resultOf 24 = .ok (.athrow, 1) := by decide +kernel
theorem dX3_resultOf_25 : decode cX3_resultOf 25 = .ok (.aload_n 0, 1) := by decide +kernel
theorem dX3_resultOf_26 : decode cX3_resultOf 26 = .ok (.getfield 34, 3) := by decide +kernel
theorem dX3_resultOf_29 : decode cX3_resultOf 29 = .ok (.iload_n 1, 1) := by decide +kernel
theorem dX3_resultOf_30 : decode cX3_resultOf 30 = .ok (.iaload, 1) := by decide +kernel
theorem dX3_resultOf_31 : decode cX3_resultOf 31 = .ok (.ireturn, 1) := by decide +kernel
set_option maxRecDepth 20000 in
theorem ggX3_minorityAmong_X3_isMember : GoodIn wsX3_minorityAmong wsX3_isMember := goodIn_r _ [6] (by decide +kernel) (by decide +kernel)
set_option maxRecDepth 20000 in
theorem gX3_minorityAmong_X3_isMember : GoodIn wsX3_minorityAmong (va_wsS RX3 120 yX3_isMember wsX3_isMember) := goodIn_app (goodIn_of _ (by decide +kernel)) ggX3_minorityAmong_X3_isMember
set_option maxRecDepth 20000 in
theorem ggX3_minorityAmong_X1_netOf : GoodIn wsX3_minorityAmong wsX1_netOf := goodIn_r _ [10, 11, 12, 13, 8, 14, 15, 16, 17, 18, 19, 20, 21, 22, 23, 24, 25, 26, 27, 28, 47, 48, 49, 50, 51, 52, 53] (by decide +kernel) (by decide +kernel)
set_option maxRecDepth 20000 in
theorem gX3_minorityAmong_X1_netOf_n62 : GoodIn wsX3_minorityAmong (wsX1_netOf) := ggX3_minorityAmong_X1_netOf
set_option maxRecDepth 20000 in
theorem ggX3_minorityAmong_X2_partOfOthers : GoodIn wsX3_minorityAmong wsX2_partOfOthers := goodIn_r _ [32, 33, 34, 35, 36, 30, 37, 38, 39, 22, 40, 54, 55, 56, 57, 58, 59] (by decide +kernel) (by decide +kernel)
set_option maxRecDepth 20000 in
theorem gX3_minorityAmong_X2_partOfOthers_n160 : GoodIn wsX3_minorityAmong (wsX2_partOfOthers) := ggX3_minorityAmong_X2_partOfOthers
theorem dX3_minorityAmong_0 : decode cX3_minorityAmong 0 = .ok (.iload_n 1, 1) := by decide +kernel
theorem dX3_minorityAmong_1 : decode cX3_minorityAmong 1 = .ok (.iload_n 2, 1) := by decide +kernel
theorem dX3_minorityAmong_2 : decode cX3_minorityAmong 2 = .ok (.invokestatic 120, 3) := by decide +kernel
theorem dX3_minorityAmong_5 : decode cX3_minorityAmong 5 = .ok (.ifCond .eq 22, 3) := by decide +kernel
theorem dX3_minorityAmong_8 : decode cX3_minorityAmong 8 = .ok (.aload_n 0, 1) := by decide +kernel
theorem dX3_minorityAmong_9 : decode cX3_minorityAmong 9 = .ok (.getfield 10, 3) := by decide +kernel
theorem dX3_minorityAmong_12 : decode cX3_minorityAmong 12 = .ok (.iload_n 2, 1) := by decide +kernel
theorem dX3_minorityAmong_13 : decode cX3_minorityAmong 13 = .ok (.aload_n 0, 1) := by decide +kernel
theorem dX3_minorityAmong_14 : decode cX3_minorityAmong 14 = .ok (.getfield 19, 3) := by decide +kernel
theorem dX3_minorityAmong_17 : decode cX3_minorityAmong 17 = .ok (.iload_n 2, 1) := by decide +kernel
theorem dX3_minorityAmong_18 : decode cX3_minorityAmong 18 = .ok (.invokevirtual 62, 3) := by decide +kernel
theorem dX3_minorityAmong_21 : decode cX3_minorityAmong 21 = .ok (.invokevirtual 160, 3) := by decide +kernel
theorem dX3_minorityAmong_24 : decode cX3_minorityAmong 24 = .ok (.goto 4, 3) := by decide +kernel
theorem dX3_minorityAmong_27 : decode cX3_minorityAmong 27 = .ok (.iconst 0, 1) := by decide +kernel
theorem dX3_minorityAmong_28 : decode cX3_minorityAmong 28 = .ok (.ireturn, 1) := by decide +kernel
theorem dX3_isMember_0 : decode cX3_isMember 0 = .ok (.iload_n 0, 1) := by decide +kernel
theorem dX3_isMember_1 : decode cX3_isMember 1 = .ok (.iload_n 1, 1) := by decide +kernel
theorem dX3_isMember_2 : decode cX3_isMember 2 = .ok (.ishr, 1) := by decide +kernel
theorem dX3_isMember_3 : decode cX3_isMember 3 = .ok (.iconst 1, 1) := by decide +kernel
theorem dX3_isMember_4 : decode cX3_isMember 4 = .ok (.iand, 1) := by decide +kernel
theorem dX3_isMember_5 : decode cX3_isMember 5 = .ok (.iconst 1, 1) := by decide +kernel
theorem dX3_isMember_6 : decode cX3_isMember 6 = .ok (.if_icmp .ne 7, 3) := by decide +kernel
theorem dX3_isMember_9 : decode cX3_isMember 9 = .ok (.iconst 1, 1) := by decide +kernel
theorem dX3_isMember_10 : decode cX3_isMember 10 = .ok (.goto 4, 3) := by decide +kernel
theorem dX3_isMember_13 : decode cX3_isMember 13 = .ok (.iconst 0, 1) := by decide +kernel
theorem dX3_isMember_14 : decode cX3_isMember 14 = .ok (.ireturn, 1) := by decide +kernel
set_option maxRecDepth 20000 in
theorem ggX3_requireCompany_X3_requireRange : GoodIn wsX3_requireCompany wsX3_requireRange := goodIn_ca (goodIn_r _ [4, 5, 6] (by decide +kernel) (by decide +kernel)) (goodIn_sub (fun _ h => List.mem_cons_of_mem _ (List.mem_append_right _ h)) (by decide +kernel))
set_option maxRecDepth 20000 in
theorem gX3_requireCompany_X3_requireRange : GoodIn wsX3_requireCompany (va_wsS RX3 45 yX3_requireRange wsX3_requireRange) := goodIn_app (goodIn_of _ (by decide +kernel)) ggX3_requireCompany_X3_requireRange
theorem dX3_requireCompany_0 : decode cX3_requireCompany 0 = .ok (.iload_n 0, 1) := by decide +kernel
theorem dX3_requireCompany_1 : decode cX3_requireCompany 1 = .ok (.iconst 0, 1) := by decide +kernel
theorem dX3_requireCompany_2 : decode cX3_requireCompany 2 = .ok (.iconst 5, 1) := by decide +kernel
theorem dX3_requireCompany_3 : decode cX3_requireCompany 3 = .ok (.invokestatic 45, 3) := by decide +kernel
theorem dX3_requireCompany_6 : decode cX3_requireCompany 6 = .ok (.return_, 1) := by decide +kernel
set_option maxRecDepth 20000 in
theorem ggX3_requireTwoCompanies_X3_requireCompany : GoodIn wsX3_requireTwoCompanies wsX3_requireCompany := goodIn_ca (goodIn_r _ [6, 7, 8, 5, 9, 1, 2] (by decide +kernel) (by decide +kernel)) (goodIn_sub (fun _ h => List.mem_cons_of_mem _ (List.mem_append_right _ h)) (by decide +kernel))
set_option maxRecDepth 20000 in
theorem gX3_requireTwoCompanies_X3_requireCompany : GoodIn wsX3_requireTwoCompanies (va_wsS RX3 71 yX3_requireCompany wsX3_requireCompany) := goodIn_app (goodIn_of _ (by decide +kernel)) ggX3_requireTwoCompanies_X3_requireCompany
theorem dX3_requireTwoCompanies_0 : decode cX3_requireTwoCompanies 0 = .ok (.iload_n 0, 1) := by decide +kernel
theorem dX3_requireTwoCompanies_1 : decode cX3_requireTwoCompanies 1 = .ok (.invokestatic 71, 3) := by decide +kernel
theorem dX3_requireTwoCompanies_4 : decode cX3_requireTwoCompanies 4 = .ok (.iload_n 1, 1) := by decide +kernel
theorem dX3_requireTwoCompanies_5 : decode cX3_requireTwoCompanies 5 = .ok (.invokestatic 71, 3) := by decide +kernel
theorem dX3_requireTwoCompanies_8 : decode cX3_requireTwoCompanies 8 = .ok (.iload_n 0, 1) := by decide +kernel
theorem dX3_requireTwoCompanies_9 : decode cX3_requireTwoCompanies 9 = .ok (.iload_n 1, 1) := by decide +kernel
theorem dX3_requireTwoCompanies_10 : decode cX3_requireTwoCompanies 10 = .ok (.if_icmp .ne 13, 3) := by decide +kernel
theorem dX3_requireTwoCompanies_13 : decode cX3_requireTwoCompanies 13 = .ok (.new 155, 3) := by decide +kernel
theorem dX3_requireTwoCompanies_16 : decode cX3_requireTwoCompanies 16 = .ok (.dup, 1) := by decide +kernel
theorem dX3_requireTwoCompanies_17 : decode cX3_requireTwoCompanies 17 = .ok (.ldc 163, 2) := by decide +kernel
theorem dX3_requireTwoCompanies_19 : decode cX3_requireTwoCompanies 19 = .ok (.invokespecial 159, 3) := by decide +kernel
theorem dX3_requireTwoCompanies_22 : decode cX3_requireTwoCompanies 22 = .ok (.athrow, 1) := by decide +kernel
theorem dX3_requireTwoCompanies_23 : decode cX3_requireTwoCompanies 23 = .ok (.return_, 1) := by decide +kernel
theorem dX3_requireRange_0 : decode cX3_requireRange 0 = .ok (.iload_n 0, 1) := by decide +kernel
theorem dX3_requireRange_1 : decode cX3_requireRange 1 = .ok (.iload_n 1, 1) := by decide +kernel
theorem dX3_requireRange_2 : decode cX3_requireRange 2 = .ok (.if_icmp .lt 8, 3) := by decide +kernel
theorem dX3_requireRange_5 : decode cX3_requireRange 5 = .ok (.iload_n 0, 1) := by decide +kernel
theorem dX3_requireRange_6 : decode cX3_requireRange 6 = .ok (.iload_n 2, 1) := by decide +kernel
theorem dX3_requireRange_7 : decode cX3_requireRange 7 = .ok (.if_icmp .le 13, 3) := by decide +kernel
theorem dX3_requireRange_10 : decode cX3_requireRange 10 = .ok (.new 155, 3) := by decide +kernel
theorem dX3_requireRange_13 : decode cX3_requireRange 13 = .ok (.dup, 1) := by decide +kernel
theorem dX3_requireRange_14 : decode cX3_requireRange 14 = .ok (.ldc 165, 2) := by decide +kernel
theorem dX3_requireRange_16 : decode cX3_requireRange 16 = .ok (.invokespecial 159, 3) := by decide +kernel
theorem dX3_requireRange_19 : decode cX3_requireRange 19 = .ok (.athrow, 1) := by decide +kernel
theorem dX3_requireRange_20 : decode cX3_requireRange 20 = .ok (.return_, 1) := by decide +kernel
theorem dX3_requireBalance_0 : decode cX3_requireBalance 0 = .ok (.iload_n 0, 1) := by decide +kernel
theorem dX3_requireBalance_1 : decode cX3_requireBalance 1 = .ok (.iload_n 1, 1) := by decide +kernel
theorem dX3_requireBalance_2 : decode cX3_requireBalance 2 = .ok (.if_icmp .eq 13, 3) := by decide +kernel
theorem dX3_requireBalance_5 : decode cX3_requireBalance 5 = .ok (.new 155, 3) := by decide +kernel
theorem dX3_requireBalance_8 : decode cX3_requireBalance 8 = .ok (.dup, 1) := by decide +kernel
theorem dX3_requireBalance_9 : decode cX3_requireBalance 9 = .ok (.ldc 167, 2) := by decide +kernel
theorem dX3_requireBalance_11 : decode cX3_requireBalance 11 = .ok (.invokespecial 159, 3) := by decide +kernel
theorem dX3_requireBalance_14 : decode cX3_requireBalance 14 = .ok (.athrow, 1) := by decide +kernel
theorem dX3_requireBalance_15 : decode cX3_requireBalance 15 = .ok (.return_, 1) := by decide +kernel
theorem dX3_requireTaken_0 : decode cX3_requireTaken 0 = .ok (.iload_n 0, 1) := by decide +kernel
theorem dX3_requireTaken_1 : decode cX3_requireTaken 1 = .ok (.ifCond .ne 13, 3) := by decide +kernel
theorem dX3_requireTaken_4 : decode cX3_requireTaken 4 = .ok (.new 142, 3) := by decide +kernel
theorem dX3_requireTaken_7 : decode cX3_requireTaken 7 = .ok (.dup, 1) := by decide +kernel
theorem dX3_requireTaken_8 : decode cX3_requireTaken 8 = .ok (.ldc 169, 2) := by decide +kernel
theorem dX3_requireTaken_10 : decode cX3_requireTaken 10 = .ok (.invokespecial 146, 3) := by decide +kernel
theorem dX3_requireTaken_13 : decode cX3_requireTaken 13 = .ok (.athrow, 1) := by decide +kernel
theorem dX3_requireTaken_14 : decode cX3_requireTaken 14 = .ok (.return_, 1) := by decide +kernel
theorem dX3_pair_0 : decode cX3_pair 0 = .ok (.iload_n 0, 1) := by decide +kernel
theorem dX3_pair_1 : decode cX3_pair 1 = .ok (.bipush 6, 2) := by decide +kernel
theorem dX3_pair_3 : decode cX3_pair 3 = .ok (.imul, 1) := by decide +kernel
theorem dX3_pair_4 : decode cX3_pair 4 = .ok (.iload_n 1, 1) := by decide +kernel
theorem dX3_pair_5 : decode cX3_pair 5 = .ok (.iadd, 1) := by decide +kernel
theorem dX3_pair_6 : decode cX3_pair 6 = .ok (.ireturn, 1) := by decide +kernel
end
section
theorem dX4_init_0 : decode cX4_init 0 = .ok (.aload_n 0, 1) := by decide +kernel
theorem dX4_init_1 : decode cX4_init 1 = .ok (.invokespecial 1, 3) := by decide +kernel
theorem dX4_init_4 : decode cX4_init 4 = .ok (.aload_n 0, 1) := by decide +kernel
theorem dX4_init_5 : decode cX4_init 5 = .ok (.bipush 36, 2) := by decide +kernel
theorem dX4_init_7 : decode cX4_init 7 = .ok (.newarray .int, 2) := by decide +kernel
theorem dX4_init_9 : decode cX4_init 9 = .ok (.putfield 7, 3) := by decide +kernel
theorem dX4_init_12 : decode cX4_init 12 = .ok (.aload_n 0, 1) := by decide +kernel
theorem dX4_init_13 : decode cX4_init 13 = .ok (.bipush 36, 2) := by decide +kernel
theorem dX4_init_15 : decode cX4_init 15 = .ok (.newarray .int, 2) := by decide +kernel
theorem dX4_init_17 : decode cX4_init 17 = .ok (.putfield 13, 3) := by decide +kernel
theorem dX4_init_20 : decode cX4_init 20 = .ok (.aload_n 0, 1) := by decide +kernel
theorem dX4_init_21 : decode cX4_init 21 = .ok (.bipush 36, 2) := by decide +kernel
theorem dX4_init_23 : decode cX4_init 23 = .ok (.newarray .int, 2) := by decide +kernel
theorem dX4_init_25 : decode cX4_init 25 = .ok (.putfield 16, 3) := by decide +kernel
theorem dX4_init_28 : decode cX4_init 28 = .ok (.aload_n 0, 1) := by decide +kernel
theorem dX4_init_29 : decode cX4_init 29 = .ok (.bipush 6, 2) := by decide +kernel
theorem dX4_init_31 : decode cX4_init 31 = .ok (.newarray .int, 2) := by decide +kernel
theorem dX4_init_33 : decode cX4_init 33 = .ok (.putfield 19, 3) := by decide +kernel
theorem dX4_init_36 : decode cX4_init 36 = .ok (.aload_n 0, 1) := by decide +kernel
theorem dX4_init_37 : decode cX4_init 37 = .ok (.bipush 6, 2) := by decide +kernel
theorem dX4_init_39 : decode cX4_init 39 = .ok (.newarray .int, 2) := by decide +kernel
theorem dX4_init_41 : decode cX4_init 41 = .ok (.putfield 22, 3) := by decide +kernel
theorem dX4_init_44 : decode cX4_init 44 = .ok (.aload_n 0, 1) := by decide +kernel
theorem dX4_init_45 : decode cX4_init 45 = .ok (.bipush 6, 2) := by decide +kernel
theorem dX4_init_47 : decode cX4_init 47 = .ok (.newarray .int, 2) := by decide +kernel
theorem dX4_init_49 : decode cX4_init 49 = .ok (.putfield 25, 3) := by decide +kernel
theorem dX4_init_52 : decode cX4_init 52 = .ok (.aload_n 0, 1) := by decide +kernel
theorem dX4_init_53 : decode cX4_init 53 = .ok (.bipush 6, 2) := by decide +kernel
theorem dX4_init_55 : decode cX4_init 55 = .ok (.newarray .int, 2) := by decide +kernel
theorem dX4_init_57 : decode cX4_init 57 = .ok (.putfield 28, 3) := by decide +kernel
theorem dX4_init_60 : decode cX4_init 60 = .ok (.aload_n 0, 1) := by decide +kernel
theorem dX4_init_61 : decode cX4_init 61 = .ok (.bipush 6, 2) := by decide +kernel
theorem dX4_init_63 : decode cX4_init 63 = .ok (.newarray .int, 2) := by decide +kernel
theorem dX4_init_65 : decode cX4_init 65 = .ok (.putfield 31, 3) := by decide +kernel
theorem dX4_init_68 : decode cX4_init 68 = .ok (.aload_n 0, 1) := by decide +kernel
theorem dX4_init_69 : decode cX4_init 69 = .ok (.bipush 6, 2) := by decide +kernel
theorem dX4_init_71 : decode cX4_init 71 = .ok (.newarray .int, 2) := by decide +kernel
theorem dX4_init_73 : decode cX4_init 73 = .ok (.putfield 34, 3) := by decide +kernel
theorem dX4_init_76 : decode cX4_init 76 = .ok (.aload_n 0, 1) := by decide +kernel
theorem dX4_init_77 : decode cX4_init 77 = .ok (.bipush 6, 2) := by decide +kernel
theorem dX4_init_79 : decode cX4_init 79 = .ok (.newarray .int, 2) := by decide +kernel
theorem dX4_init_81 : decode cX4_init 81 = .ok (.putfield 37, 3) := by decide +kernel
theorem dX4_init_84 : decode cX4_init 84 = .ok (.aload_n 0, 1) := by decide +kernel
theorem dX4_init_85 : decode cX4_init 85 = .ok (.bipush 6, 2) := by decide +kernel
theorem dX4_init_87 : decode cX4_init 87 = .ok (.newarray .int, 2) := by decide +kernel
theorem dX4_init_89 : decode cX4_init 89 = .ok (.putfield 40, 3) := by decide +kernel
theorem dX4_init_92 : decode cX4_init 92 = .ok (.aload_n 0, 1) := by decide +kernel
theorem dX4_init_93 : decode cX4_init 93 = .ok (.bipush 12, 2) := by decide +kernel
theorem dX4_init_95 : decode cX4_init 95 = .ok (.newarray .int, 2) := by decide +kernel
theorem dX4_init_97 : decode cX4_init 97 = .ok (.putfield 43, 3) := by decide +kernel
theorem dX4_init_100 : decode cX4_init 100 = .ok (.aload_n 0, 1) := by decide +kernel
theorem dX4_init_101 : decode cX4_init 101 = .ok (.bipush 25, 2) := by decide +kernel
theorem dX4_init_103 : decode cX4_init 103 = .ok (.newarray .long, 2) := by decide +kernel
theorem dX4_init_105 : decode cX4_init 105 = .ok (.putfield 46, 3) := by decide +kernel
theorem dX4_init_108 : decode cX4_init 108 = .ok (.aload_n 0, 1) := by decide +kernel
theorem dX4_init_109 : decode cX4_init 109 = .ok (.bipush 6, 2) := by decide +kernel
theorem dX4_init_111 : decode cX4_init 111 = .ok (.newarray .long, 2) := by decide +kernel
theorem dX4_init_113 : decode cX4_init 113 = .ok (.putfield 50, 3) := by decide +kernel
theorem dX4_init_116 : decode cX4_init 116 = .ok (.aload_n 0, 1) := by decide +kernel
theorem dX4_init_117 : decode cX4_init 117 = .ok (.bipush 6, 2) := by decide +kernel
theorem dX4_init_119 : decode cX4_init 119 = .ok (.newarray .long, 2) := by decide +kernel
theorem dX4_init_121 : decode cX4_init 121 = .ok (.putfield 53, 3) := by decide +kernel
theorem dX4_init_124 : decode cX4_init 124 = .ok (.aload_n 0, 1) := by decide +kernel
theorem dX4_init_125 : decode cX4_init 125 = .ok (.bipush 6, 2) := by decide +kernel
theorem dX4_init_127 : decode cX4_init 127 = .ok (.newarray .int, 2) := by decide +kernel
theorem dX4_init_129 : decode cX4_init 129 = .ok (.putfield 56, 3) := by decide +kernel
theorem dX4_init_132 : decode cX4_init 132 = .ok (.aload_n 0, 1) := by decide +kernel
theorem dX4_init_133 : decode cX4_init 133 = .ok (.bipush 6, 2) := by decide +kernel
theorem dX4_init_135 : decode cX4_init 135 = .ok (.newarray .int, 2) := by decide +kernel
theorem dX4_init_137 : decode cX4_init 137 = .ok (.putfield 59, 3) := by decide +kernel
theorem dX4_init_140 : decode cX4_init 140 = .ok (.iconst 0, 1) := by decide +kernel
theorem dX4_init_141 : decode cX4_init 141 = .ok (.istore_n 1, 1) := by decide +kernel
theorem dX4_init_142 : decode cX4_init 142 = .ok (.iload_n 1, 1) := by decide +kernel
theorem dX4_init_143 : decode cX4_init 143 = .ok (.bipush 6, 2) := by decide +kernel
theorem dX4_init_145 : decode cX4_init 145 = .ok (.if_icmp .ge 33, 3) := by decide +kernel
theorem dX4_init_148 : decode cX4_init 148 = .ok (.aload_n 0, 1) := by decide +kernel
theorem dX4_init_149 : decode cX4_init 149 = .ok (.getfield 34, 3) := by decide +kernel
theorem dX4_init_152 : decode cX4_init 152 = .ok (.iload_n 1, 1) := by decide +kernel
theorem dX4_init_153 : decode cX4_init 153 = .ok (.bipush 100, 2) := by decide +kernel
theorem dX4_init_155 : decode cX4_init 155 = .ok (.iastore, 1) := by decide +kernel
theorem dX4_init_156 : decode cX4_init 156 = .ok (.aload_n 0, 1) := by decide +kernel
theorem dX4_init_157 : decode cX4_init 157 = .ok (.getfield 37, 3) := by decide +kernel
theorem dX4_init_160 : decode cX4_init 160 = .ok (.iload_n 1, 1) := by decide +kernel
theorem dX4_init_161 : decode cX4_init 161 = .ok (.bipush 100, 2) := by decide +kernel
theorem dX4_init_163 : decode cX4_init 163 = .ok (.iastore, 1) := by decide +kernel
theorem dX4_init_164 : decode cX4_init 164 = .ok (.aload_n 0, 1) := by decide +kernel
theorem dX4_init_165 : decode cX4_init 165 = .ok (.getfield 40, 3) := by decide +kernel
theorem dX4_init_168 : decode cX4_init 168 = .ok (.iload_n 1, 1) := by decide +kernel
theorem dX4_init_169 : decode cX4_init 169 = .ok (.bipush 100, 2) := by decide +kernel
theorem dX4_init_171 : decode cX4_init 171 = .ok (.iastore, 1) := by decide +kernel
theorem dX4_init_172 : decode cX4_init 172 = .ok (.iinc 1 1, 3) := by decide +kernel
theorem dX4_init_175 : decode cX4_init 175 = .ok (.goto (-33), 3) := by decide +kernel
theorem dX4_init_178 : decode cX4_init 178 = .ok (.return_, 1) := by decide +kernel
theorem dX4_thrown_0 : decode cX4_thrown 0 = .ok (.aload_n 0, 1) := by decide +kernel
theorem dX4_thrown_1 : decode cX4_thrown 1 = .ok (.getfield 62, 3) := by decide +kernel
theorem dX4_thrown_4 : decode cX4_thrown 4 = .ok (.ireturn, 1) := by decide +kernel
theorem dX4_fails_0 : decode cX4_fails 0 = .ok (.aload_n 0, 1) := by decide +kernel
theorem dX4_fails_1 : decode cX4_fails 1 = .ok (.iload_n 1, 1) := by decide +kernel
theorem dX4_fails_2 : decode cX4_fails 2 = .ok (.putfield 62, 3) := by decide +kernel
theorem dX4_fails_5 : decode cX4_fails 5 = .ok (.iconst 0, 1) := by decide +kernel
theorem dX4_fails_6 : decode cX4_fails 6 = .ok (.ireturn, 1) := by decide +kernel
theorem dX4_in_0 : decode cX4_in 0 = .ok (.iload_n 0, 1) := by decide +kernel
theorem dX4_in_1 : decode cX4_in 1 = .ok (.iload_n 1, 1) := by decide +kernel
theorem dX4_in_2 : decode cX4_in 2 = .ok (.if_icmp .lt 12, 3) := by decide +kernel
theorem dX4_in_5 : decode cX4_in 5 = .ok (.iload_n 0, 1) := by decide +kernel
theorem dX4_in_6 : decode cX4_in 6 = .ok (.iload_n 2, 1) := by decide +kernel
theorem dX4_in_7 : decode cX4_in 7 = .ok (.if_icmp .gt 7, 3) := by decide +kernel
theorem dX4_in_10 : decode cX4_in 10 = .ok (.iconst 1, 1) := by decide +kernel
theorem dX4_in_11 : decode cX4_in 11 = .ok (.goto 4, 3) := by decide +kernel
theorem dX4_in_14 : decode cX4_in 14 = .ok (.iconst 0, 1) := by decide +kernel
theorem dX4_in_15 : decode cX4_in 15 = .ok (.ireturn, 1) := by decide +kernel
set_option maxRecDepth 20000 in
theorem ggX4_isCompany_X4_in : GoodIn wsX4_isCompany wsX4_in := goodIn_r _ [4] (by decide +kernel) (by decide +kernel)
set_option maxRecDepth 20000 in
theorem gX4_isCompany_X4_in : GoodIn wsX4_isCompany (va_wsS RX4 66 yX4_in wsX4_in) := goodIn_app (goodIn_of _ (by decide +kernel)) ggX4_isCompany_X4_in
theorem dX4_isCompany_0 : decode cX4_isCompany 0 = .ok (.iload_n 0, 1) := by decide +kernel
theorem dX4_isCompany_1 : decode cX4_isCompany 1 = .ok (.iconst 0, 1) := by decide +kernel
theorem dX4_isCompany_2 : decode cX4_isCompany 2 = .ok (.iconst 5, 1) := by decide +kernel
theorem dX4_isCompany_3 : decode cX4_isCompany 3 = .ok (.invokestatic 66, 3) := by decide +kernel
theorem dX4_isCompany_6 : decode cX4_isCompany 6 = .ok (.ireturn, 1) := by decide +kernel
set_option maxRecDepth 20000 in
theorem ggX4_isPair_X4_isCompany : GoodIn wsX4_isPair wsX4_isCompany := goodIn_r _ [4, 5, 6, 3, 7] (by decide +kernel) (by decide +kernel)
set_option maxRecDepth 20000 in
theorem gX4_isPair_X4_isCompany : GoodIn wsX4_isPair (va_wsS RX4 70 yX4_isCompany wsX4_isCompany) := goodIn_app (goodIn_of _ (by decide +kernel)) ggX4_isPair_X4_isCompany
theorem dX4_isPair_0 : decode cX4_isPair 0 = .ok (.iload_n 0, 1) := by decide +kernel
theorem dX4_isPair_1 : decode cX4_isPair 1 = .ok (.invokestatic 70, 3) := by decide +kernel
theorem dX4_isPair_4 : decode cX4_isPair 4 = .ok (.ifCond .eq 19, 3) := by decide +kernel
theorem dX4_isPair_7 : decode cX4_isPair 7 = .ok (.iload_n 1, 1) := by decide +kernel
theorem dX4_isPair_8 : decode cX4_isPair 8 = .ok (.invokestatic 70, 3) := by decide +kernel
theorem dX4_isPair_11 : decode cX4_isPair 11 = .ok (.ifCond .eq 12, 3) := by decide +kernel
theorem dX4_isPair_14 : decode cX4_isPair 14 = .ok (.iload_n 0, 1) := by decide +kernel
theorem dX4_isPair_15 : decode cX4_isPair 15 = .ok (.iload_n 1, 1) := by decide +kernel
theorem dX4_isPair_16 : decode cX4_isPair 16 = .ok (.if_icmp .eq 7, 3) := by decide +kernel
theorem dX4_isPair_19 : decode cX4_isPair 19 = .ok (.iconst 1, 1) := by decide +kernel
theorem dX4_isPair_20 : decode cX4_isPair 20 = .ok (.goto 4, 3) := by decide +kernel
theorem dX4_isPair_23 : decode cX4_isPair 23 = .ok (.iconst 0, 1) := by decide +kernel
theorem dX4_isPair_24 : decode cX4_isPair 24 = .ok (.ireturn, 1) := by decide +kernel
theorem dX4_floor_0 : decode cX4_floor 0 = .ok (.lload_n 0, 1) := by decide +kernel
theorem dX4_floor_1 : decode cX4_floor 1 = .ok (.lload_n 2, 1) := by decide +kernel
theorem dX4_floor_2 : decode cX4_floor 2 = .ok (.ldiv, 1) := by decide +kernel
theorem dX4_floor_3 : decode cX4_floor 3 = .ok (.lstore 4, 2) := by decide +kernel
theorem dX4_floor_5 : decode cX4_floor 5 = .ok (.lload_n 0, 1) := by decide +kernel
theorem dX4_floor_6 : decode cX4_floor 6 = .ok (.lload_n 2, 1) := by decide +kernel
theorem dX4_floor_7 : decode cX4_floor 7 = .ok (.lrem, 1) := by decide +kernel
theorem dX4_floor_8 : decode cX4_floor 8 = .ok (.lconst 0, 1) := by decide +kernel
theorem dX4_floor_9 : decode cX4_floor 9 = .ok (.lcmp, 1) := by decide +kernel
theorem dX4_floor_10 : decode cX4_floor 10 = .ok (.ifCond .ge 10, 3) := by decide +kernel
theorem dX4_floor_13 : decode cX4_floor 13 = .ok (.lload 4, 2) := by decide +kernel
theorem dX4_floor_15 : decode cX4_floor 15 = .ok (.lconst 1, 1) := by decide +kernel
theorem dX4_floor_16 : decode cX4_floor 16 = .ok (.lsub, 1) := by decide +kernel
theorem dX4_floor_17 : decode cX4_floor 17 = .ok (.goto 5, 3) := by decide +kernel
theorem dX4_floor_20 : decode cX4_floor 20 = .ok (.lload 4, 2) := by decide +kernel
theorem dX4_floor_22 : decode cX4_floor 22 = .ok (.lreturn, 1) := by decide +kernel
theorem dX4_laySquare_0 : decode cX4_laySquare 0 = .ok (.iconst 1, 1) := by decide +kernel
theorem dX4_laySquare_1 : decode cX4_laySquare 1 = .ok (.istore_n 2, 1) := by decide +kernel
theorem dX4_laySquare_2 : decode cX4_laySquare 2 = .ok (.iload_n 2, 1) := by decide +kernel
theorem dX4_laySquare_3 : decode cX4_laySquare 3 = .ok (.bipush 6, 2) := by decide +kernel
theorem dX4_laySquare_5 : decode cX4_laySquare 5 = .ok (.if_icmp .ge 78, 3) := by decide +kernel
theorem dX4_laySquare_8 : decode cX4_laySquare 8 = .ok (.iconst 1, 1) := by decide +kernel
theorem dX4_laySquare_9 : decode cX4_laySquare 9 = .ok (.istore_n 3, 1) := by decide +kernel
theorem dX4_laySquare_10 : decode cX4_laySquare 10 = .ok (.iload_n 3, 1) := by decide +kernel
theorem dX4_laySquare_11 : decode cX4_laySquare 11 = .ok (.bipush 6, 2) := by decide +kernel
theorem dX4_laySquare_13 : decode cX4_laySquare 13 = .ok (.if_icmp .ge 64, 3) := by decide +kernel
theorem dX4_laySquare_16 : decode cX4_laySquare 16 = .ok (.iload_n 2, 1) := by decide +kernel
theorem dX4_laySquare_17 : decode cX4_laySquare 17 = .ok (.iload_n 3, 1) := by decide +kernel
theorem dX4_laySquare_18 : decode cX4_laySquare 18 = .ok (.if_icmp .ne 8, 3) := by decide +kernel
theorem dX4_laySquare_21 : decode cX4_laySquare 21 = .ok (.bipush 100, 2) := by decide +kernel
theorem dX4_laySquare_23 : decode cX4_laySquare 23 = .ok (.goto 15, 3) := by decide +kernel
theorem dX4_laySquare_26 : decode cX4_laySquare 26 = .ok (.aload_n 0, 1) := by decide +kernel
theorem dX4_laySquare_27 : decode cX4_laySquare 27 = .ok (.getfield 7, 3) := by decide +kernel
theorem dX4_laySquare_30 : decode cX4_laySquare 30 = .ok (.bipush 6, 2) := by decide +kernel
theorem dX4_laySquare_32 : decode cX4_laySquare 32 = .ok (.iload_n 3, 1) := by decide +kernel
theorem dX4_laySquare_33 : decode cX4_laySquare 33 = .ok (.imul, 1) := by decide +kernel
theorem dX4_laySquare_34 : decode cX4_laySquare 34 = .ok (.iload_n 2, 1) := by decide +kernel
theorem dX4_laySquare_35 : decode cX4_laySquare 35 = .ok (.iadd, 1) := by decide +kernel
theorem dX4_laySquare_36 : decode cX4_laySquare 36 = .ok (.iaload, 1) := by decide +kernel
theorem dX4_laySquare_37 : decode cX4_laySquare 37 = .ok (.ineg, 1) := by decide +kernel
theorem dX4_laySquare_38 : decode cX4_laySquare 38 = .ok (.istore 4, 2) := by decide +kernel
theorem dX4_laySquare_40 : decode cX4_laySquare 40 = .ok (.aload_n 0, 1) := by decide +kernel
theorem dX4_laySquare_41 : decode cX4_laySquare 41 = .ok (.getfield 46, 3) := by decide +kernel
theorem dX4_laySquare_44 : decode cX4_laySquare 44 = .ok (.iconst 5, 1) := by decide +kernel
theorem dX4_laySquare_45 : decode cX4_laySquare 45 = .ok (.iload_n 2, 1) := by decide +kernel
theorem dX4_laySquare_46 : decode cX4_laySquare 46 = .ok (.imul, 1) := by decide +kernel
theorem dX4_laySquare_47 : decode cX4_laySquare 47 = .ok (.iload_n 3, 1) := by decide +kernel
theorem dX4_laySquare_48 : decode cX4_laySquare 48 = .ok (.iadd, 1) := by decide +kernel
theorem dX4_laySquare_49 : decode cX4_laySquare 49 = .ok (.bipush 6, 2) := by decide +kernel
theorem dX4_laySquare_51 : decode cX4_laySquare 51 = .ok (.isub, 1) := by decide +kernel
theorem dX4_laySquare_52 : decode cX4_laySquare 52 = .ok (.iload_n 3, 1) := by decide +kernel
theorem dX4_laySquare_53 : decode cX4_laySquare 53 = .ok (.iload_n 1, 1) := by decide +kernel
theorem dX4_laySquare_54 : decode cX4_laySquare 54 = .ok (.if_icmp .ne 13, 3) := by decide +kernel
theorem dX4_laySquare_57 : decode cX4_laySquare 57 = .ok (.aload_n 0, 1) := by decide +kernel
theorem dX4_laySquare_58 : decode cX4_laySquare 58 = .ok (.getfield 7, 3) := by decide +kernel
theorem dX4_laySquare_61 : decode cX4_laySquare 61 = .ok (.iload_n 2, 1) := by decide +kernel
theorem dX4_laySquare_62 : decode cX4_laySquare 62 = .ok (.iaload, 1) := by decide +kernel
theorem dX4_laySquare_63 : decode cX4_laySquare 63 = .ok (.i2l, 1) := by decide +kernel
theorem dX4_laySquare_64 : decode cX4_laySquare 64 = .ok (.goto 6, 3) := by decide +kernel
theorem dX4_laySquare_67 : decode cX4_laySquare 67 = .ok (.iload 4, 2) := by decide +kernel
theorem dX4_laySquare_69 : decode cX4_laySquare 69 = .ok (.i2l, 1) := by decide +kernel
theorem dX4_laySquare_70 : decode cX4_laySquare 70 = .ok (.lastore, 1) := by decide +kernel
theorem dX4_laySquare_71 : decode cX4_laySquare 71 = .ok (.iinc 3 1, 3) := by decide +kernel
theorem dX4_laySquare_74 : decode cX4_laySquare 74 = .ok (.goto (-64), 3) := by decide +kernel
theorem dX4_laySquare_77 : decode cX4_laySquare 77 = .ok (.iinc 2 1, 3) := by decide +kernel
theorem dX4_laySquare_80 : decode cX4_laySquare 80 = .ok (.goto (-78), 3) := by decide +kernel
theorem dX4_laySquare_83 : decode cX4_laySquare 83 = .ok (.return_, 1) := by decide +kernel
theorem dX4_exchange_0 : decode cX4_exchange 0 = .ok (.iconst 0, 1) := by decide +kernel
theorem dX4_exchange_1 : decode cX4_exchange 1 = .ok (.istore_n 3, 1) := by decide +kernel
theorem dX4_exchange_2 : decode cX4_exchange 2 = .ok (.iload_n 3, 1) := by decide +kernel
theorem dX4_exchange_3 : decode cX4_exchange 3 = .ok (.iconst 5, 1) := by decide +kernel
theorem dX4_exchange_4 : decode cX4_exchange 4 = .ok (.if_icmp .ge 53, 3) := by decide +kernel
theorem dX4_exchange_7 : decode cX4_exchange 7 = .ok (.aload_n 0, 1) := by decide +kernel
theorem dX4_exchange_8 : decode cX4_exchange 8 = .ok (.getfield 46, 3) := by decide +kernel
theorem dX4_exchange_11 : decode cX4_exchange 11 = .ok (.iconst 5, 1) := by decide +kernel
theorem dX4_exchange_12 : decode cX4_exchange 12 = .ok (.iload_n 1, 1) := by decide +kernel
theorem dX4_exchange_13 : decode cX4_exchange 13 = .ok (.imul, 1) := by decide +kernel
theorem dX4_exchange_14 : decode cX4_exchange 14 = .ok (.iload_n 3, 1) := by decide +kernel
theorem dX4_exchange_15 : decode cX4_exchange 15 = .ok (.iadd, 1) := by decide +kernel
theorem dX4_exchange_16 : decode cX4_exchange 16 = .ok (.laload, 1) := by decide +kernel
theorem dX4_exchange_17 : decode cX4_exchange 17 = .ok (.lstore 4, 2) := by decide +kernel
theorem dX4_exchange_19 : decode cX4_exchange 19 = .ok (.aload_n 0, 1) := by decide +kernel
theorem dX4_exchange_20 : decode cX4_exchange 20 = .ok (.getfield 46, 3) := by decide +kernel
theorem dX4_exchange_23 : decode cX4_exchange 23 = .ok (.iconst 5, 1) := by decide +kernel
theorem dX4_exchange_24 : decode cX4_exchange 24 = .ok (.iload_n 1, 1) := by decide +kernel
theorem dX4_exchange_25 : decode cX4_exchange 25 = .ok (.imul, 1) := by decide +kernel
theorem dX4_exchange_26 : decode cX4_exchange 26 = .ok (.iload_n 3, 1) := by decide +kernel
theorem dX4_exchange_27 : decode cX4_exchange 27 = .ok (.iadd, 1) := by decide +kernel
theorem dX4_exchange_28 : decode cX4_exchange 28 = .ok (.aload_n 0, 1) := by decide +kernel
theorem dX4_exchange_29 : decode cX4_exchange 29 = .ok (.getfield 46, 3) := by decide +kernel
theorem dX4_exchange_32 : decode cX4_exchange 32 = .ok (.iconst 5, 1) := by decide +kernel
theorem dX4_exchange_33 : decode cX4_exchange 33 = .ok (.iload_n 2, 1) := by decide +kernel
theorem dX4_exchange_34 : decode cX4_exchange 34 = .ok (.imul, 1) := by decide +kernel
theorem dX4_exchange_35 : decode cX4_exchange 35 = .ok (.iload_n 3, 1) := by decide +kernel
theorem dX4_exchange_36 : decode cX4_exchange 36 = .ok (.iadd, 1) := by decide +kernel
theorem dX4_exchange_37 : decode cX4_exchange 37 = .ok (.laload, 1) := by decide +kernel
theorem dX4_exchange_38 : decode cX4_exchange 38 = .ok (.lastore, 1) := by decide +kernel
theorem dX4_exchange_39 : decode cX4_exchange 39 = .ok (.aload_n 0, 1) := by decide +kernel
theorem dX4_exchange_40 : decode cX4_exchange 40 = .ok (.getfield 46, 3) := by decide +kernel
theorem dX4_exchange_43 : decode cX4_exchange 43 = .ok (.iconst 5, 1) := by decide +kernel
theorem dX4_exchange_44 : decode cX4_exchange 44 = .ok (.iload_n 2, 1) := by decide +kernel
theorem dX4_exchange_45 : decode cX4_exchange 45 = .ok (.imul, 1) := by decide +kernel
theorem dX4_exchange_46 : decode cX4_exchange 46 = .ok (.iload_n 3, 1) := by decide +kernel
theorem dX4_exchange_47 : decode cX4_exchange 47 = .ok (.iadd, 1) := by decide +kernel
theorem dX4_exchange_48 : decode cX4_exchange 48 = .ok (.lload 4, 2) := by decide +kernel
theorem dX4_exchange_50 : decode cX4_exchange 50 = .ok (.lastore, 1) := by decide +kernel
theorem dX4_exchange_51 : decode cX4_exchange 51 = .ok (.iinc 3 1, 3) := by decide +kernel
theorem dX4_exchange_54 : decode cX4_exchange 54 = .ok (.goto (-52), 3) := by decide +kernel
theorem dX4_exchange_57 : decode cX4_exchange 57 = .ok (.return_, 1) := by decide +kernel
set_option maxRecDepth 20000 in
theorem ggX4_determinant_X4_exchange : GoodIn wsX4_determinant wsX4_exchange := goodIn_r _ [6, 1, 7, 8, 9, 10, 11, 12, 13, 14, 15, 16, 17, 18, 19, 20, 21, 22, 23, 24, 25] (by decide +kernel) (by decide +kernel)
set_option maxRecDepth 20000 in
theorem gX4_determinant_X4_exchange : GoodIn wsX4_determinant (wsV RX4 74 RX4 yX4_exchange wsX4_exchange) := goodIn_app (goodIn_of _ (by decide +kernel)) ggX4_determinant_X4_exchange
theorem dX4_determinant_0 : decode cX4_determinant 0 = .ok (.lconst 1, 1) := by decide +kernel
theorem dX4_determinant_1 : decode cX4_determinant 1 = .ok (.lstore_n 1, 1) := by decide +kernel
theorem dX4_determinant_2 : decode cX4_determinant 2 = .ok (.lconst 1, 1) := by decide +kernel
theorem dX4_determinant_3 : decode cX4_determinant 3 = .ok (.lstore_n 3, 1) := by decide +kernel
theorem dX4_determinant_4 : decode cX4_determinant 4 = .ok (.iconst 0, 1) := by decide +kernel
theorem dX4_determinant_5 : decode cX4_determinant 5 = .ok (.istore 5, 2) := by decide +kernel
theorem dX4_determinant_7 : decode cX4_determinant 7 = .ok (.iload 5, 2) := by decide +kernel
theorem dX4_determinant_9 : decode cX4_determinant 9 = .ok (.iconst 4, 1) := by decide +kernel
theorem dX4_determinant_10 : decode cX4_determinant 10 = .ok (.if_icmp .ge 178, 3) := by decide +kernel
theorem dX4_determinant_13 : decode cX4_determinant 13 = .ok (.iload 5, 2) := by decide +kernel
theorem dX4_determinant_15 : decode cX4_determinant 15 = .ok (.istore 6, 2) := by decide +kernel
theorem dX4_determinant_17 : decode cX4_determinant 17 = .ok (.iload 6, 2) := by decide +kernel
theorem dX4_determinant_19 : decode cX4_determinant 19 = .ok (.iconst 5, 1) := by decide +kernel
theorem dX4_determinant_20 : decode cX4_determinant 20 = .ok (.if_icmp .ge 26, 3) := by decide +kernel
theorem dX4_determinant_23 : decode cX4_determinant 23 = .ok (.aload_n 0, 1) := by decide +kernel
theorem dX4_determinant_24 : decode cX4_determinant 24 = .ok (.getfield 46, 3) := by decide +kernel
theorem dX4_determinant_27 : decode cX4_determinant 27 = .ok (.iconst 5, 1) := by decide +kernel
theorem dX4_determinant_28 : decode cX4_determinant 28 = .ok (.iload 6, 2) := by decide +kernel
theorem dX4_determinant_30 : decode cX4_determinant 30 = .ok (.imul, 1) := by decide +kernel
theorem dX4_determinant_31 : decode cX4_determinant 31 = .ok (.iload 5, 2) := by decide +kernel
theorem dX4_determinant_33 : decode cX4_determinant 33 = .ok (.iadd, 1) := by decide +kernel
theorem dX4_determinant_34 : decode cX4_determinant 34 = .ok (.laload, 1) := by decide +kernel
theorem dX4_determinant_35 : decode cX4_determinant 35 = .ok (.lconst 0, 1) := by decide +kernel
theorem dX4_determinant_36 : decode cX4_determinant 36 = .ok (.lcmp, 1) := by decide +kernel
theorem dX4_determinant_37 : decode cX4_determinant 37 = .ok (.ifCond .ne 9, 3) := by decide +kernel
theorem dX4_determinant_40 : decode cX4_determinant 40 = .ok (.iinc 6 1, 3) := by decide +kernel
theorem dX4_determinant_43 : decode cX4_determinant 43 = .ok (.goto (-26), 3) := by decide +kernel
theorem dX4_determinant_46 : decode cX4_determinant 46 = .ok (.iload 6, 2) := by decide +kernel
theorem dX4_determinant_48 : decode cX4_determinant 48 = .ok (.iconst 5, 1) := by decide +kernel
theorem dX4_determinant_49 : decode cX4_determinant 49 = .ok (.if_icmp .ne 5, 3) := by decide +kernel
theorem dX4_determinant_52 : decode cX4_determinant 52 = .ok (.lconst 0, 1) := by decide +kernel
theorem dX4_determinant_53 : decode cX4_determinant 53 = .ok (.lreturn, 1) := by decide +kernel
theorem dX4_determinant_54 : decode cX4_determinant 54 = .ok (.iload 6, 2) := by decide +kernel
theorem dX4_determinant_56 : decode cX4_determinant 56 = .ok (.iload 5, 2) := by decide +kernel
theorem dX4_determinant_58 : decode cX4_determinant 58 = .ok (.if_icmp .eq 14, 3) := by decide +kernel
theorem dX4_determinant_61 : decode cX4_determinant 61 = .ok (.aload_n 0, 1) := by decide +kernel
theorem dX4_determinant_62 : decode cX4_determinant 62 = .ok (.iload 6, 2) := by decide +kernel
theorem dX4_determinant_64 : decode cX4_determinant 64 = .ok (.iload 5, 2) := by decide +kernel
theorem dX4_determinant_66 : decode cX4_determinant 66 = .ok (.invokevirtual 74, 3) := by decide +kernel
theorem dX4_determinant_69 : decode cX4_determinant 69 = .ok (.lload_n 1, 1) := by decide +kernel
theorem dX4_determinant_70 : decode cX4_determinant 70 = .ok (.lneg, 1) := by decide +kernel
theorem dX4_determinant_71 : decode cX4_determinant 71 = .ok (.lstore_n 1, 1) := by decide +kernel
theorem dX4_determinant_72 : decode cX4_determinant 72 = .ok (.iload 5, 2) := by decide +kernel
theorem dX4_determinant_74 : decode cX4_determinant 74 = .ok (.iconst 1, 1) := by decide +kernel
theorem dX4_determinant_75 : decode cX4_determinant 75 = .ok (.iadd, 1) := by decide +kernel
theorem dX4_determinant_76 : decode cX4_determinant 76 = .ok (.istore 7, 2) := by decide +kernel
theorem dX4_determinant_78 : decode cX4_determinant 78 = .ok (.iload 7, 2) := by decide +kernel
theorem dX4_determinant_80 : decode cX4_determinant 80 = .ok (.iconst 5, 1) := by decide +kernel
theorem dX4_determinant_81 : decode cX4_determinant 81 = .ok (.if_icmp .ge 90, 3) := by decide +kernel
theorem dX4_determinant_84 : decode cX4_determinant 84 = .ok (.iload 5, 2) := by decide +kernel
theorem dX4_determinant_86 : decode cX4_determinant 86 = .ok (.iconst 1, 1) := by decide +kernel
theorem dX4_determinant_87 : decode cX4_determinant 87 = .ok (.iadd, 1) := by decide +kernel
theorem dX4_determinant_88 : decode cX4_determinant 88 = .ok (.istore 8, 2) := by decide +kernel
theorem dX4_determinant_90 : decode cX4_determinant 90 = .ok (.iload 8, 2) := by decide +kernel
theorem dX4_determinant_92 : decode cX4_determinant 92 = .ok (.iconst 5, 1) := by decide +kernel
theorem dX4_determinant_93 : decode cX4_determinant 93 = .ok (.if_icmp .ge 72, 3) := by decide +kernel
theorem dX4_determinant_96 : decode cX4_determinant 96 = .ok (.aload_n 0, 1) := by decide +kernel
theorem dX4_determinant_97 : decode cX4_determinant 97 = .ok (.getfield 46, 3) := by decide +kernel
theorem dX4_determinant_100 : decode cX4_determinant 100 = .ok (.iconst 5, 1) := by decide +kernel
theorem dX4_determinant_101 : decode cX4_determinant 101 = .ok (.iload 7, 2) := by decide +kernel
theorem dX4_determinant_103 : decode cX4_determinant 103 = .ok (.imul, 1) := by decide +kernel
theorem dX4_determinant_104 : decode cX4_determinant 104 = .ok (.iload 8, 2) := by decide +kernel
theorem dX4_determinant_106 : decode cX4_determinant 106 = .ok (.iadd, 1) := by decide +kernel
theorem dX4_determinant_107 : decode cX4_determinant 107 = .ok (.aload_n 0, 1) := by decide +kernel
theorem dX4_determinant_108 : decode cX4_determinant 108 = .ok (.getfield 46, 3) := by decide +kernel
theorem dX4_determinant_111 : decode cX4_determinant 111 = .ok (.iconst 5, 1) := by decide +kernel
theorem dX4_determinant_112 : decode cX4_determinant 112 = .ok (.iload 7, 2) := by decide +kernel
theorem dX4_determinant_114 : decode cX4_determinant 114 = .ok (.imul, 1) := by decide +kernel
theorem dX4_determinant_115 : decode cX4_determinant 115 = .ok (.iload 8, 2) := by decide +kernel
theorem dX4_determinant_117 : decode cX4_determinant 117 = .ok (.iadd, 1) := by decide +kernel
theorem dX4_determinant_118 : decode cX4_determinant 118 = .ok (.laload, 1) := by decide +kernel
theorem dX4_determinant_119 : decode cX4_determinant 119 = .ok (.aload_n 0, 1) := by decide +kernel
theorem dX4_determinant_120 : decode cX4_determinant 120 = .ok (.getfield 46, 3) := by decide +kernel
theorem dX4_determinant_123 : decode cX4_determinant 123 = .ok (.bipush 6, 2) := by decide +kernel
theorem dX4_determinant_125 : decode cX4_determinant 125 = .ok (.iload 5, 2) := by decide +kernel
theorem dX4_determinant_127 : decode cX4_determinant 127 = .ok (.imul, 1) := by decide +kernel
theorem dX4_determinant_128 : decode cX4_determinant 128 = .ok (.laload, 1) := by decide +kernel
theorem dX4_determinant_129 : decode cX4_determinant 129 = .ok (.lmul, 1) := by decide +kernel
theorem dX4_determinant_130 : decode cX4_determinant 130 = .ok (.aload_n 0, 1) := by decide +kernel
theorem dX4_determinant_131 : decode cX4_determinant 131 = .ok (.getfield 46, 3) := by decide +kernel
theorem dX4_determinant_134 : decode cX4_determinant 134 = .ok (.iconst 5, 1) := by decide +kernel
theorem dX4_determinant_135 : decode cX4_determinant 135 = .ok (.iload 7, 2) := by decide +kernel
theorem dX4_determinant_137 : decode cX4_determinant 137 = .ok (.imul, 1) := by decide +kernel
theorem dX4_determinant_138 : decode cX4_determinant 138 = .ok (.iload 5, 2) := by decide +kernel
theorem dX4_determinant_140 : decode cX4_determinant 140 = .ok (.iadd, 1) := by decide +kernel
theorem dX4_determinant_141 : decode cX4_determinant 141 = .ok (.laload, 1) := by decide +kernel
theorem dX4_determinant_142 : decode cX4_determinant 142 = .ok (.aload_n 0, 1) := by decide +kernel
theorem dX4_determinant_143 : decode cX4_determinant 143 = .ok (.getfield 46, 3) := by decide +kernel
theorem dX4_determinant_146 : decode cX4_determinant 146 = .ok (.iconst 5, 1) := by decide +kernel
theorem dX4_determinant_147 : decode cX4_determinant 147 = .ok (.iload 5, 2) := by decide +kernel
theorem dX4_determinant_149 : decode cX4_determinant 149 = .ok (.imul, 1) := by decide +kernel
theorem dX4_determinant_150 : decode cX4_determinant 150 = .ok (.iload 8, 2) := by decide +kernel
theorem dX4_determinant_152 : decode cX4_determinant 152 = .ok (.iadd, 1) := by decide +kernel
theorem dX4_determinant_153 : decode cX4_determinant 153 = .ok (.laload, 1) := by decide +kernel
theorem dX4_determinant_154 : decode cX4_determinant 154 = .ok (.lmul, 1) := by decide +kernel
theorem dX4_determinant_155 : decode cX4_determinant 155 = .ok (.lsub, 1) := by decide +kernel
theorem dX4_determinant_156 : decode cX4_determinant 156 = .ok (.lload_n 3, 1) := by decide +kernel
theorem dX4_determinant_157 : decode cX4_determinant 157 = .ok (.ldiv, 1) := by decide +kernel
theorem dX4_determinant_158 : decode cX4_determinant 158 = .ok (.lastore, 1) := by decide +kernel
theorem dX4_determinant_159 : decode cX4_determinant 159 = .ok (.iinc 8 1, 3) := by decide +kernel
theorem dX4_determinant_162 : decode cX4_determinant 162 = .ok (.goto (-72), 3) := by decide +kernel
theorem dX4_determinant_165 : decode cX4_determinant 165 = .ok (.iinc 7 1, 3) := by decide +kernel
theorem dX4_determinant_168 : decode cX4_determinant 168 = .ok (.goto (-90), 3) := by decide +kernel
theorem dX4_determinant_171 : decode cX4_determinant 171 = .ok (.aload_n 0, 1) := by decide +kernel
theorem dX4_determinant_172 : decode cX4_determinant 172 = .ok (.getfield 46, 3) := by decide +kernel
theorem dX4_determinant_175 : decode cX4_determinant 175 = .ok (.bipush 6, 2) := by decide +kernel
theorem dX4_determinant_177 : decode cX4_determinant 177 = .ok (.iload 5, 2) := by decide +kernel
theorem dX4_determinant_179 : decode cX4_determinant 179 = .ok (.imul, 1) := by decide +kernel
theorem dX4_determinant_180 : decode cX4_determinant 180 = .ok (.laload, 1) := by decide +kernel
theorem dX4_determinant_181 : decode cX4_determinant 181 = .ok (.lstore_n 3, 1) := by decide +kernel
theorem dX4_determinant_182 : decode cX4_determinant 182 = .ok (.iinc 5 1, 3) := by decide +kernel
theorem dX4_determinant_185 : decode cX4_determinant 185 = .ok (.goto (-178), 3) := by decide +kernel
theorem dX4_determinant_188 : decode cX4_determinant 188 = .ok (.lload_n 1, 1) := by decide +kernel
theorem dX4_determinant_189 : decode cX4_determinant 189 = .ok (.aload_n 0, 1) := by decide +kernel
theorem dX4_determinant_190 : decode cX4_determinant 190 = .ok (.getfield 46, 3) := by decide +kernel
theorem dX4_determinant_193 : decode cX4_determinant 193 = .ok (.bipush 24, 2) := by decide +kernel
theorem dX4_determinant_195 : decode cX4_determinant 195 = .ok (.laload, 1) := by decide +kernel
theorem dX4_determinant_196 : decode cX4_determinant 196 = .ok (.lmul, 1) := by decide +kernel
theorem dX4_determinant_197 : decode cX4_determinant 197 = .ok (.lreturn, 1) := by decide +kernel
theorem dX4_common_0 : decode cX4_common 0 = .ok (.lload_n 0, 1) := by decide +kernel
theorem dX4_common_1 : decode cX4_common 1 = .ok (.lstore 4, 2) := by decide +kernel
theorem dX4_common_3 : decode cX4_common 3 = .ok (.lload_n 2, 1) := by decide +kernel
theorem dX4_common_4 : decode cX4_common 4 = .ok (.lstore 6, 2) := by decide +kernel
theorem dX4_common_6 : decode cX4_common 6 = .ok (.lload 6, 2) := by decide +kernel
theorem dX4_common_8 : decode cX4_common 8 = .ok (.lconst 0, 1) := by decide +kernel
theorem dX4_common_9 : decode cX4_common 9 = .ok (.lcmp, 1) := by decide +kernel
theorem dX4_common_10 : decode cX4_common 10 = .ok (.ifCond .eq 21, 3) := by decide +kernel
theorem dX4_common_13 : decode cX4_common 13 = .ok (.lload 4, 2) := by decide +kernel
theorem dX4_common_15 : decode cX4_common 15 = .ok (.lload 6, 2) := by decide +kernel
theorem dX4_common_17 : decode cX4_common 17 = .ok (.lrem, 1) := by decide +kernel
theorem dX4_common_18 : decode cX4_common 18 = .ok (.lstore 8, 2) := by decide +kernel
theorem dX4_common_20 : decode cX4_common 20 = .ok (.lload 6, 2) := by decide +kernel
theorem dX4_common_22 : decode cX4_common 22 = .ok (.lstore 4, 2) := by decide +kernel
theorem dX4_common_24 : decode cX4_common 24 = .ok (.lload 8, 2) := by decide +kernel
theorem dX4_common_26 : decode cX4_common 26 = .ok (.lstore 6, 2) := by decide +kernel
theorem dX4_common_28 : decode cX4_common 28 = .ok (.goto (-22), 3) := by decide +kernel
theorem dX4_common_31 : decode cX4_common 31 = .ok (.lload 4, 2) := by decide +kernel
theorem dX4_common_33 : decode cX4_common 33 = .ok (.lreturn, 1) := by decide +kernel
set_option maxRecDepth 20000 in
theorem ggX4_layShares_X4_laySquare : GoodIn wsX4_layShares wsX4_laySquare := goodIn_r _ [7, 8, 9, 21, 22, 23, 24, 25, 26, 27, 28, 29, 30, 31, 32, 33, 34, 35, 36, 37, 38, 39] (by decide +kernel) (by decide +kernel)
set_option maxRecDepth 20000 in
theorem gX4_layShares_X4_laySquare : GoodIn wsX4_layShares (wsV RX4 78 RX4 yX4_laySquare wsX4_laySquare) := goodIn_app (goodIn_of _ (by decide +kernel)) ggX4_layShares_X4_laySquare
set_option maxRecDepth 20000 in
theorem ggX4_layShares_X4_determinant : GoodIn wsX4_layShares wsX4_determinant := goodIn_r _ [13, 9, 14, 15, 16, 6, 17, 21, 22, 23, 24, 25, 26, 27, 28, 29, 30, 31, 32, 33, 34, 35, 36, 37, 38, 39] (by decide +kernel) (by decide +kernel)
set_option maxRecDepth 20000 in
theorem gX4_layShares_X4_determinant : GoodIn wsX4_layShares (wsV RX4 82 RX4 yX4_determinant wsX4_determinant) := goodIn_app (goodIn_of _ (by decide +kernel)) ggX4_layShares_X4_determinant
set_option maxRecDepth 20000 in
theorem ggX4_layShares_X4_common : GoodIn wsX4_layShares wsX4_common := goodIn_r _ [20] (by decide +kernel) (by decide +kernel)
set_option maxRecDepth 20000 in
theorem gX4_layShares_X4_common : GoodIn wsX4_layShares (va_wsS RX4 86 yX4_common wsX4_common) := goodIn_app (goodIn_of _ (by decide +kernel)) ggX4_layShares_X4_common
theorem dX4_layShares_0 : decode cX4_layShares 0 = .ok (.aload_n 0, 1) := by decide +kernel
theorem dX4_layShares_1 : decode cX4_layShares 1 = .ok (.iconst 0, 1) := by decide +kernel
theorem dX4_layShares_2 : decode cX4_layShares 2 = .ok (.invokevirtual 78, 3) := by decide +kernel
theorem dX4_layShares_5 : decode cX4_layShares 5 = .ok (.aload_n 0, 1) := by decide +kernel
theorem dX4_layShares_6 : decode cX4_layShares 6 = .ok (.invokevirtual 82, 3) := by decide +kernel
theorem dX4_layShares_9 : decode cX4_layShares 9 = .ok (.lstore_n 1, 1) := by decide +kernel
theorem dX4_layShares_10 : decode cX4_layShares 10 = .ok (.aload_n 0, 1) := by decide +kernel
theorem dX4_layShares_11 : decode cX4_layShares 11 = .ok (.getfield 50, 3) := by decide +kernel
theorem dX4_layShares_14 : decode cX4_layShares 14 = .ok (.iconst 0, 1) := by decide +kernel
theorem dX4_layShares_15 : decode cX4_layShares 15 = .ok (.lconst 1, 1) := by decide +kernel
theorem dX4_layShares_16 : decode cX4_layShares 16 = .ok (.lastore, 1) := by decide +kernel
theorem dX4_layShares_17 : decode cX4_layShares 17 = .ok (.aload_n 0, 1) := by decide +kernel
theorem dX4_layShares_18 : decode cX4_layShares 18 = .ok (.getfield 53, 3) := by decide +kernel
theorem dX4_layShares_21 : decode cX4_layShares 21 = .ok (.iconst 0, 1) := by decide +kernel
theorem dX4_layShares_22 : decode cX4_layShares 22 = .ok (.lconst 1, 1) := by decide +kernel
theorem dX4_layShares_23 : decode cX4_layShares 23 = .ok (.lastore, 1) := by decide +kernel
theorem dX4_layShares_24 : decode cX4_layShares 24 = .ok (.iconst 1, 1) := by decide +kernel
theorem dX4_layShares_25 : decode cX4_layShares 25 = .ok (.istore_n 3, 1) := by decide +kernel
theorem dX4_layShares_26 : decode cX4_layShares 26 = .ok (.iload_n 3, 1) := by decide +kernel
theorem dX4_layShares_27 : decode cX4_layShares 27 = .ok (.bipush 6, 2) := by decide +kernel
theorem dX4_layShares_29 : decode cX4_layShares 29 = .ok (.if_icmp .ge 95, 3) := by decide +kernel
theorem dX4_layShares_32 : decode cX4_layShares 32 = .ok (.lload_n 1, 1) := by decide +kernel
theorem dX4_layShares_33 : decode cX4_layShares 33 = .ok (.lconst 0, 1) := by decide +kernel
theorem dX4_layShares_34 : decode cX4_layShares 34 = .ok (.lcmp, 1) := by decide +kernel
theorem dX4_layShares_35 : decode cX4_layShares 35 = .ok (.ifCond .eq 89, 3) := by decide +kernel
theorem dX4_layShares_38 : decode cX4_layShares 38 = .ok (.aload_n 0, 1) := by decide +kernel
theorem dX4_layShares_39 : decode cX4_layShares 39 = .ok (.iload_n 3, 1) := by decide +kernel
theorem dX4_layShares_40 : decode cX4_layShares 40 = .ok (.invokevirtual 78, 3) := by decide +kernel
theorem dX4_layShares_43 : decode cX4_layShares 43 = .ok (.aload_n 0, 1) := by decide +kernel
theorem dX4_layShares_44 : decode cX4_layShares 44 = .ok (.invokevirtual 82, 3) := by decide +kernel
theorem dX4_layShares_47 : decode cX4_layShares 47 = .ok (.lstore 4, 2) := by decide +kernel
theorem dX4_layShares_49 : decode cX4_layShares 49 = .ok (.lload 4, 2) := by decide +kernel
theorem dX4_layShares_51 : decode cX4_layShares 51 = .ok (.lconst 0, 1) := by decide +kernel
theorem dX4_layShares_52 : decode cX4_layShares 52 = .ok (.lcmp, 1) := by decide +kernel
theorem dX4_layShares_53 : decode cX4_layShares 53 = .ok (.ifCond .ge 9, 3) := by decide +kernel
theorem dX4_layShares_56 : decode cX4_layShares 56 = .ok (.lload 4, 2) := by decide +kernel
theorem dX4_layShares_58 : decode cX4_layShares 58 = .ok (.lneg, 1) := by decide +kernel
theorem dX4_layShares_59 : decode cX4_layShares 59 = .ok (.goto 5, 3) := by decide +kernel
theorem dX4_layShares_62 : decode cX4_layShares 62 = .ok (.lload 4, 2) := by decide +kernel
theorem dX4_layShares_64 : decode cX4_layShares 64 = .ok (.lload_n 1, 1) := by decide +kernel
theorem dX4_layShares_65 : decode cX4_layShares 65 = .ok (.lconst 0, 1) := by decide +kernel
theorem dX4_layShares_66 : decode cX4_layShares 66 = .ok (.lcmp, 1) := by decide +kernel
theorem dX4_layShares_67 : decode cX4_layShares 67 = .ok (.ifCond .ge 8, 3) := by decide +kernel
theorem dX4_layShares_70 : decode cX4_layShares 70 = .ok (.lload_n 1, 1) := by decide +kernel
theorem dX4_layShares_71 : decode cX4_layShares 71 = .ok (.lneg, 1) := by decide +kernel
theorem dX4_layShares_72 : decode cX4_layShares 72 = .ok (.goto 4, 3) := by decide +kernel
theorem dX4_layShares_75 : decode cX4_layShares 75 = .ok (.lload_n 1, 1) := by decide +kernel
theorem dX4_layShares_76 : decode cX4_layShares 76 = .ok (.invokestatic 86, 3) := by decide +kernel
theorem dX4_layShares_79 : decode cX4_layShares 79 = .ok (.lstore 6, 2) := by decide +kernel
theorem dX4_layShares_81 : decode cX4_layShares 81 = .ok (.lload_n 1, 1) := by decide +kernel
theorem dX4_layShares_82 : decode cX4_layShares 82 = .ok (.lconst 0, 1) := by decide +kernel
theorem dX4_layShares_83 : decode cX4_layShares 83 = .ok (.lcmp, 1) := by decide +kernel
theorem dX4_layShares_84 : decode cX4_layShares 84 = .ok (.ifCond .ge 9, 3) := by decide +kernel
theorem dX4_layShares_87 : decode cX4_layShares 87 = .ok (.lload 6, 2) := by decide +kernel
theorem dX4_layShares_89 : decode cX4_layShares 89 = .ok (.lneg, 1) := by decide +kernel
theorem dX4_layShares_90 : decode cX4_layShares 90 = .ok (.goto 5, 3) := by decide +kernel
theorem dX4_layShares_93 : decode cX4_layShares 93 = .ok (.lload 6, 2) := by decide +kernel
theorem dX4_layShares_95 : decode cX4_layShares 95 = .ok (.lstore 6, 2) := by decide +kernel
theorem dX4_layShares_97 : decode cX4_layShares 97 = .ok (.aload_n 0, 1) := by decide +kernel
theorem dX4_layShares_98 : decode cX4_layShares 98 = .ok (.getfield 50, 3) := by decide +kernel
theorem dX4_layShares_101 : decode cX4_layShares 101 = .ok (.iload_n 3, 1) := by decide +kernel
theorem dX4_layShares_102 : decode cX4_layShares 102 = .ok (.lload 4, 2) := by decide +kernel
theorem dX4_layShares_104 : decode cX4_layShares 104 = .ok (.lload 6, 2) := by decide +kernel
theorem dX4_layShares_106 : decode cX4_layShares 106 = .ok (.ldiv, 1) := by decide +kernel
theorem dX4_layShares_107 : decode cX4_layShares 107 = .ok (.lastore, 1) := by decide +kernel
theorem dX4_layShares_108 : decode cX4_layShares 108 = .ok (.aload_n 0, 1) := by decide +kernel
theorem dX4_layShares_109 : decode cX4_layShares 109 = .ok (.getfield 53, 3) := by decide +kernel
theorem dX4_layShares_112 : decode cX4_layShares 112 = .ok (.iload_n 3, 1) := by decide +kernel
theorem dX4_layShares_113 : decode cX4_layShares 113 = .ok (.lload_n 1, 1) := by decide +kernel
theorem dX4_layShares_114 : decode cX4_layShares 114 = .ok (.lload 6, 2) := by decide +kernel
theorem dX4_layShares_116 : decode cX4_layShares 116 = .ok (.ldiv, 1) := by decide +kernel
theorem dX4_layShares_117 : decode cX4_layShares 117 = .ok (.lastore, 1) := by decide +kernel
theorem dX4_layShares_118 : decode cX4_layShares 118 = .ok (.iinc 3 1, 3) := by decide +kernel
theorem dX4_layShares_121 : decode cX4_layShares 121 = .ok (.goto (-95), 3) := by decide +kernel
theorem dX4_layShares_124 : decode cX4_layShares 124 = .ok (.lload_n 1, 1) := by decide +kernel
theorem dX4_layShares_125 : decode cX4_layShares 125 = .ok (.lconst 0, 1) := by decide +kernel
theorem dX4_layShares_126 : decode cX4_layShares 126 = .ok (.lcmp, 1) := by decide +kernel
theorem dX4_layShares_127 : decode cX4_layShares 127 = .ok (.ifCond .eq 7, 3) := by decide +kernel
theorem dX4_layShares_130 : decode cX4_layShares 130 = .ok (.iconst 1, 1) := by decide +kernel
theorem dX4_layShares_131 : decode cX4_layShares 131 = .ok (.goto 4, 3) := by decide +kernel
theorem dX4_layShares_134 : decode cX4_layShares 134 = .ok (.iconst 0, 1) := by decide +kernel
theorem dX4_layShares_135 : decode cX4_layShares 135 = .ok (.ireturn, 1) := by decide +kernel
set_option maxRecDepth 20000 in
theorem ggX4_sets_X4_layShares : GoodIn wsX4_sets wsX4_layShares := goodIn_r _ [6, 7, 8, 9, 10, 11, 5, 12, 1, 13, 14, 15, 16, 17, 18, 19, 20, 21, 22, 23, 24, 25, 26, 27, 28, 29, 30, 31, 32, 33, 34, 35, 36, 37, 38, 39, 40, 41, 42, 43] (by decide +kernel) (by decide +kernel)
set_option maxRecDepth 20000 in
theorem gX4_sets_X4_layShares : GoodIn wsX4_sets (wsV RX4 90 RX4 yX4_layShares wsX4_layShares) := goodIn_app (goodIn_of _ (by decide +kernel)) ggX4_sets_X4_layShares
theorem dX4_sets_0 : decode cX4_sets 0 = .ok (.aload_n 0, 1) := by decide +kernel
theorem dX4_sets_1 : decode cX4_sets 1 = .ok (.getfield 7, 3) := by decide +kernel
theorem dX4_sets_4 : decode cX4_sets 4 = .ok (.bipush 6, 2) := by decide +kernel
theorem dX4_sets_6 : decode cX4_sets 6 = .ok (.iload_n 1, 1) := by decide +kernel
theorem dX4_sets_7 : decode cX4_sets 7 = .ok (.imul, 1) := by decide +kernel
theorem dX4_sets_8 : decode cX4_sets 8 = .ok (.iload_n 2, 1) := by decide +kernel
theorem dX4_sets_9 : decode cX4_sets 9 = .ok (.iadd, 1) := by decide +kernel
theorem dX4_sets_10 : decode cX4_sets 10 = .ok (.iaload, 1) := by decide +kernel
theorem dX4_sets_11 : decode cX4_sets 11 = .ok (.istore 4, 2) := by decide +kernel
theorem dX4_sets_13 : decode cX4_sets 13 = .ok (.aload_n 0, 1) := by decide +kernel
theorem dX4_sets_14 : decode cX4_sets 14 = .ok (.getfield 7, 3) := by decide +kernel
theorem dX4_sets_17 : decode cX4_sets 17 = .ok (.bipush 6, 2) := by decide +kernel
theorem dX4_sets_19 : decode cX4_sets 19 = .ok (.iload_n 1, 1) := by decide +kernel
theorem dX4_sets_20 : decode cX4_sets 20 = .ok (.imul, 1) := by decide +kernel
theorem dX4_sets_21 : decode cX4_sets 21 = .ok (.iload_n 2, 1) := by decide +kernel
theorem dX4_sets_22 : decode cX4_sets 22 = .ok (.iadd, 1) := by decide +kernel
theorem dX4_sets_23 : decode cX4_sets 23 = .ok (.iload_n 3, 1) := by decide +kernel
theorem dX4_sets_24 : decode cX4_sets 24 = .ok (.iastore, 1) := by decide +kernel
theorem dX4_sets_25 : decode cX4_sets 25 = .ok (.iconst 0, 1) := by decide +kernel
theorem dX4_sets_26 : decode cX4_sets 26 = .ok (.istore 5, 2) := by decide +kernel
theorem dX4_sets_28 : decode cX4_sets 28 = .ok (.iconst 0, 1) := by decide +kernel
theorem dX4_sets_29 : decode cX4_sets 29 = .ok (.istore 6, 2) := by decide +kernel
theorem dX4_sets_31 : decode cX4_sets 31 = .ok (.iload 6, 2) := by decide +kernel
theorem dX4_sets_33 : decode cX4_sets 33 = .ok (.bipush 6, 2) := by decide +kernel
theorem dX4_sets_35 : decode cX4_sets 35 = .ok (.if_icmp .ge 26, 3) := by decide +kernel
theorem dX4_sets_38 : decode cX4_sets 38 = .ok (.iload 5, 2) := by decide +kernel
theorem dX4_sets_40 : decode cX4_sets 40 = .ok (.aload_n 0, 1) := by decide +kernel
theorem dX4_sets_41 : decode cX4_sets 41 = .ok (.getfield 7, 3) := by decide +kernel
theorem dX4_sets_44 : decode cX4_sets 44 = .ok (.bipush 6, 2) := by decide +kernel
theorem dX4_sets_46 : decode cX4_sets 46 = .ok (.iload 6, 2) := by decide +kernel
theorem dX4_sets_48 : decode cX4_sets 48 = .ok (.imul, 1) := by decide +kernel
theorem dX4_sets_49 : decode cX4_sets 49 = .ok (.iload_n 2, 1) := by decide +kernel
theorem dX4_sets_50 : decode cX4_sets 50 = .ok (.iadd, 1) := by decide +kernel
theorem dX4_sets_51 : decode cX4_sets 51 = .ok (.iaload, 1) := by decide +kernel
theorem dX4_sets_52 : decode cX4_sets 52 = .ok (.iadd, 1) := by decide +kernel
theorem dX4_sets_53 : decode cX4_sets 53 = .ok (.istore 5, 2) := by decide +kernel
theorem dX4_sets_55 : decode cX4_sets 55 = .ok (.iinc 6 1, 3) := by decide +kernel
theorem dX4_sets_58 : decode cX4_sets 58 = .ok (.goto (-27), 3) := by decide +kernel
theorem dX4_sets_61 : decode cX4_sets 61 = .ok (.iload 5, 2) := by decide +kernel
theorem dX4_sets_63 : decode cX4_sets 63 = .ok (.bipush 100, 2) := by decide +kernel
theorem dX4_sets_65 : decode cX4_sets 65 = .ok (.if_icmp .gt 14, 3) := by decide +kernel
theorem dX4_sets_68 : decode cX4_sets 68 = .ok (.aload_n 0, 1) := by decide +kernel
theorem dX4_sets_69 : decode cX4_sets 69 = .ok (.invokevirtual 90, 3) := by decide +kernel
theorem dX4_sets_72 : decode cX4_sets 72 = .ok (.ifCond .eq 7, 3) := by decide +kernel
theorem dX4_sets_75 : decode cX4_sets 75 = .ok (.iconst 1, 1) := by decide +kernel
theorem dX4_sets_76 : decode cX4_sets 76 = .ok (.goto 4, 3) := by decide +kernel
theorem dX4_sets_79 : decode cX4_sets 79 = .ok (.iconst 0, 1) := by decide +kernel
theorem dX4_sets_80 : decode cX4_sets 80 = .ok (.istore 6, 2) := by decide +kernel
theorem dX4_sets_82 : decode cX4_sets 82 = .ok (.aload_n 0, 1) := by decide +kernel
theorem dX4_sets_83 : decode cX4_sets 83 = .ok (.getfield 7, 3) := by decide +kernel
theorem dX4_sets_86 : decode cX4_sets 86 = .ok (.bipush 6, 2) := by decide +kernel
theorem dX4_sets_88 : decode cX4_sets 88 = .ok (.iload_n 1, 1) := by decide +kernel
theorem dX4_sets_89 : decode cX4_sets 89 = .ok (.imul, 1) := by decide +kernel
theorem dX4_sets_90 : decode cX4_sets 90 = .ok (.iload_n 2, 1) := by decide +kernel
theorem dX4_sets_91 : decode cX4_sets 91 = .ok (.iadd, 1) := by decide +kernel
theorem dX4_sets_92 : decode cX4_sets 92 = .ok (.iload 6, 2) := by decide +kernel
theorem dX4_sets_94 : decode cX4_sets 94 = .ok (.ifCond .eq 7, 3) := by decide +kernel
theorem dX4_sets_97 : decode cX4_sets 97 = .ok (.iload_n 3, 1) := by decide +kernel
theorem dX4_sets_98 : decode cX4_sets 98 = .ok (.goto 5, 3) := by decide +kernel
theorem dX4_sets_101 : decode cX4_sets 101 = .ok (.iload 4, 2) := by decide +kernel
theorem dX4_sets_103 : decode cX4_sets 103 = .ok (.iastore, 1) := by decide +kernel
theorem dX4_sets_104 : decode cX4_sets 104 = .ok (.iload 6, 2) := by decide +kernel
theorem dX4_sets_106 : decode cX4_sets 106 = .ok (.ireturn, 1) := by decide +kernel
set_option maxRecDepth 20000 in
theorem ggX4_hold_X4_isPair : GoodIn wsX4_hold wsX4_isPair := goodIn_r _ [6, 7, 8, 5, 9, 10, 11, 12] (by decide +kernel) (by decide +kernel)
set_option maxRecDepth 20000 in
theorem gX4_hold_X4_isPair : GoodIn wsX4_hold (va_wsS RX4 94 yX4_isPair wsX4_isPair) := goodIn_app (goodIn_of _ (by decide +kernel)) ggX4_hold_X4_isPair
set_option maxRecDepth 20000 in
theorem ggX4_hold_X4_in : GoodIn wsX4_hold wsX4_in := goodIn_r _ [12] (by decide +kernel) (by decide +kernel)
set_option maxRecDepth 20000 in
theorem gX4_hold_X4_in : GoodIn wsX4_hold (va_wsS RX4 66 yX4_in wsX4_in) := goodIn_app (goodIn_of _ (by decide +kernel)) ggX4_hold_X4_in
set_option maxRecDepth 20000 in
theorem ggX4_hold_X4_fails : GoodIn wsX4_hold wsX4_fails := goodIn_r _ [16, 1, 43, 44, 45, 46, 47, 48, 49, 50, 51, 52, 53, 54, 55, 56, 57, 58, 59, 60, 61] (by decide +kernel) (by decide +kernel)
set_option maxRecDepth 20000 in
theorem gX4_hold_X4_fails : GoodIn wsX4_hold (wsV RX4 98 RX4 yX4_fails wsX4_fails) := goodIn_app (goodIn_of _ (by decide +kernel)) ggX4_hold_X4_fails
set_option maxRecDepth 20000 in
theorem ggX4_hold_X4_sets : GoodIn wsX4_hold wsX4_sets := goodIn_r _ [20, 2, 21, 22, 23, 5, 24, 25, 26, 27, 28, 29, 30, 31, 32, 33, 34, 35, 36, 37, 38, 39, 40, 41, 42, 43, 44, 45, 46, 47, 48, 49, 50, 51, 52, 53, 54, 55, 56, 57, 58, 59, 60, 61] (by decide +kernel) (by decide +kernel)
set_option maxRecDepth 20000 in
theorem gX4_hold_X4_sets : GoodIn wsX4_hold (wsV RX4 102 RX4 yX4_sets wsX4_sets) := goodIn_app (goodIn_of _ (by decide +kernel)) ggX4_hold_X4_sets
theorem dX4_hold_0 : decode cX4_hold 0 = .ok (.aload_n 0, 1) := by decide +kernel
theorem dX4_hold_1 : decode cX4_hold 1 = .ok (.iconst 0, 1) := by decide +kernel
theorem dX4_hold_2 : decode cX4_hold 2 = .ok (.putfield 62, 3) := by decide +kernel
theorem dX4_hold_5 : decode cX4_hold 5 = .ok (.iload_n 1, 1) := by decide +kernel
theorem dX4_hold_6 : decode cX4_hold 6 = .ok (.iload_n 2, 1) := by decide +kernel
theorem dX4_hold_7 : decode cX4_hold 7 = .ok (.invokestatic 94, 3) := by decide +kernel
theorem dX4_hold_10 : decode cX4_hold 10 = .ok (.ifCond .eq 13, 3) := by decide +kernel
theorem dX4_hold_13 : decode cX4_hold 13 = .ok (.iload_n 3, 1) := by decide +kernel
theorem dX4_hold_14 : decode cX4_hold 14 = .ok (.iconst 0, 1) := by decide +kernel
theorem dX4_hold_15 : decode cX4_hold 15 = .ok (.bipush 100, 2) := by decide +kernel
theorem dX4_hold_17 : decode cX4_hold 17 = .ok (.invokestatic 66, 3) := by decide +kernel
theorem dX4_hold_20 : decode cX4_hold 20 = .ok (.ifCond .ne 9, 3) := by decide +kernel
theorem dX4_hold_23 : decode cX4_hold 23 = .ok (.aload_n 0, 1) := by decide +kernel
theorem dX4_hold_24 : decode cX4_hold 24 = .ok (.iconst 1, 1) := by decide +kernel
theorem dX4_hold_25 : decode cX4_hold 25 = .ok (.invokevirtual 98, 3) := by decide +kernel
theorem dX4_hold_28 : decode cX4_hold 28 = .ok (.ireturn, 1) := by decide +kernel
theorem dX4_hold_29 : decode cX4_hold 29 = .ok (.aload_n 0, 1) := by decide +kernel
theorem dX4_hold_30 : decode cX4_hold 30 = .ok (.getfield 7, 3) := by decide +kernel
theorem dX4_hold_33 : decode cX4_hold 33 = .ok (.bipush 6, 2) := by decide +kernel
theorem dX4_hold_35 : decode cX4_hold 35 = .ok (.iload_n 1, 1) := by decide +kernel
theorem dX4_hold_36 : decode cX4_hold 36 = .ok (.imul, 1) := by decide +kernel
theorem dX4_hold_37 : decode cX4_hold 37 = .ok (.iload_n 2, 1) := by decide +kernel
theorem dX4_hold_38 : decode cX4_hold 38 = .ok (.iadd, 1) := by decide +kernel
theorem dX4_hold_39 : decode cX4_hold 39 = .ok (.iaload, 1) := by decide +kernel
theorem dX4_hold_40 : decode cX4_hold 40 = .ok (.istore 4, 2) := by decide +kernel
theorem dX4_hold_42 : decode cX4_hold 42 = .ok (.aload_n 0, 1) := by decide +kernel
theorem dX4_hold_43 : decode cX4_hold 43 = .ok (.iload_n 1, 1) := by decide +kernel
theorem dX4_hold_44 : decode cX4_hold 44 = .ok (.iload_n 2, 1) := by decide +kernel
theorem dX4_hold_45 : decode cX4_hold 45 = .ok (.iload_n 3, 1) := by decide +kernel
theorem dX4_hold_46 : decode cX4_hold 46 = .ok (.invokevirtual 102, 3) := by decide +kernel
theorem dX4_hold_49 : decode cX4_hold 49 = .ok (.ifCond .eq 8, 3) := by decide +kernel
theorem dX4_hold_52 : decode cX4_hold 52 = .ok (.iload 4, 2) := by decide +kernel
theorem dX4_hold_54 : decode cX4_hold 54 = .ok (.goto 8, 3) := by decide +kernel
theorem dX4_hold_57 : decode cX4_hold 57 = .ok (.aload_n 0, 1) := by decide +kernel
theorem dX4_hold_58 : decode cX4_hold 58 = .ok (.iconst 2, 1) := by decide +kernel
theorem dX4_hold_59 : decode cX4_hold 59 = .ok (.invokevirtual 98, 3) := by decide +kernel
theorem dX4_hold_62 : decode cX4_hold 62 = .ok (.ireturn, 1) := by decide +kernel
set_option maxRecDepth 20000 in
theorem ggX4_acquire_X4_isPair : GoodIn wsX4_acquire wsX4_isPair := goodIn_r _ [9, 10, 11, 8, 12, 13, 14, 15] (by decide +kernel) (by decide +kernel)
set_option maxRecDepth 20000 in
theorem gX4_acquire_X4_isPair : GoodIn wsX4_acquire (va_wsS RX4 94 yX4_isPair wsX4_isPair) := goodIn_app (goodIn_of _ (by decide +kernel)) ggX4_acquire_X4_isPair
set_option maxRecDepth 20000 in
theorem ggX4_acquire_X4_in : GoodIn wsX4_acquire wsX4_in := goodIn_r _ [15] (by decide +kernel) (by decide +kernel)
set_option maxRecDepth 20000 in
theorem gX4_acquire_X4_in : GoodIn wsX4_acquire (va_wsS RX4 66 yX4_in wsX4_in) := goodIn_app (goodIn_of _ (by decide +kernel)) ggX4_acquire_X4_in
set_option maxRecDepth 20000 in
theorem ggX4_acquire_X4_fails : GoodIn wsX4_acquire wsX4_fails := goodIn_r _ [19, 1, 59, 60, 61, 62, 63, 64, 65, 66, 67, 68, 69, 70, 71, 72, 73, 74, 75, 76, 77] (by decide +kernel) (by decide +kernel)
set_option maxRecDepth 20000 in
theorem gX4_acquire_X4_fails : GoodIn wsX4_acquire (wsV RX4 98 RX4 yX4_fails wsX4_fails) := goodIn_app (goodIn_of _ (by decide +kernel)) ggX4_acquire_X4_fails
set_option maxRecDepth 20000 in
theorem ggX4_acquire_X4_sets : GoodIn wsX4_acquire wsX4_sets := goodIn_r _ [23, 3, 24, 25, 26, 8, 27, 28, 29, 30, 31, 32, 33, 34, 35, 36, 37, 38, 39, 40, 41, 42, 43, 44, 45, 59, 60, 61, 62, 63, 64, 65, 66, 67, 68, 69, 70, 71, 72, 73, 74, 75, 76, 77] (by decide +kernel) (by decide +kernel)
set_option maxRecDepth 20000 in
theorem gX4_acquire_X4_sets : GoodIn wsX4_acquire (wsV RX4 102 RX4 yX4_sets wsX4_sets) := goodIn_app (goodIn_of _ (by decide +kernel)) ggX4_acquire_X4_sets
set_option maxRecDepth 20000 in
theorem ggX4_acquire_X4_net : GoodIn wsX4_acquire wsX4_net := goodIn_r _ [49, 50, 51, 52, 53, 54, 8, 55, 5, 56, 57, 58, 59, 60, 61, 62, 63, 64, 65, 66, 67, 68, 69, 70, 71, 72, 73, 74, 75, 76, 77] (by decide +kernel) (by decide +kernel)
set_option maxRecDepth 20000 in
theorem gX4_acquire_X4_net : GoodIn wsX4_acquire (wsV RX4 106 RX4 yX4_net wsX4_net) := goodIn_app (goodIn_of _ (by decide +kernel)) ggX4_acquire_X4_net
set_option maxRecDepth 20000 in
theorem ggX4_acquire_X4_floor : GoodIn wsX4_acquire wsX4_floor := goodIn_r _ [58] (by decide +kernel) (by decide +kernel)
set_option maxRecDepth 20000 in
theorem gX4_acquire_X4_floor : GoodIn wsX4_acquire (va_wsS RX4 111 yX4_floor wsX4_floor) := goodIn_app (goodIn_of _ (by decide +kernel)) ggX4_acquire_X4_floor
theorem dX4_acquire_0 : decode cX4_acquire 0 = .ok (.aload_n 0, 1) := by decide +kernel
theorem dX4_acquire_1 : decode cX4_acquire 1 = .ok (.iconst 0, 1) := by decide +kernel
theorem dX4_acquire_2 : decode cX4_acquire 2 = .ok (.putfield 62, 3) := by decide +kernel
theorem dX4_acquire_5 : decode cX4_acquire 5 = .ok (.iload_n 1, 1) := by decide +kernel
theorem dX4_acquire_6 : decode cX4_acquire 6 = .ok (.iload_n 2, 1) := by decide +kernel
theorem dX4_acquire_7 : decode cX4_acquire 7 = .ok (.invokestatic 94, 3) := by decide +kernel
theorem dX4_acquire_10 : decode cX4_acquire 10 = .ok (.ifCond .eq 24, 3) := by decide +kernel
theorem dX4_acquire_13 : decode cX4_acquire 13 = .ok (.iload_n 3, 1) := by decide +kernel
theorem dX4_acquire_14 : decode cX4_acquire 14 = .ok (.iconst 1, 1) := by decide +kernel
theorem dX4_acquire_15 : decode cX4_acquire 15 = .ok (.bipush 100, 2) := by decide +kernel
theorem dX4_acquire_17 : decode cX4_acquire 17 = .ok (.invokestatic 66, 3) := by decide +kernel
theorem dX4_acquire_20 : decode cX4_acquire 20 = .ok (.ifCond .eq 14, 3) := by decide +kernel
theorem dX4_acquire_23 : decode cX4_acquire 23 = .ok (.iload 4, 2) := by decide +kernel
theorem dX4_acquire_25 : decode cX4_acquire 25 = .ok (.iconst 0, 1) := by decide +kernel
theorem dX4_acquire_26 : decode cX4_acquire 26 = .ok (.ldc 105, 2) := by decide +kernel
theorem dX4_acquire_28 : decode cX4_acquire 28 = .ok (.invokestatic 66, 3) := by decide +kernel
theorem dX4_acquire_31 : decode cX4_acquire 31 = .ok (.ifCond .ne 9, 3) := by decide +kernel
theorem dX4_acquire_34 : decode cX4_acquire 34 = .ok (.aload_n 0, 1) := by decide +kernel
theorem dX4_acquire_35 : decode cX4_acquire 35 = .ok (.iconst 1, 1) := by decide +kernel
theorem dX4_acquire_36 : decode cX4_acquire 36 = .ok (.invokevirtual 98, 3) := by decide +kernel
theorem dX4_acquire_39 : decode cX4_acquire 39 = .ok (.ireturn, 1) := by decide +kernel
theorem dX4_acquire_40 : decode cX4_acquire 40 = .ok (.aload_n 0, 1) := by decide +kernel
theorem dX4_acquire_41 : decode cX4_acquire 41 = .ok (.getfield 7, 3) := by decide +kernel
theorem dX4_acquire_44 : decode cX4_acquire 44 = .ok (.bipush 6, 2) := by decide +kernel
theorem dX4_acquire_46 : decode cX4_acquire 46 = .ok (.iload_n 1, 1) := by decide +kernel
theorem dX4_acquire_47 : decode cX4_acquire 47 = .ok (.imul, 1) := by decide +kernel
theorem dX4_acquire_48 : decode cX4_acquire 48 = .ok (.iload_n 2, 1) := by decide +kernel
theorem dX4_acquire_49 : decode cX4_acquire 49 = .ok (.iadd, 1) := by decide +kernel
theorem dX4_acquire_50 : decode cX4_acquire 50 = .ok (.iaload, 1) := by decide +kernel
theorem dX4_acquire_51 : decode cX4_acquire 51 = .ok (.iload_n 3, 1) := by decide +kernel
theorem dX4_acquire_52 : decode cX4_acquire 52 = .ok (.iadd, 1) := by decide +kernel
theorem dX4_acquire_53 : decode cX4_acquire 53 = .ok (.istore 5, 2) := by decide +kernel
theorem dX4_acquire_55 : decode cX4_acquire 55 = .ok (.aload_n 0, 1) := by decide +kernel
theorem dX4_acquire_56 : decode cX4_acquire 56 = .ok (.iload_n 1, 1) := by decide +kernel
theorem dX4_acquire_57 : decode cX4_acquire 57 = .ok (.iload_n 2, 1) := by decide +kernel
theorem dX4_acquire_58 : decode cX4_acquire 58 = .ok (.iload 5, 2) := by decide +kernel
theorem dX4_acquire_60 : decode cX4_acquire 60 = .ok (.invokevirtual 102, 3) := by decide +kernel
theorem dX4_acquire_63 : decode cX4_acquire 63 = .ok (.ifCond .ne 9, 3) := by decide +kernel
theorem dX4_acquire_66 : decode cX4_acquire 66 = .ok (.aload_n 0, 1) := by decide +kernel
theorem dX4_acquire_67 : decode cX4_acquire 67 = .ok (.iconst 2, 1) := by decide +kernel
theorem dX4_acquire_68 : decode cX4_acquire 68 = .ok (.invokevirtual 98, 3) := by decide +kernel
theorem dX4_acquire_71 : decode cX4_acquire 71 = .ok (.ireturn, 1) := by decide +kernel
theorem dX4_acquire_72 : decode cX4_acquire 72 = .ok (.aload_n 0, 1) := by decide +kernel
theorem dX4_acquire_73 : decode cX4_acquire 73 = .ok (.getfield 19, 3) := by decide +kernel
theorem dX4_acquire_76 : decode cX4_acquire 76 = .ok (.iload_n 2, 1) := by decide +kernel
theorem dX4_acquire_77 : decode cX4_acquire 77 = .ok (.dup2, 1) := by decide +kernel
theorem dX4_acquire_78 : decode cX4_acquire 78 = .ok (.iaload, 1) := by decide +kernel
theorem dX4_acquire_79 : decode cX4_acquire 79 = .ok (.iload 4, 2) := by decide +kernel
theorem dX4_acquire_81 : decode cX4_acquire 81 = .ok (.iload_n 3, 1) := by decide +kernel
theorem dX4_acquire_82 : decode cX4_acquire 82 = .ok (.i2l, 1) := by decide +kernel
theorem dX4_acquire_83 : decode cX4_acquire 83 = .ok (.aload_n 0, 1) := by decide +kernel
theorem dX4_acquire_84 : decode cX4_acquire 84 = .ok (.iload_n 2, 1) := by decide +kernel
theorem dX4_acquire_85 : decode cX4_acquire 85 = .ok (.invokevirtual 106, 3) := by decide +kernel
theorem dX4_acquire_88 : decode cX4_acquire 88 = .ok (.i2l, 1) := by decide +kernel
theorem dX4_acquire_89 : decode cX4_acquire 89 = .ok (.lmul, 1) := by decide +kernel
theorem dX4_acquire_90 : decode cX4_acquire 90 = .ok (.ldc2_w 109, 3) := by decide +kernel
theorem dX4_acquire_93 : decode cX4_acquire 93 = .ok (.invokestatic 111, 3) := by decide +kernel
theorem dX4_acquire_96 : decode cX4_acquire 96 = .ok (.l2i, 1) := by decide +kernel
theorem dX4_acquire_97 : decode cX4_acquire 97 = .ok (.isub, 1) := by decide +kernel
theorem dX4_acquire_98 : decode cX4_acquire 98 = .ok (.iadd, 1) := by decide +kernel
theorem dX4_acquire_99 : decode cX4_acquire 99 = .ok (.iastore, 1) := by decide +kernel
theorem dX4_acquire_100 : decode cX4_acquire 100 = .ok (.iload 5, 2) := by decide +kernel
theorem dX4_acquire_102 : decode cX4_acquire 102 = .ok (.ireturn, 1) := by decide +kernel
set_option maxRecDepth 20000 in
theorem ggX4_held_X4_isCompany : GoodIn wsX4_held wsX4_isCompany := goodIn_r _ [6, 7, 8, 5, 9] (by decide +kernel) (by decide +kernel)
set_option maxRecDepth 20000 in
theorem gX4_held_X4_isCompany : GoodIn wsX4_held (va_wsS RX4 70 yX4_isCompany wsX4_isCompany) := goodIn_app (goodIn_of _ (by decide +kernel)) ggX4_held_X4_isCompany
set_option maxRecDepth 20000 in
theorem ggX4_held_X4_fails : GoodIn wsX4_held wsX4_fails := goodIn_r _ [13, 1, 14, 15, 16, 17, 18, 19, 20, 21, 22, 23, 24, 25, 26, 27, 28, 29, 30, 31, 32] (by decide +kernel) (by decide +kernel)
set_option maxRecDepth 20000 in
theorem gX4_held_X4_fails : GoodIn wsX4_held (wsV RX4 98 RX4 yX4_fails wsX4_fails) := goodIn_app (goodIn_of _ (by decide +kernel)) ggX4_held_X4_fails
theorem dX4_held_0 : decode cX4_held 0 = .ok (.aload_n 0, 1) := by decide +kernel
theorem dX4_held_1 : decode cX4_held 1 = .ok (.iconst 0, 1) := by decide +kernel
theorem dX4_held_2 : decode cX4_held 2 = .ok (.putfield 62, 3) := by decide +kernel
theorem dX4_held_5 : decode cX4_held 5 = .ok (.iload_n 1, 1) := by decide +kernel
theorem dX4_held_6 : decode cX4_held 6 = .ok (.invokestatic 70, 3) := by decide +kernel
theorem dX4_held_9 : decode cX4_held 9 = .ok (.ifCond .eq 24, 3) := by decide +kernel
theorem dX4_held_12 : decode cX4_held 12 = .ok (.iload_n 2, 1) := by decide +kernel
theorem dX4_held_13 : decode cX4_held 13 = .ok (.invokestatic 70, 3) := by decide +kernel
theorem dX4_held_16 : decode cX4_held 16 = .ok (.ifCond .eq 17, 3) := by decide +kernel
theorem dX4_held_19 : decode cX4_held 19 = .ok (.aload_n 0, 1) := by decide +kernel
theorem dX4_held_20 : decode cX4_held 20 = .ok (.getfield 7, 3) := by decide +kernel
theorem dX4_held_23 : decode cX4_held 23 = .ok (.bipush 6, 2) := by decide +kernel
theorem dX4_held_25 : decode cX4_held 25 = .ok (.iload_n 1, 1) := by decide +kernel
theorem dX4_held_26 : decode cX4_held 26 = .ok (.imul, 1) := by decide +kernel
theorem dX4_held_27 : decode cX4_held 27 = .ok (.iload_n 2, 1) := by decide +kernel
theorem dX4_held_28 : decode cX4_held 28 = .ok (.iadd, 1) := by decide +kernel
theorem dX4_held_29 : decode cX4_held 29 = .ok (.iaload, 1) := by decide +kernel
theorem dX4_held_30 : decode cX4_held 30 = .ok (.goto 8, 3) := by decide +kernel
theorem dX4_held_33 : decode cX4_held 33 = .ok (.aload_n 0, 1) := by decide +kernel
theorem dX4_held_34 : decode cX4_held 34 = .ok (.iconst 1, 1) := by decide +kernel
theorem dX4_held_35 : decode cX4_held 35 = .ok (.invokevirtual 98, 3) := by decide +kernel
theorem dX4_held_38 : decode cX4_held 38 = .ok (.ireturn, 1) := by decide +kernel
set_option maxRecDepth 20000 in
theorem ggX4_shareNumerator_X4_isCompany : GoodIn wsX4_shareNumerator wsX4_isCompany := goodIn_r _ [6, 7, 8, 5, 9] (by decide +kernel) (by decide +kernel)
set_option maxRecDepth 20000 in
theorem gX4_shareNumerator_X4_isCompany : GoodIn wsX4_shareNumerator (va_wsS RX4 70 yX4_isCompany wsX4_isCompany) := goodIn_app (goodIn_of _ (by decide +kernel)) ggX4_shareNumerator_X4_isCompany
set_option maxRecDepth 20000 in
theorem ggX4_shareNumerator_X4_fails : GoodIn wsX4_shareNumerator wsX4_fails := goodIn_r _ [13, 1, 36, 37, 38, 39, 40, 41, 42, 43, 44, 45, 46, 47, 48, 49, 50, 51, 52, 53, 54] (by decide +kernel) (by decide +kernel)
set_option maxRecDepth 20000 in
theorem gX4_shareNumerator_X4_fails : GoodIn wsX4_shareNumerator (wsV RX4 98 RX4 yX4_fails wsX4_fails) := goodIn_app (goodIn_of _ (by decide +kernel)) ggX4_shareNumerator_X4_fails
set_option maxRecDepth 20000 in
theorem ggX4_shareNumerator_X4_layShares : GoodIn wsX4_shareNumerator wsX4_layShares := goodIn_r _ [17, 2, 18, 19, 20, 21, 5, 22, 23, 24, 25, 26, 27, 28, 29, 30, 31, 32, 33, 34, 35, 36, 37, 38, 39, 40, 41, 42, 43, 44, 45, 46, 47, 48, 49, 50, 51, 52, 53, 54] (by decide +kernel) (by decide +kernel)
set_option maxRecDepth 20000 in
theorem gX4_shareNumerator_X4_layShares : GoodIn wsX4_shareNumerator (wsV RX4 90 RX4 yX4_layShares wsX4_layShares) := goodIn_app (goodIn_of _ (by decide +kernel)) ggX4_shareNumerator_X4_layShares
theorem dX4_shareNumerator_0 : decode cX4_shareNumerator 0 = .ok (.aload_n 0, 1) := by decide +kernel
theorem dX4_shareNumerator_1 : decode cX4_shareNumerator 1 = .ok (.iconst 0, 1) := by decide +kernel
theorem dX4_shareNumerator_2 : decode cX4_shareNumerator 2 = .ok (.putfield 62, 3) := by decide +kernel
theorem dX4_shareNumerator_5 : decode cX4_shareNumerator 5 = .ok (.iload_n 1, 1) := by decide +kernel
theorem dX4_shareNumerator_6 : decode cX4_shareNumerator 6 = .ok (.invokestatic 70, 3) := by decide +kernel
theorem dX4_shareNumerator_9 : decode cX4_shareNumerator 9 = .ok (.ifCond .ne 10, 3) := by decide +kernel
theorem dX4_shareNumerator_12 : decode cX4_shareNumerator 12 = .ok (.aload_n 0, 1) := by decide +kernel
theorem dX4_shareNumerator_13 : decode cX4_shareNumerator 13 = .ok (.iconst 1, 1) := by decide +kernel
theorem dX4_shareNumerator_14 : decode cX4_shareNumerator 14 = .ok (.invokevirtual 98, 3) := by decide +kernel
theorem dX4_shareNumerator_17 : decode cX4_shareNumerator 17 = .ok (.i2l, 1) := by decide +kernel
theorem dX4_shareNumerator_18 : decode cX4_shareNumerator 18 = .ok (.lreturn, 1) := by decide +kernel
theorem dX4_shareNumerator_19 : decode cX4_shareNumerator 19 = .ok (.aload_n 0, 1) := by decide +kernel
theorem dX4_shareNumerator_20 : decode cX4_shareNumerator 20 = .ok (.invokevirtual 90, 3) := by decide +kernel
theorem dX4_shareNumerator_23 : decode cX4_shareNumerator 23 = .ok (.istore_n 2, 1) := by decide +kernel
theorem dX4_shareNumerator_24 : decode cX4_shareNumerator 24 = .ok (.aload_n 0, 1) := by decide +kernel
theorem dX4_shareNumerator_25 : decode cX4_shareNumerator 25 = .ok (.getfield 50, 3) := by decide +kernel
theorem dX4_shareNumerator_28 : decode cX4_shareNumerator 28 = .ok (.iload_n 1, 1) := by decide +kernel
theorem dX4_shareNumerator_29 : decode cX4_shareNumerator 29 = .ok (.laload, 1) := by decide +kernel
theorem dX4_shareNumerator_30 : decode cX4_shareNumerator 30 = .ok (.lreturn, 1) := by decide +kernel
set_option maxRecDepth 20000 in
theorem ggX4_shareDenominator_X4_isCompany : GoodIn wsX4_shareDenominator wsX4_isCompany := goodIn_r _ [6, 7, 8, 5, 9] (by decide +kernel) (by decide +kernel)
set_option maxRecDepth 20000 in
theorem gX4_shareDenominator_X4_isCompany : GoodIn wsX4_shareDenominator (va_wsS RX4 70 yX4_isCompany wsX4_isCompany) := goodIn_app (goodIn_of _ (by decide +kernel)) ggX4_shareDenominator_X4_isCompany
set_option maxRecDepth 20000 in
theorem ggX4_shareDenominator_X4_fails : GoodIn wsX4_shareDenominator wsX4_fails := goodIn_r _ [13, 1, 36, 37, 38, 39, 40, 41, 42, 43, 44, 45, 46, 47, 48, 49, 50, 51, 52, 53, 54] (by decide +kernel) (by decide +kernel)
set_option maxRecDepth 20000 in
theorem gX4_shareDenominator_X4_fails : GoodIn wsX4_shareDenominator (wsV RX4 98 RX4 yX4_fails wsX4_fails) := goodIn_app (goodIn_of _ (by decide +kernel)) ggX4_shareDenominator_X4_fails
set_option maxRecDepth 20000 in
theorem ggX4_shareDenominator_X4_layShares : GoodIn wsX4_shareDenominator wsX4_layShares := goodIn_r _ [17, 18, 2, 19, 20, 21, 5, 22, 23, 24, 25, 26, 27, 28, 29, 30, 31, 32, 33, 34, 35, 36, 37, 38, 39, 40, 41, 42, 43, 44, 45, 46, 47, 48, 49, 50, 51, 52, 53, 54] (by decide +kernel) (by decide +kernel)
set_option maxRecDepth 20000 in
theorem gX4_shareDenominator_X4_layShares : GoodIn wsX4_shareDenominator (wsV RX4 90 RX4 yX4_layShares wsX4_layShares) := goodIn_app (goodIn_of _ (by decide +kernel)) ggX4_shareDenominator_X4_layShares
theorem dX4_shareDenominator_0 : decode cX4_shareDenominator 0 = .ok (.aload_n 0, 1) := by decide +kernel
theorem dX4_shareDenominator_1 : decode cX4_shareDenominator 1 = .ok (.iconst 0, 1) := by decide +kernel
theorem dX4_shareDenominator_2 : decode cX4_shareDenominator 2 = .ok (.putfield 62, 3) := by decide +kernel
theorem dX4_shareDenominator_5 : decode cX4_shareDenominator 5 = .ok (.iload_n 1, 1) := by decide +kernel
theorem dX4_shareDenominator_6 : decode cX4_shareDenominator 6 = .ok (.invokestatic 70, 3) := by decide +kernel
theorem dX4_shareDenominator_9 : decode cX4_shareDenominator 9 = .ok (.ifCond .ne 10, 3) := by decide +kernel
theorem dX4_shareDenominator_12 : decode cX4_shareDenominator 12 = .ok (.aload_n 0, 1) := by decide +kernel
theorem dX4_shareDenominator_13 : decode cX4_shareDenominator 13 = .ok (.iconst 1, 1) := by decide +kernel
theorem dX4_shareDenominator_14 : decode cX4_shareDenominator 14 = .ok (.invokevirtual 98, 3) := by decide +kernel
theorem dX4_shareDenominator_17 : decode cX4_shareDenominator 17 = .ok (.i2l, 1) := by decide +kernel
theorem dX4_shareDenominator_18 : decode cX4_shareDenominator 18 = .ok (.lreturn, 1) := by decide +kernel
theorem dX4_shareDenominator_19 : decode cX4_shareDenominator 19 = .ok (.aload_n 0, 1) := by decide +kernel
theorem dX4_shareDenominator_20 : decode cX4_shareDenominator 20 = .ok (.invokevirtual 90, 3) := by decide +kernel
theorem dX4_shareDenominator_23 : decode cX4_shareDenominator 23 = .ok (.istore_n 2, 1) := by decide +kernel
theorem dX4_shareDenominator_24 : decode cX4_shareDenominator 24 = .ok (.aload_n 0, 1) := by decide +kernel
theorem dX4_shareDenominator_25 : decode cX4_shareDenominator 25 = .ok (.getfield 53, 3) := by decide +kernel
theorem dX4_shareDenominator_28 : decode cX4_shareDenominator 28 = .ok (.iload_n 1, 1) := by decide +kernel
theorem dX4_shareDenominator_29 : decode cX4_shareDenominator 29 = .ok (.laload, 1) := by decide +kernel
theorem dX4_shareDenominator_30 : decode cX4_shareDenominator 30 = .ok (.lreturn, 1) := by decide +kernel
set_option maxRecDepth 20000 in
theorem ggX4_shareByRounds_X4_isCompany : GoodIn wsX4_shareByRounds wsX4_isCompany := goodIn_r _ [9, 10, 11, 8, 12] (by decide +kernel) (by decide +kernel)
set_option maxRecDepth 20000 in
theorem gX4_shareByRounds_X4_isCompany : GoodIn wsX4_shareByRounds (va_wsS RX4 70 yX4_isCompany wsX4_isCompany) := goodIn_app (goodIn_of _ (by decide +kernel)) ggX4_shareByRounds_X4_isCompany
set_option maxRecDepth 20000 in
theorem ggX4_shareByRounds_X4_in : GoodIn wsX4_shareByRounds wsX4_in := goodIn_r _ [12] (by decide +kernel) (by decide +kernel)
set_option maxRecDepth 20000 in
theorem gX4_shareByRounds_X4_in : GoodIn wsX4_shareByRounds (va_wsS RX4 66 yX4_in wsX4_in) := goodIn_app (goodIn_of _ (by decide +kernel)) ggX4_shareByRounds_X4_in
set_option maxRecDepth 20000 in
theorem ggX4_shareByRounds_X4_fails : GoodIn wsX4_shareByRounds wsX4_fails := goodIn_r _ [16, 1, 17, 18, 19, 20, 21, 22, 23, 24, 25, 26, 27, 28, 29, 30, 31, 32, 33, 34, 35] (by decide +kernel) (by decide +kernel)
set_option maxRecDepth 20000 in
theorem gX4_shareByRounds_X4_fails : GoodIn wsX4_shareByRounds (wsV RX4 98 RX4 yX4_fails wsX4_fails) := goodIn_app (goodIn_of _ (by decide +kernel)) ggX4_shareByRounds_X4_fails
theorem dX4_shareByRounds_0 : decode cX4_shareByRounds 0 = .ok (.aload_n 0, 1) := by decide +kernel
theorem dX4_shareByRounds_1 : decode cX4_shareByRounds 1 = .ok (.iconst 0, 1) := by decide +kernel
theorem dX4_shareByRounds_2 : decode cX4_shareByRounds 2 = .ok (.putfield 62, 3) := by decide +kernel
theorem dX4_shareByRounds_5 : decode cX4_shareByRounds 5 = .ok (.iload_n 1, 1) := by decide +kernel
theorem dX4_shareByRounds_6 : decode cX4_shareByRounds 6 = .ok (.invokestatic 70, 3) := by decide +kernel
theorem dX4_shareByRounds_9 : decode cX4_shareByRounds 9 = .ok (.ifCond .eq 14, 3) := by decide +kernel
theorem dX4_shareByRounds_12 : decode cX4_shareByRounds 12 = .ok (.iload_n 2, 1) := by decide +kernel
theorem dX4_shareByRounds_13 : decode cX4_shareByRounds 13 = .ok (.iconst 0, 1) := by decide +kernel
theorem dX4_shareByRounds_14 : decode cX4_shareByRounds 14 = .ok (.sipush 200, 3) := by decide +kernel
theorem dX4_shareByRounds_17 : decode cX4_shareByRounds 17 = .ok (.invokestatic 66, 3) := by decide +kernel
theorem dX4_shareByRounds_20 : decode cX4_shareByRounds 20 = .ok (.ifCond .ne 9, 3) := by decide +kernel
theorem dX4_shareByRounds_23 : decode cX4_shareByRounds 23 = .ok (.aload_n 0, 1) := by decide +kernel
theorem dX4_shareByRounds_24 : decode cX4_shareByRounds 24 = .ok (.iconst 1, 1) := by decide +kernel
theorem dX4_shareByRounds_25 : decode cX4_shareByRounds 25 = .ok (.invokevirtual 98, 3) := by decide +kernel
theorem dX4_shareByRounds_28 : decode cX4_shareByRounds 28 = .ok (.ireturn, 1) := by decide +kernel
theorem dX4_shareByRounds_29 : decode cX4_shareByRounds 29 = .ok (.iconst 0, 1) := by decide +kernel
theorem dX4_shareByRounds_30 : decode cX4_shareByRounds 30 = .ok (.istore_n 3, 1) := by decide +kernel
theorem dX4_shareByRounds_31 : decode cX4_shareByRounds 31 = .ok (.iload_n 3, 1) := by decide +kernel
theorem dX4_shareByRounds_32 : decode cX4_shareByRounds 32 = .ok (.bipush 6, 2) := by decide +kernel
theorem dX4_shareByRounds_34 : decode cX4_shareByRounds 34 = .ok (.if_icmp .ge 25, 3) := by decide +kernel
theorem dX4_shareByRounds_37 : decode cX4_shareByRounds 37 = .ok (.aload_n 0, 1) := by decide +kernel
theorem dX4_shareByRounds_38 : decode cX4_shareByRounds 38 = .ok (.getfield 56, 3) := by decide +kernel
theorem dX4_shareByRounds_41 : decode cX4_shareByRounds 41 = .ok (.iload_n 3, 1) := by decide +kernel
theorem dX4_shareByRounds_42 : decode cX4_shareByRounds 42 = .ok (.iload_n 3, 1) := by decide +kernel
theorem dX4_shareByRounds_43 : decode cX4_shareByRounds 43 = .ok (.ifCond .ne 8, 3) := by decide +kernel
theorem dX4_shareByRounds_46 : decode cX4_shareByRounds 46 = .ok (.ldc 105, 2) := by decide +kernel
theorem dX4_shareByRounds_48 : decode cX4_shareByRounds 48 = .ok (.goto 4, 3) := by decide +kernel
theorem dX4_shareByRounds_51 : decode cX4_shareByRounds 51 = .ok (.iconst 0, 1) := by decide +kernel
theorem dX4_shareByRounds_52 : decode cX4_shareByRounds 52 = .ok (.iastore, 1) := by decide +kernel
theorem dX4_shareByRounds_53 : decode cX4_shareByRounds 53 = .ok (.iinc 3 1, 3) := by decide +kernel
theorem dX4_shareByRounds_56 : decode cX4_shareByRounds 56 = .ok (.goto (-25), 3) := by decide +kernel
theorem dX4_shareByRounds_59 : decode cX4_shareByRounds 59 = .ok (.iconst 0, 1) := by decide +kernel
theorem dX4_shareByRounds_60 : decode cX4_shareByRounds 60 = .ok (.istore_n 3, 1) := by decide +kernel
theorem dX4_shareByRounds_61 : decode cX4_shareByRounds 61 = .ok (.iload_n 3, 1) := by decide +kernel
theorem dX4_shareByRounds_62 : decode cX4_shareByRounds 62 = .ok (.iload_n 2, 1) := by decide +kernel
theorem dX4_shareByRounds_63 : decode cX4_shareByRounds 63 = .ok (.if_icmp .ge 112, 3) := by decide +kernel
theorem dX4_shareByRounds_66 : decode cX4_shareByRounds 66 = .ok (.iconst 1, 1) := by decide +kernel
theorem dX4_shareByRounds_67 : decode cX4_shareByRounds 67 = .ok (.istore 4, 2) := by decide +kernel
theorem dX4_shareByRounds_69 : decode cX4_shareByRounds 69 = .ok (.iload 4, 2) := by decide +kernel
theorem dX4_shareByRounds_71 : decode cX4_shareByRounds 71 = .ok (.bipush 6, 2) := by decide +kernel
theorem dX4_shareByRounds_73 : decode cX4_shareByRounds 73 = .ok (.if_icmp .ge 66, 3) := by decide +kernel
theorem dX4_shareByRounds_76 : decode cX4_shareByRounds 76 = .ok (.iconst 0, 1) := by decide +kernel
theorem dX4_shareByRounds_77 : decode cX4_shareByRounds 77 = .ok (.istore 5, 2) := by decide +kernel
theorem dX4_shareByRounds_79 : decode cX4_shareByRounds 79 = .ok (.iconst 0, 1) := by decide +kernel
theorem dX4_shareByRounds_80 : decode cX4_shareByRounds 80 = .ok (.istore 6, 2) := by decide +kernel
theorem dX4_shareByRounds_82 : decode cX4_shareByRounds 82 = .ok (.iload 6, 2) := by decide +kernel
theorem dX4_shareByRounds_84 : decode cX4_shareByRounds 84 = .ok (.bipush 6, 2) := by decide +kernel
theorem dX4_shareByRounds_86 : decode cX4_shareByRounds 86 = .ok (.if_icmp .ge 35, 3) := by decide +kernel
theorem dX4_shareByRounds_89 : decode cX4_shareByRounds 89 = .ok (.iload 5, 2) := by decide +kernel
theorem dX4_shareByRounds_91 : decode cX4_shareByRounds 91 = .ok (.aload_n 0, 1) := by decide +kernel
theorem dX4_shareByRounds_92 : decode cX4_shareByRounds 92 = .ok (.getfield 7, 3) := by decide +kernel
theorem dX4_shareByRounds_95 : decode cX4_shareByRounds 95 = .ok (.bipush 6, 2) := by decide +kernel
theorem dX4_shareByRounds_97 : decode cX4_shareByRounds 97 = .ok (.iload 6, 2) := by decide +kernel
theorem dX4_shareByRounds_99 : decode cX4_shareByRounds 99 = .ok (.imul, 1) := by decide +kernel
theorem dX4_shareByRounds_100 : decode cX4_shareByRounds 100 = .ok (.iload 4, 2) := by decide +kernel
theorem dX4_shareByRounds_102 : decode cX4_shareByRounds 102 = .ok (.iadd, 1) := by decide +kernel
theorem dX4_shareByRounds_103 : decode cX4_shareByRounds 103 = .ok (.iaload, 1) := by decide +kernel
theorem dX4_shareByRounds_104 : decode cX4_shareByRounds 104 = .ok (.aload_n 0, 1) := by decide +kernel
theorem dX4_shareByRounds_105 : decode cX4_shareByRounds 105 = .ok (.getfield 56, 3) := by decide +kernel
theorem dX4_shareByRounds_108 : decode cX4_shareByRounds 108 = .ok (.iload 6, 2) := by decide +kernel
theorem dX4_shareByRounds_110 : decode cX4_shareByRounds 110 = .ok (.iaload, 1) := by decide +kernel
theorem dX4_shareByRounds_111 : decode cX4_shareByRounds 111 = .ok (.imul, 1) := by decide +kernel
theorem dX4_shareByRounds_112 : decode cX4_shareByRounds 112 = .ok (.iadd, 1) := by decide +kernel
theorem dX4_shareByRounds_113 : decode cX4_shareByRounds 113 = .ok (.istore 5, 2) := by decide +kernel
theorem dX4_shareByRounds_115 : decode cX4_shareByRounds 115 = .ok (.iinc 6 1, 3) := by decide +kernel
theorem dX4_shareByRounds_118 : decode cX4_shareByRounds 118 = .ok (.goto (-36), 3) := by decide +kernel
theorem dX4_shareByRounds_121 : decode cX4_shareByRounds 121 = .ok (.aload_n 0, 1) := by decide +kernel
theorem dX4_shareByRounds_122 : decode cX4_shareByRounds 122 = .ok (.getfield 59, 3) := by decide +kernel
theorem dX4_shareByRounds_125 : decode cX4_shareByRounds 125 = .ok (.iload 4, 2) := by decide +kernel
theorem dX4_shareByRounds_127 : decode cX4_shareByRounds 127 = .ok (.iload 5, 2) := by decide +kernel
theorem dX4_shareByRounds_129 : decode cX4_shareByRounds 129 = .ok (.bipush 100, 2) := by decide +kernel
theorem dX4_shareByRounds_131 : decode cX4_shareByRounds 131 = .ok (.idiv, 1) := by decide +kernel
theorem dX4_shareByRounds_132 : decode cX4_shareByRounds 132 = .ok (.iastore, 1) := by decide +kernel
theorem dX4_shareByRounds_133 : decode cX4_shareByRounds 133 = .ok (.iinc 4 1, 3) := by decide +kernel
theorem dX4_shareByRounds_136 : decode cX4_shareByRounds 136 = .ok (.goto (-67), 3) := by decide +kernel
theorem dX4_shareByRounds_139 : decode cX4_shareByRounds 139 = .ok (.iconst 1, 1) := by decide +kernel
theorem dX4_shareByRounds_140 : decode cX4_shareByRounds 140 = .ok (.istore 4, 2) := by decide +kernel
theorem dX4_shareByRounds_142 : decode cX4_shareByRounds 142 = .ok (.iload 4, 2) := by decide +kernel
theorem dX4_shareByRounds_144 : decode cX4_shareByRounds 144 = .ok (.bipush 6, 2) := by decide +kernel
theorem dX4_shareByRounds_146 : decode cX4_shareByRounds 146 = .ok (.if_icmp .ge 23, 3) := by decide +kernel
theorem dX4_shareByRounds_149 : decode cX4_shareByRounds 149 = .ok (.aload_n 0, 1) := by decide +kernel
theorem dX4_shareByRounds_150 : decode cX4_shareByRounds 150 = .ok (.getfield 56, 3) := by decide +kernel
theorem dX4_shareByRounds_153 : decode cX4_shareByRounds 153 = .ok (.iload 4, 2) := by decide +kernel
theorem dX4_shareByRounds_155 : decode cX4_shareByRounds 155 = .ok (.aload_n 0, 1) := by decide +kernel
theorem dX4_shareByRounds_156 : decode cX4_shareByRounds 156 = .ok (.getfield 59, 3) := by decide +kernel
theorem dX4_shareByRounds_159 : decode cX4_shareByRounds 159 = .ok (.iload 4, 2) := by decide +kernel
theorem dX4_shareByRounds_161 : decode cX4_shareByRounds 161 = .ok (.iaload, 1) := by decide +kernel
theorem dX4_shareByRounds_162 : decode cX4_shareByRounds 162 = .ok (.iastore, 1) := by decide +kernel
theorem dX4_shareByRounds_163 : decode cX4_shareByRounds 163 = .ok (.iinc 4 1, 3) := by decide +kernel
theorem dX4_shareByRounds_166 : decode cX4_shareByRounds 166 = .ok (.goto (-24), 3) := by decide +kernel
theorem dX4_shareByRounds_169 : decode cX4_shareByRounds 169 = .ok (.iinc 3 1, 3) := by decide +kernel
theorem dX4_shareByRounds_172 : decode cX4_shareByRounds 172 = .ok (.goto (-111), 3) := by decide +kernel
theorem dX4_shareByRounds_175 : decode cX4_shareByRounds 175 = .ok (.aload_n 0, 1) := by decide +kernel
theorem dX4_shareByRounds_176 : decode cX4_shareByRounds 176 = .ok (.getfield 56, 3) := by decide +kernel
theorem dX4_shareByRounds_179 : decode cX4_shareByRounds 179 = .ok (.iload_n 1, 1) := by decide +kernel
theorem dX4_shareByRounds_180 : decode cX4_shareByRounds 180 = .ok (.iaload, 1) := by decide +kernel
theorem dX4_shareByRounds_181 : decode cX4_shareByRounds 181 = .ok (.ireturn, 1) := by decide +kernel
theorem dX4_groupSet_0 : decode cX4_groupSet 0 = .ok (.iconst 1, 1) := by decide +kernel
theorem dX4_groupSet_1 : decode cX4_groupSet 1 = .ok (.istore_n 1, 1) := by decide +kernel
theorem dX4_groupSet_2 : decode cX4_groupSet 2 = .ok (.iconst 0, 1) := by decide +kernel
theorem dX4_groupSet_3 : decode cX4_groupSet 3 = .ok (.istore_n 2, 1) := by decide +kernel
theorem dX4_groupSet_4 : decode cX4_groupSet 4 = .ok (.iload_n 2, 1) := by decide +kernel
theorem dX4_groupSet_5 : decode cX4_groupSet 5 = .ok (.iload_n 1, 1) := by decide +kernel
theorem dX4_groupSet_6 : decode cX4_groupSet 6 = .ok (.if_icmp .eq 82, 3) := by decide +kernel
theorem dX4_groupSet_9 : decode cX4_groupSet 9 = .ok (.iload_n 1, 1) := by decide +kernel
theorem dX4_groupSet_10 : decode cX4_groupSet 10 = .ok (.istore_n 2, 1) := by decide +kernel
theorem dX4_groupSet_11 : decode cX4_groupSet 11 = .ok (.iconst 1, 1) := by decide +kernel
theorem dX4_groupSet_12 : decode cX4_groupSet 12 = .ok (.istore_n 3, 1) := by decide +kernel
theorem dX4_groupSet_13 : decode cX4_groupSet 13 = .ok (.iload_n 3, 1) := by decide +kernel
theorem dX4_groupSet_14 : decode cX4_groupSet 14 = .ok (.bipush 6, 2) := by decide +kernel
theorem dX4_groupSet_16 : decode cX4_groupSet 16 = .ok (.if_icmp .ge 69, 3) := by decide +kernel
theorem dX4_groupSet_19 : decode cX4_groupSet 19 = .ok (.iconst 0, 1) := by decide +kernel
theorem dX4_groupSet_20 : decode cX4_groupSet 20 = .ok (.istore 4, 2) := by decide +kernel
theorem dX4_groupSet_22 : decode cX4_groupSet 22 = .ok (.iconst 0, 1) := by decide +kernel
theorem dX4_groupSet_23 : decode cX4_groupSet 23 = .ok (.istore 5, 2) := by decide +kernel
theorem dX4_groupSet_25 : decode cX4_groupSet 25 = .ok (.iload 5, 2) := by decide +kernel
theorem dX4_groupSet_27 : decode cX4_groupSet 27 = .ok (.bipush 6, 2) := by decide +kernel
theorem dX4_groupSet_29 : decode cX4_groupSet 29 = .ok (.if_icmp .ge 33, 3) := by decide +kernel
theorem dX4_groupSet_32 : decode cX4_groupSet 32 = .ok (.iload 4, 2) := by decide +kernel
theorem dX4_groupSet_34 : decode cX4_groupSet 34 = .ok (.iload_n 1, 1) := by decide +kernel
theorem dX4_groupSet_35 : decode cX4_groupSet 35 = .ok (.iload 5, 2) := by decide +kernel
theorem dX4_groupSet_37 : decode cX4_groupSet 37 = .ok (.ishr, 1) := by decide +kernel
theorem dX4_groupSet_38 : decode cX4_groupSet 38 = .ok (.iconst 1, 1) := by decide +kernel
theorem dX4_groupSet_39 : decode cX4_groupSet 39 = .ok (.iand, 1) := by decide +kernel
theorem dX4_groupSet_40 : decode cX4_groupSet 40 = .ok (.aload_n 0, 1) := by decide +kernel
theorem dX4_groupSet_41 : decode cX4_groupSet 41 = .ok (.getfield 7, 3) := by decide +kernel
theorem dX4_groupSet_44 : decode cX4_groupSet 44 = .ok (.bipush 6, 2) := by decide +kernel
theorem dX4_groupSet_46 : decode cX4_groupSet 46 = .ok (.iload 5, 2) := by decide +kernel
theorem dX4_groupSet_48 : decode cX4_groupSet 48 = .ok (.imul, 1) := by decide +kernel
theorem dX4_groupSet_49 : decode cX4_groupSet 49 = .ok (.iload_n 3, 1) := by decide +kernel
theorem dX4_groupSet_50 : decode cX4_groupSet 50 = .ok (.iadd, 1) := by decide +kernel
theorem dX4_groupSet_51 : decode cX4_groupSet 51 = .ok (.iaload, 1) := by decide +kernel
theorem dX4_groupSet_52 : decode cX4_groupSet 52 = .ok (.imul, 1) := by decide +kernel
theorem dX4_groupSet_53 : decode cX4_groupSet 53 = .ok (.iadd, 1) := by decide +kernel
theorem dX4_groupSet_54 : decode cX4_groupSet 54 = .ok (.istore 4, 2) := by decide +kernel
theorem dX4_groupSet_56 : decode cX4_groupSet 56 = .ok (.iinc 5 1, 3) := by decide +kernel
theorem dX4_groupSet_59 : decode cX4_groupSet 59 = .ok (.goto (-34), 3) := by decide +kernel
theorem dX4_groupSet_62 : decode cX4_groupSet 62 = .ok (.iload_n 1, 1) := by decide +kernel
theorem dX4_groupSet_63 : decode cX4_groupSet 63 = .ok (.iload 4, 2) := by decide +kernel
theorem dX4_groupSet_65 : decode cX4_groupSet 65 = .ok (.bipush 50, 2) := by decide +kernel
theorem dX4_groupSet_67 : decode cX4_groupSet 67 = .ok (.if_icmp .le 9, 3) := by decide +kernel
theorem dX4_groupSet_70 : decode cX4_groupSet 70 = .ok (.iconst 1, 1) := by decide +kernel
theorem dX4_groupSet_71 : decode cX4_groupSet 71 = .ok (.iload_n 3, 1) := by decide +kernel
theorem dX4_groupSet_72 : decode cX4_groupSet 72 = .ok (.ishl, 1) := by decide +kernel
theorem dX4_groupSet_73 : decode cX4_groupSet 73 = .ok (.goto 4, 3) := by decide +kernel
theorem dX4_groupSet_76 : decode cX4_groupSet 76 = .ok (.iconst 0, 1) := by decide +kernel
theorem dX4_groupSet_77 : decode cX4_groupSet 77 = .ok (.ior, 1) := by decide +kernel
theorem dX4_groupSet_78 : decode cX4_groupSet 78 = .ok (.istore_n 1, 1) := by decide +kernel
theorem dX4_groupSet_79 : decode cX4_groupSet 79 = .ok (.iinc 3 1, 3) := by decide +kernel
theorem dX4_groupSet_82 : decode cX4_groupSet 82 = .ok (.goto (-69), 3) := by decide +kernel
theorem dX4_groupSet_85 : decode cX4_groupSet 85 = .ok (.goto (-81), 3) := by decide +kernel
theorem dX4_groupSet_88 : decode cX4_groupSet 88 = .ok (.iload_n 1, 1) := by decide +kernel
theorem dX4_groupSet_89 : decode cX4_groupSet 89 = .ok (.ireturn, 1) := by decide +kernel
set_option maxRecDepth 20000 in
theorem ggX4_group_X4_groupSet : GoodIn wsX4_group wsX4_groupSet := goodIn_r _ [6, 7, 8, 9, 10, 11, 12, 13, 14, 15, 16, 17, 18, 19, 20, 21, 22, 23, 24, 25, 26] (by decide +kernel) (by decide +kernel)
set_option maxRecDepth 20000 in
theorem gX4_group_X4_groupSet : GoodIn wsX4_group (wsV RX4 114 RX4 yX4_groupSet wsX4_groupSet) := goodIn_app (goodIn_of _ (by decide +kernel)) ggX4_group_X4_groupSet
theorem dX4_group_0 : decode cX4_group 0 = .ok (.aload_n 0, 1) := by decide +kernel
theorem dX4_group_1 : decode cX4_group 1 = .ok (.iconst 0, 1) := by decide +kernel
theorem dX4_group_2 : decode cX4_group 2 = .ok (.putfield 62, 3) := by decide +kernel
theorem dX4_group_5 : decode cX4_group 5 = .ok (.aload_n 0, 1) := by decide +kernel
theorem dX4_group_6 : decode cX4_group 6 = .ok (.invokevirtual 114, 3) := by decide +kernel
theorem dX4_group_9 : decode cX4_group 9 = .ok (.ireturn, 1) := by decide +kernel
set_option maxRecDepth 20000 in
theorem ggX4_goodwill_X4_isCompany : GoodIn wsX4_goodwill wsX4_isCompany := goodIn_r _ [6, 7, 8, 5, 9] (by decide +kernel) (by decide +kernel)
set_option maxRecDepth 20000 in
theorem gX4_goodwill_X4_isCompany : GoodIn wsX4_goodwill (va_wsS RX4 70 yX4_isCompany wsX4_isCompany) := goodIn_app (goodIn_of _ (by decide +kernel)) ggX4_goodwill_X4_isCompany
set_option maxRecDepth 20000 in
theorem ggX4_goodwill_X4_fails : GoodIn wsX4_goodwill wsX4_fails := goodIn_r _ [13, 1, 14, 15, 16, 17, 18, 19, 20, 21, 22, 23, 24, 25, 26, 27, 28, 29, 30, 31, 32] (by decide +kernel) (by decide +kernel)
set_option maxRecDepth 20000 in
theorem gX4_goodwill_X4_fails : GoodIn wsX4_goodwill (wsV RX4 98 RX4 yX4_fails wsX4_fails) := goodIn_app (goodIn_of _ (by decide +kernel)) ggX4_goodwill_X4_fails
theorem dX4_goodwill_0 : decode cX4_goodwill 0 = .ok (.aload_n 0, 1) := by decide +kernel
theorem dX4_goodwill_1 : decode cX4_goodwill 1 = .ok (.iconst 0, 1) := by decide +kernel
theorem dX4_goodwill_2 : decode cX4_goodwill 2 = .ok (.putfield 62, 3) := by decide +kernel
theorem dX4_goodwill_5 : decode cX4_goodwill 5 = .ok (.iload_n 1, 1) := by decide +kernel
theorem dX4_goodwill_6 : decode cX4_goodwill 6 = .ok (.invokestatic 70, 3) := by decide +kernel
theorem dX4_goodwill_9 : decode cX4_goodwill 9 = .ok (.ifCond .eq 12, 3) := by decide +kernel
theorem dX4_goodwill_12 : decode cX4_goodwill 12 = .ok (.aload_n 0, 1) := by decide +kernel
theorem dX4_goodwill_13 : decode cX4_goodwill 13 = .ok (.getfield 19, 3) := by decide +kernel
theorem dX4_goodwill_16 : decode cX4_goodwill 16 = .ok (.iload_n 1, 1) := by decide +kernel
theorem dX4_goodwill_17 : decode cX4_goodwill 17 = .ok (.iaload, 1) := by decide +kernel
theorem dX4_goodwill_18 : decode cX4_goodwill 18 = .ok (.goto 8, 3) := by decide +kernel
theorem dX4_goodwill_21 : decode cX4_goodwill 21 = .ok (.aload_n 0, 1) := by decide +kernel
theorem dX4_goodwill_22 : decode cX4_goodwill 22 = .ok (.iconst 1, 1) := by decide +kernel
theorem dX4_goodwill_23 : decode cX4_goodwill 23 = .ok (.invokevirtual 98, 3) := by decide +kernel
theorem dX4_goodwill_26 : decode cX4_goodwill 26 = .ok (.ireturn, 1) := by decide +kernel
set_option maxRecDepth 20000 in
theorem ggX4_setBooks_X4_isCompany : GoodIn wsX4_setBooks wsX4_isCompany := goodIn_r _ [11, 12, 13, 10, 14] (by decide +kernel) (by decide +kernel)
set_option maxRecDepth 20000 in
theorem gX4_setBooks_X4_isCompany : GoodIn wsX4_setBooks (va_wsS RX4 70 yX4_isCompany wsX4_isCompany) := goodIn_app (goodIn_of _ (by decide +kernel)) ggX4_setBooks_X4_isCompany
set_option maxRecDepth 20000 in
theorem ggX4_setBooks_X4_in : GoodIn wsX4_setBooks wsX4_in := goodIn_r _ [14] (by decide +kernel) (by decide +kernel)
set_option maxRecDepth 20000 in
theorem gX4_setBooks_X4_in : GoodIn wsX4_setBooks (va_wsS RX4 66 yX4_in wsX4_in) := goodIn_app (goodIn_of _ (by decide +kernel)) ggX4_setBooks_X4_in
theorem dX4_setBooks_0 : decode cX4_setBooks 0 = .ok (.iload_n 1, 1) := by decide +kernel
theorem dX4_setBooks_1 : decode cX4_setBooks 1 = .ok (.invokestatic 70, 3) := by decide +kernel
theorem dX4_setBooks_4 : decode cX4_setBooks 4 = .ok (.ifCond .eq 62, 3) := by decide +kernel
theorem dX4_setBooks_7 : decode cX4_setBooks 7 = .ok (.iload_n 2, 1) := by decide +kernel
theorem dX4_setBooks_8 : decode cX4_setBooks 8 = .ok (.iconst 0, 1) := by decide +kernel
theorem dX4_setBooks_9 : decode cX4_setBooks 9 = .ok (.ldc 105, 2) := by decide +kernel
theorem dX4_setBooks_11 : decode cX4_setBooks 11 = .ok (.invokestatic 66, 3) := by decide +kernel
theorem dX4_setBooks_14 : decode cX4_setBooks 14 = .ok (.ifCond .eq 52, 3) := by decide +kernel
theorem dX4_setBooks_17 : decode cX4_setBooks 17 = .ok (.iload_n 3, 1) := by decide +kernel
theorem dX4_setBooks_18 : decode cX4_setBooks 18 = .ok (.iconst 0, 1) := by decide +kernel
theorem dX4_setBooks_19 : decode cX4_setBooks 19 = .ok (.ldc 105, 2) := by decide +kernel
theorem dX4_setBooks_21 : decode cX4_setBooks 21 = .ok (.invokestatic 66, 3) := by decide +kernel
theorem dX4_setBooks_24 : decode cX4_setBooks 24 = .ok (.ifCond .eq 42, 3) := by decide +kernel
theorem dX4_setBooks_27 : decode cX4_setBooks 27 = .ok (.iload 4, 2) := by decide +kernel
theorem dX4_setBooks_29 : decode cX4_setBooks 29 = .ok (.ldc 118, 2) := by decide +kernel
theorem dX4_setBooks_31 : decode cX4_setBooks 31 = .ok (.ldc 105, 2) := by decide +kernel
theorem dX4_setBooks_33 : decode cX4_setBooks 33 = .ok (.invokestatic 66, 3) := by decide +kernel
theorem dX4_setBooks_36 : decode cX4_setBooks 36 = .ok (.ifCond .eq 30, 3) := by decide +kernel
theorem dX4_setBooks_39 : decode cX4_setBooks 39 = .ok (.iload 5, 2) := by decide +kernel
theorem dX4_setBooks_41 : decode cX4_setBooks 41 = .ok (.ldc 118, 2) := by decide +kernel
theorem dX4_setBooks_43 : decode cX4_setBooks 43 = .ok (.ldc 105, 2) := by decide +kernel
theorem dX4_setBooks_45 : decode cX4_setBooks 45 = .ok (.invokestatic 66, 3) := by decide +kernel
theorem dX4_setBooks_48 : decode cX4_setBooks 48 = .ok (.ifCond .eq 18, 3) := by decide +kernel
theorem dX4_setBooks_51 : decode cX4_setBooks 51 = .ok (.iload_n 2, 1) := by decide +kernel
theorem dX4_setBooks_52 : decode cX4_setBooks 52 = .ok (.iload_n 3, 1) := by decide +kernel
theorem dX4_setBooks_53 : decode cX4_setBooks 53 = .ok (.iload 4, 2) := by decide +kernel
theorem dX4_setBooks_55 : decode cX4_setBooks 55 = .ok (.iadd, 1) := by decide +kernel
theorem dX4_setBooks_56 : decode cX4_setBooks 56 = .ok (.iload 5, 2) := by decide +kernel
theorem dX4_setBooks_58 : decode cX4_setBooks 58 = .ok (.iadd, 1) := by decide +kernel
theorem dX4_setBooks_59 : decode cX4_setBooks 59 = .ok (.if_icmp .ne 7, 3) := by decide +kernel
theorem dX4_setBooks_62 : decode cX4_setBooks 62 = .ok (.iconst 1, 1) := by decide +kernel
theorem dX4_setBooks_63 : decode cX4_setBooks 63 = .ok (.goto 4, 3) := by decide +kernel
theorem dX4_setBooks_66 : decode cX4_setBooks 66 = .ok (.iconst 0, 1) := by decide +kernel
theorem dX4_setBooks_67 : decode cX4_setBooks 67 = .ok (.istore 6, 2) := by decide +kernel
theorem dX4_setBooks_69 : decode cX4_setBooks 69 = .ok (.aload_n 0, 1) := by decide +kernel
theorem dX4_setBooks_70 : decode cX4_setBooks 70 = .ok (.iload 6, 2) := by decide +kernel
theorem dX4_setBooks_72 : decode cX4_setBooks 72 = .ok (.ifCond .eq 7, 3) := by decide +kernel
theorem dX4_setBooks_75 : decode cX4_setBooks 75 = .ok (.iconst 0, 1) := by decide +kernel
theorem dX4_setBooks_76 : decode cX4_setBooks 76 = .ok (.goto 4, 3) := by decide +kernel
theorem dX4_setBooks_79 : decode cX4_setBooks 79 = .ok (.iconst 1, 1) := by decide +kernel
theorem dX4_setBooks_80 : decode cX4_setBooks 80 = .ok (.putfield 62, 3) := by decide +kernel
theorem dX4_setBooks_83 : decode cX4_setBooks 83 = .ok (.iload 6, 2) := by decide +kernel
theorem dX4_setBooks_85 : decode cX4_setBooks 85 = .ok (.ifCond .eq 33, 3) := by decide +kernel
theorem dX4_setBooks_88 : decode cX4_setBooks 88 = .ok (.aload_n 0, 1) := by decide +kernel
theorem dX4_setBooks_89 : decode cX4_setBooks 89 = .ok (.getfield 22, 3) := by decide +kernel
theorem dX4_setBooks_92 : decode cX4_setBooks 92 = .ok (.iload_n 1, 1) := by decide +kernel
theorem dX4_setBooks_93 : decode cX4_setBooks 93 = .ok (.iload_n 2, 1) := by decide +kernel
theorem dX4_setBooks_94 : decode cX4_setBooks 94 = .ok (.iastore, 1) := by decide +kernel
theorem dX4_setBooks_95 : decode cX4_setBooks 95 = .ok (.aload_n 0, 1) := by decide +kernel
theorem dX4_setBooks_96 : decode cX4_setBooks 96 = .ok (.getfield 25, 3) := by decide +kernel
theorem dX4_setBooks_99 : decode cX4_setBooks 99 = .ok (.iload_n 1, 1) := by decide +kernel
theorem dX4_setBooks_100 : decode cX4_setBooks 100 = .ok (.iload_n 3, 1) := by decide +kernel
theorem dX4_setBooks_101 : decode cX4_setBooks 101 = .ok (.iastore, 1) := by decide +kernel
theorem dX4_setBooks_102 : decode cX4_setBooks 102 = .ok (.aload_n 0, 1) := by decide +kernel
theorem dX4_setBooks_103 : decode cX4_setBooks 103 = .ok (.getfield 28, 3) := by decide +kernel
theorem dX4_setBooks_106 : decode cX4_setBooks 106 = .ok (.iload_n 1, 1) := by decide +kernel
theorem dX4_setBooks_107 : decode cX4_setBooks 107 = .ok (.iload 4, 2) := by decide +kernel
theorem dX4_setBooks_109 : decode cX4_setBooks 109 = .ok (.iastore, 1) := by decide +kernel
theorem dX4_setBooks_110 : decode cX4_setBooks 110 = .ok (.aload_n 0, 1) := by decide +kernel
theorem dX4_setBooks_111 : decode cX4_setBooks 111 = .ok (.getfield 31, 3) := by decide +kernel
theorem dX4_setBooks_114 : decode cX4_setBooks 114 = .ok (.iload_n 1, 1) := by decide +kernel
theorem dX4_setBooks_115 : decode cX4_setBooks 115 = .ok (.iload 5, 2) := by decide +kernel
theorem dX4_setBooks_117 : decode cX4_setBooks 117 = .ok (.iastore, 1) := by decide +kernel
theorem dX4_setBooks_118 : decode cX4_setBooks 118 = .ok (.return_, 1) := by decide +kernel
set_option maxRecDepth 20000 in
theorem ggX4_setRates_X4_isCompany : GoodIn wsX4_setRates wsX4_isCompany := goodIn_r _ [8, 9, 10, 7, 11] (by decide +kernel) (by decide +kernel)
set_option maxRecDepth 20000 in
theorem gX4_setRates_X4_isCompany : GoodIn wsX4_setRates (va_wsS RX4 70 yX4_isCompany wsX4_isCompany) := goodIn_app (goodIn_of _ (by decide +kernel)) ggX4_setRates_X4_isCompany
set_option maxRecDepth 20000 in
theorem ggX4_setRates_X4_in : GoodIn wsX4_setRates wsX4_in := goodIn_r _ [11] (by decide +kernel) (by decide +kernel)
set_option maxRecDepth 20000 in
theorem gX4_setRates_X4_in : GoodIn wsX4_setRates (va_wsS RX4 66 yX4_in wsX4_in) := goodIn_app (goodIn_of _ (by decide +kernel)) ggX4_setRates_X4_in
theorem dX4_setRates_0 : decode cX4_setRates 0 = .ok (.iload_n 1, 1) := by decide +kernel
theorem dX4_setRates_1 : decode cX4_setRates 1 = .ok (.invokestatic 70, 3) := by decide +kernel
theorem dX4_setRates_4 : decode cX4_setRates 4 = .ok (.ifCond .eq 41, 3) := by decide +kernel
theorem dX4_setRates_7 : decode cX4_setRates 7 = .ok (.iload_n 2, 1) := by decide +kernel
theorem dX4_setRates_8 : decode cX4_setRates 8 = .ok (.iconst 1, 1) := by decide +kernel
theorem dX4_setRates_9 : decode cX4_setRates 9 = .ok (.sipush 1000, 3) := by decide +kernel
theorem dX4_setRates_12 : decode cX4_setRates 12 = .ok (.invokestatic 66, 3) := by decide +kernel
theorem dX4_setRates_15 : decode cX4_setRates 15 = .ok (.ifCond .eq 30, 3) := by decide +kernel
theorem dX4_setRates_18 : decode cX4_setRates 18 = .ok (.iload_n 3, 1) := by decide +kernel
theorem dX4_setRates_19 : decode cX4_setRates 19 = .ok (.iconst 1, 1) := by decide +kernel
theorem dX4_setRates_20 : decode cX4_setRates 20 = .ok (.sipush 1000, 3) := by decide +kernel
theorem dX4_setRates_23 : decode cX4_setRates 23 = .ok (.invokestatic 66, 3) := by decide +kernel
theorem dX4_setRates_26 : decode cX4_setRates 26 = .ok (.ifCond .eq 19, 3) := by decide +kernel
theorem dX4_setRates_29 : decode cX4_setRates 29 = .ok (.iload 4, 2) := by decide +kernel
theorem dX4_setRates_31 : decode cX4_setRates 31 = .ok (.iconst 1, 1) := by decide +kernel
theorem dX4_setRates_32 : decode cX4_setRates 32 = .ok (.sipush 1000, 3) := by decide +kernel
theorem dX4_setRates_35 : decode cX4_setRates 35 = .ok (.invokestatic 66, 3) := by decide +kernel
theorem dX4_setRates_38 : decode cX4_setRates 38 = .ok (.ifCond .eq 7, 3) := by decide +kernel
theorem dX4_setRates_41 : decode cX4_setRates 41 = .ok (.iconst 1, 1) := by decide +kernel
theorem dX4_setRates_42 : decode cX4_setRates 42 = .ok (.goto 4, 3) := by decide +kernel
theorem dX4_setRates_45 : decode cX4_setRates 45 = .ok (.iconst 0, 1) := by decide +kernel
theorem dX4_setRates_46 : decode cX4_setRates 46 = .ok (.istore 5, 2) := by decide +kernel
theorem dX4_setRates_48 : decode cX4_setRates 48 = .ok (.aload_n 0, 1) := by decide +kernel
theorem dX4_setRates_49 : decode cX4_setRates 49 = .ok (.iload 5, 2) := by decide +kernel
theorem dX4_setRates_51 : decode cX4_setRates 51 = .ok (.ifCond .eq 7, 3) := by decide +kernel
theorem dX4_setRates_54 : decode cX4_setRates 54 = .ok (.iconst 0, 1) := by decide +kernel
theorem dX4_setRates_55 : decode cX4_setRates 55 = .ok (.goto 4, 3) := by decide +kernel
theorem dX4_setRates_58 : decode cX4_setRates 58 = .ok (.iconst 1, 1) := by decide +kernel
theorem dX4_setRates_59 : decode cX4_setRates 59 = .ok (.putfield 62, 3) := by decide +kernel
theorem dX4_setRates_62 : decode cX4_setRates 62 = .ok (.iload 5, 2) := by decide +kernel
theorem dX4_setRates_64 : decode cX4_setRates 64 = .ok (.ifCond .eq 25, 3) := by decide +kernel
theorem dX4_setRates_67 : decode cX4_setRates 67 = .ok (.aload_n 0, 1) := by decide +kernel
theorem dX4_setRates_68 : decode cX4_setRates 68 = .ok (.getfield 34, 3) := by decide +kernel
theorem dX4_setRates_71 : decode cX4_setRates 71 = .ok (.iload_n 1, 1) := by decide +kernel
theorem dX4_setRates_72 : decode cX4_setRates 72 = .ok (.iload_n 2, 1) := by decide +kernel
theorem dX4_setRates_73 : decode cX4_setRates 73 = .ok (.iastore, 1) := by decide +kernel
theorem dX4_setRates_74 : decode cX4_setRates 74 = .ok (.aload_n 0, 1) := by decide +kernel
theorem dX4_setRates_75 : decode cX4_setRates 75 = .ok (.getfield 37, 3) := by decide +kernel
theorem dX4_setRates_78 : decode cX4_setRates 78 = .ok (.iload_n 1, 1) := by decide +kernel
theorem dX4_setRates_79 : decode cX4_setRates 79 = .ok (.iload_n 3, 1) := by decide +kernel
theorem dX4_setRates_80 : decode cX4_setRates 80 = .ok (.iastore, 1) := by decide +kernel
theorem dX4_setRates_81 : decode cX4_setRates 81 = .ok (.aload_n 0, 1) := by decide +kernel
theorem dX4_setRates_82 : decode cX4_setRates 82 = .ok (.getfield 40, 3) := by decide +kernel
theorem dX4_setRates_85 : decode cX4_setRates 85 = .ok (.iload_n 1, 1) := by decide +kernel
theorem dX4_setRates_86 : decode cX4_setRates 86 = .ok (.iload 4, 2) := by decide +kernel
theorem dX4_setRates_88 : decode cX4_setRates 88 = .ok (.iastore, 1) := by decide +kernel
theorem dX4_setRates_89 : decode cX4_setRates 89 = .ok (.return_, 1) := by decide +kernel
set_option maxRecDepth 20000 in
theorem ggX4_translated_X4_floor : GoodIn wsX4_translated wsX4_floor := goodIn_r _ [5] (by decide +kernel) (by decide +kernel)
set_option maxRecDepth 20000 in
theorem gX4_translated_X4_floor : GoodIn wsX4_translated (va_wsS RX4 111 yX4_floor wsX4_floor) := goodIn_app (goodIn_of _ (by decide +kernel)) ggX4_translated_X4_floor
theorem dX4_translated_0 : decode cX4_translated 0 = .ok (.iload_n 0, 1) := by decide +kernel
theorem dX4_translated_1 : decode cX4_translated 1 = .ok (.i2l, 1) := by decide +kernel
theorem dX4_translated_2 : decode cX4_translated 2 = .ok (.iload_n 1, 1) := by decide +kernel
theorem dX4_translated_3 : decode cX4_translated 3 = .ok (.i2l, 1) := by decide +kernel
theorem dX4_translated_4 : decode cX4_translated 4 = .ok (.lmul, 1) := by decide +kernel
theorem dX4_translated_5 : decode cX4_translated 5 = .ok (.ldc2_w 109, 3) := by decide +kernel
theorem dX4_translated_8 : decode cX4_translated 8 = .ok (.invokestatic 111, 3) := by decide +kernel
theorem dX4_translated_11 : decode cX4_translated 11 = .ok (.l2i, 1) := by decide +kernel
theorem dX4_translated_12 : decode cX4_translated 12 = .ok (.ireturn, 1) := by decide +kernel
set_option maxRecDepth 20000 in
theorem ggX4_net_X4_translated : GoodIn wsX4_net wsX4_translated := goodIn_r _ [7, 8, 9, 10, 6, 11] (by decide +kernel) (by decide +kernel)
set_option maxRecDepth 20000 in
theorem gX4_net_X4_translated : GoodIn wsX4_net (va_wsS RX4 119 yX4_translated wsX4_translated) := goodIn_app (goodIn_of _ (by decide +kernel)) ggX4_net_X4_translated
theorem dX4_net_0 : decode cX4_net 0 = .ok (.aload_n 0, 1) := by decide +kernel
theorem dX4_net_1 : decode cX4_net 1 = .ok (.getfield 22, 3) := by decide +kernel
theorem dX4_net_4 : decode cX4_net 4 = .ok (.iload_n 1, 1) := by decide +kernel
theorem dX4_net_5 : decode cX4_net 5 = .ok (.iaload, 1) := by decide +kernel
theorem dX4_net_6 : decode cX4_net 6 = .ok (.aload_n 0, 1) := by decide +kernel
theorem dX4_net_7 : decode cX4_net 7 = .ok (.getfield 34, 3) := by decide +kernel
theorem dX4_net_10 : decode cX4_net 10 = .ok (.iload_n 1, 1) := by decide +kernel
theorem dX4_net_11 : decode cX4_net 11 = .ok (.iaload, 1) := by decide +kernel
theorem dX4_net_12 : decode cX4_net 12 = .ok (.invokestatic 119, 3) := by decide +kernel
theorem dX4_net_15 : decode cX4_net 15 = .ok (.aload_n 0, 1) := by decide +kernel
theorem dX4_net_16 : decode cX4_net 16 = .ok (.getfield 25, 3) := by decide +kernel
theorem dX4_net_19 : decode cX4_net 19 = .ok (.iload_n 1, 1) := by decide +kernel
theorem dX4_net_20 : decode cX4_net 20 = .ok (.iaload, 1) := by decide +kernel
theorem dX4_net_21 : decode cX4_net 21 = .ok (.aload_n 0, 1) := by decide +kernel
theorem dX4_net_22 : decode cX4_net 22 = .ok (.getfield 34, 3) := by decide +kernel
theorem dX4_net_25 : decode cX4_net 25 = .ok (.iload_n 1, 1) := by decide +kernel
theorem dX4_net_26 : decode cX4_net 26 = .ok (.iaload, 1) := by decide +kernel
theorem dX4_net_27 : decode cX4_net 27 = .ok (.invokestatic 119, 3) := by decide +kernel
theorem dX4_net_30 : decode cX4_net 30 = .ok (.isub, 1) := by decide +kernel
theorem dX4_net_31 : decode cX4_net 31 = .ok (.ireturn, 1) := by decide +kernel
set_option maxRecDepth 20000 in
theorem ggX4_netValue_X4_isCompany : GoodIn wsX4_netValue wsX4_isCompany := goodIn_r _ [5, 6, 7, 4, 8] (by decide +kernel) (by decide +kernel)
set_option maxRecDepth 20000 in
theorem gX4_netValue_X4_isCompany : GoodIn wsX4_netValue (va_wsS RX4 70 yX4_isCompany wsX4_isCompany) := goodIn_app (goodIn_of _ (by decide +kernel)) ggX4_netValue_X4_isCompany
set_option maxRecDepth 20000 in
theorem ggX4_netValue_X4_net : GoodIn wsX4_netValue wsX4_net := goodIn_r _ [12, 13, 14, 15, 16, 17, 4, 18, 19, 20, 21, 22, 27, 28, 29, 30, 31, 32, 33, 34, 35, 36, 37, 38, 39, 40, 41, 42, 43, 44, 45] (by decide +kernel) (by decide +kernel)
set_option maxRecDepth 20000 in
theorem gX4_netValue_X4_net : GoodIn wsX4_netValue (wsV RX4 106 RX4 yX4_net wsX4_net) := goodIn_app (goodIn_of _ (by decide +kernel)) ggX4_netValue_X4_net
set_option maxRecDepth 20000 in
theorem ggX4_netValue_X4_fails : GoodIn wsX4_netValue wsX4_fails := goodIn_r _ [26, 1, 27, 28, 29, 30, 31, 32, 33, 34, 35, 36, 37, 38, 39, 40, 41, 42, 43, 44, 45] (by decide +kernel) (by decide +kernel)
set_option maxRecDepth 20000 in
theorem gX4_netValue_X4_fails : GoodIn wsX4_netValue (wsV RX4 98 RX4 yX4_fails wsX4_fails) := goodIn_app (goodIn_of _ (by decide +kernel)) ggX4_netValue_X4_fails
theorem dX4_netValue_0 : decode cX4_netValue 0 = .ok (.aload_n 0, 1) := by decide +kernel
theorem dX4_netValue_1 : decode cX4_netValue 1 = .ok (.iconst 0, 1) := by decide +kernel
theorem dX4_netValue_2 : decode cX4_netValue 2 = .ok (.putfield 62, 3) := by decide +kernel
theorem dX4_netValue_5 : decode cX4_netValue 5 = .ok (.iload_n 1, 1) := by decide +kernel
theorem dX4_netValue_6 : decode cX4_netValue 6 = .ok (.invokestatic 70, 3) := by decide +kernel
theorem dX4_netValue_9 : decode cX4_netValue 9 = .ok (.ifCond .eq 11, 3) := by decide +kernel
theorem dX4_netValue_12 : decode cX4_netValue 12 = .ok (.aload_n 0, 1) := by decide +kernel
theorem dX4_netValue_13 : decode cX4_netValue 13 = .ok (.iload_n 1, 1) := by decide +kernel
theorem dX4_netValue_14 : decode cX4_netValue 14 = .ok (.invokevirtual 106, 3) := by decide +kernel
theorem dX4_netValue_17 : decode cX4_netValue 17 = .ok (.goto 8, 3) := by decide +kernel
theorem dX4_netValue_20 : decode cX4_netValue 20 = .ok (.aload_n 0, 1) := by decide +kernel
theorem dX4_netValue_21 : decode cX4_netValue 21 = .ok (.iconst 1, 1) := by decide +kernel
theorem dX4_netValue_22 : decode cX4_netValue 22 = .ok (.invokevirtual 98, 3) := by decide +kernel
theorem dX4_netValue_25 : decode cX4_netValue 25 = .ok (.ireturn, 1) := by decide +kernel
set_option maxRecDepth 20000 in
theorem ggX4_translatedEquity_X4_isCompany : GoodIn wsX4_translatedEquity wsX4_isCompany := goodIn_r _ [7, 8, 9, 6, 10] (by decide +kernel) (by decide +kernel)
set_option maxRecDepth 20000 in
theorem gX4_translatedEquity_X4_isCompany : GoodIn wsX4_translatedEquity (va_wsS RX4 70 yX4_isCompany wsX4_isCompany) := goodIn_app (goodIn_of _ (by decide +kernel)) ggX4_translatedEquity_X4_isCompany
set_option maxRecDepth 20000 in
theorem ggX4_translatedEquity_X4_translated : GoodIn wsX4_translatedEquity wsX4_translated := goodIn_r _ [13, 14, 15, 16, 6, 17] (by decide +kernel) (by decide +kernel)
set_option maxRecDepth 20000 in
theorem gX4_translatedEquity_X4_translated : GoodIn wsX4_translatedEquity (va_wsS RX4 119 yX4_translated wsX4_translated) := goodIn_app (goodIn_of _ (by decide +kernel)) ggX4_translatedEquity_X4_translated
set_option maxRecDepth 20000 in
theorem ggX4_translatedEquity_X4_fails : GoodIn wsX4_translatedEquity wsX4_fails := goodIn_r _ [21, 1, 22, 23, 24, 25, 26, 27, 28, 29, 30, 31, 32, 33, 34, 35, 36, 37, 38, 39, 40] (by decide +kernel) (by decide +kernel)
set_option maxRecDepth 20000 in
theorem gX4_translatedEquity_X4_fails : GoodIn wsX4_translatedEquity (wsV RX4 98 RX4 yX4_fails wsX4_fails) := goodIn_app (goodIn_of _ (by decide +kernel)) ggX4_translatedEquity_X4_fails
theorem dX4_translatedEquity_0 : decode cX4_translatedEquity 0 = .ok (.aload_n 0, 1) := by decide +kernel
theorem dX4_translatedEquity_1 : decode cX4_translatedEquity 1 = .ok (.iconst 0, 1) := by decide +kernel
theorem dX4_translatedEquity_2 : decode cX4_translatedEquity 2 = .ok (.putfield 62, 3) := by decide +kernel
theorem dX4_translatedEquity_5 : decode cX4_translatedEquity 5 = .ok (.iload_n 1, 1) := by decide +kernel
theorem dX4_translatedEquity_6 : decode cX4_translatedEquity 6 = .ok (.invokestatic 70, 3) := by decide +kernel
theorem dX4_translatedEquity_9 : decode cX4_translatedEquity 9 = .ok (.ifCond .eq 21, 3) := by decide +kernel
theorem dX4_translatedEquity_12 : decode cX4_translatedEquity 12 = .ok (.aload_n 0, 1) := by decide +kernel
theorem dX4_translatedEquity_13 : decode cX4_translatedEquity 13 = .ok (.getfield 28, 3) := by decide +kernel
theorem dX4_translatedEquity_16 : decode cX4_translatedEquity 16 = .ok (.iload_n 1, 1) := by decide +kernel
theorem dX4_translatedEquity_17 : decode cX4_translatedEquity 17 = .ok (.iaload, 1) := by decide +kernel
theorem dX4_translatedEquity_18 : decode cX4_translatedEquity 18 = .ok (.aload_n 0, 1) := by decide +kernel
theorem dX4_translatedEquity_19 : decode cX4_translatedEquity 19 = .ok (.getfield 40, 3) := by decide +kernel
theorem dX4_translatedEquity_22 : decode cX4_translatedEquity 22 = .ok (.iload_n 1, 1) := by decide +kernel
theorem dX4_translatedEquity_23 : decode cX4_translatedEquity 23 = .ok (.iaload, 1) := by decide +kernel
theorem dX4_translatedEquity_24 : decode cX4_translatedEquity 24 = .ok (.invokestatic 119, 3) := by decide +kernel
theorem dX4_translatedEquity_27 : decode cX4_translatedEquity 27 = .ok (.goto 8, 3) := by decide +kernel
theorem dX4_translatedEquity_30 : decode cX4_translatedEquity 30 = .ok (.aload_n 0, 1) := by decide +kernel
theorem dX4_translatedEquity_31 : decode cX4_translatedEquity 31 = .ok (.iconst 1, 1) := by decide +kernel
theorem dX4_translatedEquity_32 : decode cX4_translatedEquity 32 = .ok (.invokevirtual 98, 3) := by decide +kernel
theorem dX4_translatedEquity_35 : decode cX4_translatedEquity 35 = .ok (.ireturn, 1) := by decide +kernel
set_option maxRecDepth 20000 in
theorem ggX4_translatedResult_X4_isCompany : GoodIn wsX4_translatedResult wsX4_isCompany := goodIn_r _ [7, 8, 9, 6, 10] (by decide +kernel) (by decide +kernel)
set_option maxRecDepth 20000 in
theorem gX4_translatedResult_X4_isCompany : GoodIn wsX4_translatedResult (va_wsS RX4 70 yX4_isCompany wsX4_isCompany) := goodIn_app (goodIn_of _ (by decide +kernel)) ggX4_translatedResult_X4_isCompany
set_option maxRecDepth 20000 in
theorem ggX4_translatedResult_X4_translated : GoodIn wsX4_translatedResult wsX4_translated := goodIn_r _ [13, 14, 15, 16, 6, 17] (by decide +kernel) (by decide +kernel)
set_option maxRecDepth 20000 in
theorem gX4_translatedResult_X4_translated : GoodIn wsX4_translatedResult (va_wsS RX4 119 yX4_translated wsX4_translated) := goodIn_app (goodIn_of _ (by decide +kernel)) ggX4_translatedResult_X4_translated
set_option maxRecDepth 20000 in
theorem ggX4_translatedResult_X4_fails : GoodIn wsX4_translatedResult wsX4_fails := goodIn_r _ [21, 1, 22, 23, 24, 25, 26, 27, 28, 29, 30, 31, 32, 33, 34, 35, 36, 37, 38, 39, 40] (by decide +kernel) (by decide +kernel)
set_option maxRecDepth 20000 in
theorem gX4_translatedResult_X4_fails : GoodIn wsX4_translatedResult (wsV RX4 98 RX4 yX4_fails wsX4_fails) := goodIn_app (goodIn_of _ (by decide +kernel)) ggX4_translatedResult_X4_fails
theorem dX4_translatedResult_0 : decode cX4_translatedResult 0 = .ok (.aload_n 0, 1) := by decide +kernel
theorem dX4_translatedResult_1 : decode cX4_translatedResult 1 = .ok (.iconst 0, 1) := by decide +kernel
theorem dX4_translatedResult_2 : decode cX4_translatedResult 2 = .ok (.putfield 62, 3) := by decide +kernel
theorem dX4_translatedResult_5 : decode cX4_translatedResult 5 = .ok (.iload_n 1, 1) := by decide +kernel
theorem dX4_translatedResult_6 : decode cX4_translatedResult 6 = .ok (.invokestatic 70, 3) := by decide +kernel
theorem dX4_translatedResult_9 : decode cX4_translatedResult 9 = .ok (.ifCond .eq 21, 3) := by decide +kernel
theorem dX4_translatedResult_12 : decode cX4_translatedResult 12 = .ok (.aload_n 0, 1) := by decide +kernel
theorem dX4_translatedResult_13 : decode cX4_translatedResult 13 = .ok (.getfield 31, 3) := by decide +kernel
theorem dX4_translatedResult_16 : decode cX4_translatedResult 16 = .ok (.iload_n 1, 1) := by decide +kernel
theorem dX4_translatedResult_17 : decode cX4_translatedResult 17 = .ok (.iaload, 1) := by decide +kernel
theorem dX4_translatedResult_18 : decode cX4_translatedResult 18 = .ok (.aload_n 0, 1) := by decide +kernel
theorem dX4_translatedResult_19 : decode cX4_translatedResult 19 = .ok (.getfield 37, 3) := by decide +kernel
theorem dX4_translatedResult_22 : decode cX4_translatedResult 22 = .ok (.iload_n 1, 1) := by decide +kernel
theorem dX4_translatedResult_23 : decode cX4_translatedResult 23 = .ok (.iaload, 1) := by decide +kernel
theorem dX4_translatedResult_24 : decode cX4_translatedResult 24 = .ok (.invokestatic 119, 3) := by decide +kernel
theorem dX4_translatedResult_27 : decode cX4_translatedResult 27 = .ok (.goto 8, 3) := by decide +kernel
theorem dX4_translatedResult_30 : decode cX4_translatedResult 30 = .ok (.aload_n 0, 1) := by decide +kernel
theorem dX4_translatedResult_31 : decode cX4_translatedResult 31 = .ok (.iconst 1, 1) := by decide +kernel
theorem dX4_translatedResult_32 : decode cX4_translatedResult 32 = .ok (.invokevirtual 98, 3) := by decide +kernel
theorem dX4_translatedResult_35 : decode cX4_translatedResult 35 = .ok (.ireturn, 1) := by decide +kernel
set_option maxRecDepth 20000 in
theorem ggX4_reserve_X4_isCompany : GoodIn wsX4_reserve wsX4_isCompany := goodIn_r _ [9, 10, 11, 8, 12] (by decide +kernel) (by decide +kernel)
set_option maxRecDepth 20000 in
theorem gX4_reserve_X4_isCompany : GoodIn wsX4_reserve (va_wsS RX4 70 yX4_isCompany wsX4_isCompany) := goodIn_app (goodIn_of _ (by decide +kernel)) ggX4_reserve_X4_isCompany
set_option maxRecDepth 20000 in
theorem ggX4_reserve_X4_net : GoodIn wsX4_reserve wsX4_net := goodIn_r _ [16, 17, 18, 19, 20, 21, 8, 22, 23, 24, 25, 26, 31, 32, 33, 34, 35, 36, 37, 38, 39, 40, 41, 42, 43, 44, 45, 46, 47, 48, 49] (by decide +kernel) (by decide +kernel)
set_option maxRecDepth 20000 in
theorem gX4_reserve_X4_net : GoodIn wsX4_reserve (wsV RX4 106 RX4 yX4_net wsX4_net) := goodIn_app (goodIn_of _ (by decide +kernel)) ggX4_reserve_X4_net
set_option maxRecDepth 20000 in
theorem ggX4_reserve_X4_translated : GoodIn wsX4_reserve wsX4_translated := goodIn_r _ [22, 23, 24, 25, 8, 26] (by decide +kernel) (by decide +kernel)
set_option maxRecDepth 20000 in
theorem gX4_reserve_X4_translated : GoodIn wsX4_reserve (va_wsS RX4 119 yX4_translated wsX4_translated) := goodIn_app (goodIn_of _ (by decide +kernel)) ggX4_reserve_X4_translated
set_option maxRecDepth 20000 in
theorem ggX4_reserve_X4_fails : GoodIn wsX4_reserve wsX4_fails := goodIn_r _ [30, 1, 31, 32, 33, 34, 35, 36, 37, 38, 39, 40, 41, 42, 43, 44, 45, 46, 47, 48, 49] (by decide +kernel) (by decide +kernel)
set_option maxRecDepth 20000 in
theorem gX4_reserve_X4_fails : GoodIn wsX4_reserve (wsV RX4 98 RX4 yX4_fails wsX4_fails) := goodIn_app (goodIn_of _ (by decide +kernel)) ggX4_reserve_X4_fails
theorem dX4_reserve_0 : decode cX4_reserve 0 = .ok (.aload_n 0, 1) := by decide +kernel
theorem dX4_reserve_1 : decode cX4_reserve 1 = .ok (.iconst 0, 1) := by decide +kernel
theorem dX4_reserve_2 : decode cX4_reserve 2 = .ok (.putfield 62, 3) := by decide +kernel
theorem dX4_reserve_5 : decode cX4_reserve 5 = .ok (.iload_n 1, 1) := by decide +kernel
theorem dX4_reserve_6 : decode cX4_reserve 6 = .ok (.invokestatic 70, 3) := by decide +kernel
theorem dX4_reserve_9 : decode cX4_reserve 9 = .ok (.ifCond .eq 43, 3) := by decide +kernel
theorem dX4_reserve_12 : decode cX4_reserve 12 = .ok (.aload_n 0, 1) := by decide +kernel
theorem dX4_reserve_13 : decode cX4_reserve 13 = .ok (.iload_n 1, 1) := by decide +kernel
theorem dX4_reserve_14 : decode cX4_reserve 14 = .ok (.invokevirtual 106, 3) := by decide +kernel
theorem dX4_reserve_17 : decode cX4_reserve 17 = .ok (.aload_n 0, 1) := by decide +kernel
theorem dX4_reserve_18 : decode cX4_reserve 18 = .ok (.getfield 28, 3) := by decide +kernel
theorem dX4_reserve_21 : decode cX4_reserve 21 = .ok (.iload_n 1, 1) := by decide +kernel
theorem dX4_reserve_22 : decode cX4_reserve 22 = .ok (.iaload, 1) := by decide +kernel
theorem dX4_reserve_23 : decode cX4_reserve 23 = .ok (.aload_n 0, 1) := by decide +kernel
theorem dX4_reserve_24 : decode cX4_reserve 24 = .ok (.getfield 40, 3) := by decide +kernel
theorem dX4_reserve_27 : decode cX4_reserve 27 = .ok (.iload_n 1, 1) := by decide +kernel
theorem dX4_reserve_28 : decode cX4_reserve 28 = .ok (.iaload, 1) := by decide +kernel
theorem dX4_reserve_29 : decode cX4_reserve 29 = .ok (.invokestatic 119, 3) := by decide +kernel
theorem dX4_reserve_32 : decode cX4_reserve 32 = .ok (.isub, 1) := by decide +kernel
theorem dX4_reserve_33 : decode cX4_reserve 33 = .ok (.aload_n 0, 1) := by decide +kernel
theorem dX4_reserve_34 : decode cX4_reserve 34 = .ok (.getfield 31, 3) := by decide +kernel
theorem dX4_reserve_37 : decode cX4_reserve 37 = .ok (.iload_n 1, 1) := by decide +kernel
theorem dX4_reserve_38 : decode cX4_reserve 38 = .ok (.iaload, 1) := by decide +kernel
theorem dX4_reserve_39 : decode cX4_reserve 39 = .ok (.aload_n 0, 1) := by decide +kernel
theorem dX4_reserve_40 : decode cX4_reserve 40 = .ok (.getfield 37, 3) := by decide +kernel
theorem dX4_reserve_43 : decode cX4_reserve 43 = .ok (.iload_n 1, 1) := by decide +kernel
theorem dX4_reserve_44 : decode cX4_reserve 44 = .ok (.iaload, 1) := by decide +kernel
theorem dX4_reserve_45 : decode cX4_reserve 45 = .ok (.invokestatic 119, 3) := by decide +kernel
theorem dX4_reserve_48 : decode cX4_reserve 48 = .ok (.isub, 1) := by decide +kernel
theorem dX4_reserve_49 : decode cX4_reserve 49 = .ok (.goto 8, 3) := by decide +kernel
theorem dX4_reserve_52 : decode cX4_reserve 52 = .ok (.aload_n 0, 1) := by decide +kernel
theorem dX4_reserve_53 : decode cX4_reserve 53 = .ok (.iconst 1, 1) := by decide +kernel
theorem dX4_reserve_54 : decode cX4_reserve 54 = .ok (.invokevirtual 98, 3) := by decide +kernel
theorem dX4_reserve_57 : decode cX4_reserve 57 = .ok (.ireturn, 1) := by decide +kernel
set_option maxRecDepth 20000 in
theorem ggX4_claim_X4_isPair : GoodIn wsX4_claim wsX4_isPair := goodIn_r _ [7, 8, 9, 6, 10, 11, 12, 13] (by decide +kernel) (by decide +kernel)
set_option maxRecDepth 20000 in
theorem gX4_claim_X4_isPair : GoodIn wsX4_claim (va_wsS RX4 94 yX4_isPair wsX4_isPair) := goodIn_app (goodIn_of _ (by decide +kernel)) ggX4_claim_X4_isPair
set_option maxRecDepth 20000 in
theorem ggX4_claim_X4_in : GoodIn wsX4_claim wsX4_in := goodIn_r _ [13] (by decide +kernel) (by decide +kernel)
set_option maxRecDepth 20000 in
theorem gX4_claim_X4_in : GoodIn wsX4_claim (va_wsS RX4 66 yX4_in wsX4_in) := goodIn_app (goodIn_of _ (by decide +kernel)) ggX4_claim_X4_in
set_option maxRecDepth 20000 in
theorem ggX4_claim_X4_fails : GoodIn wsX4_claim wsX4_fails := goodIn_r _ [17, 1, 18, 19, 20, 21, 22, 23, 24, 25, 26, 27, 28, 29, 30, 31, 32, 33, 34, 35, 36] (by decide +kernel) (by decide +kernel)
set_option maxRecDepth 20000 in
theorem gX4_claim_X4_fails : GoodIn wsX4_claim (wsV RX4 98 RX4 yX4_fails wsX4_fails) := goodIn_app (goodIn_of _ (by decide +kernel)) ggX4_claim_X4_fails
theorem dX4_claim_0 : decode cX4_claim 0 = .ok (.aload_n 0, 1) := by decide +kernel
theorem dX4_claim_1 : decode cX4_claim 1 = .ok (.iconst 0, 1) := by decide +kernel
theorem dX4_claim_2 : decode cX4_claim 2 = .ok (.putfield 62, 3) := by decide +kernel
theorem dX4_claim_5 : decode cX4_claim 5 = .ok (.iload_n 1, 1) := by decide +kernel
theorem dX4_claim_6 : decode cX4_claim 6 = .ok (.iload_n 2, 1) := by decide +kernel
theorem dX4_claim_7 : decode cX4_claim 7 = .ok (.invokestatic 94, 3) := by decide +kernel
theorem dX4_claim_10 : decode cX4_claim 10 = .ok (.ifCond .eq 13, 3) := by decide +kernel
theorem dX4_claim_13 : decode cX4_claim 13 = .ok (.iload_n 3, 1) := by decide +kernel
theorem dX4_claim_14 : decode cX4_claim 14 = .ok (.iconst 0, 1) := by decide +kernel
theorem dX4_claim_15 : decode cX4_claim 15 = .ok (.ldc 105, 2) := by decide +kernel
theorem dX4_claim_17 : decode cX4_claim 17 = .ok (.invokestatic 66, 3) := by decide +kernel
theorem dX4_claim_20 : decode cX4_claim 20 = .ok (.ifCond .ne 9, 3) := by decide +kernel
theorem dX4_claim_23 : decode cX4_claim 23 = .ok (.aload_n 0, 1) := by decide +kernel
theorem dX4_claim_24 : decode cX4_claim 24 = .ok (.iconst 1, 1) := by decide +kernel
theorem dX4_claim_25 : decode cX4_claim 25 = .ok (.invokevirtual 98, 3) := by decide +kernel
theorem dX4_claim_28 : decode cX4_claim 28 = .ok (.ireturn, 1) := by decide +kernel
theorem dX4_claim_29 : decode cX4_claim 29 = .ok (.aload_n 0, 1) := by decide +kernel
theorem dX4_claim_30 : decode cX4_claim 30 = .ok (.getfield 13, 3) := by decide +kernel
theorem dX4_claim_33 : decode cX4_claim 33 = .ok (.bipush 6, 2) := by decide +kernel
theorem dX4_claim_35 : decode cX4_claim 35 = .ok (.iload_n 1, 1) := by decide +kernel
theorem dX4_claim_36 : decode cX4_claim 36 = .ok (.imul, 1) := by decide +kernel
theorem dX4_claim_37 : decode cX4_claim 37 = .ok (.iload_n 2, 1) := by decide +kernel
theorem dX4_claim_38 : decode cX4_claim 38 = .ok (.iadd, 1) := by decide +kernel
theorem dX4_claim_39 : decode cX4_claim 39 = .ok (.iaload, 1) := by decide +kernel
theorem dX4_claim_40 : decode cX4_claim 40 = .ok (.istore 4, 2) := by decide +kernel
theorem dX4_claim_42 : decode cX4_claim 42 = .ok (.aload_n 0, 1) := by decide +kernel
theorem dX4_claim_43 : decode cX4_claim 43 = .ok (.getfield 13, 3) := by decide +kernel
theorem dX4_claim_46 : decode cX4_claim 46 = .ok (.bipush 6, 2) := by decide +kernel
theorem dX4_claim_48 : decode cX4_claim 48 = .ok (.iload_n 1, 1) := by decide +kernel
theorem dX4_claim_49 : decode cX4_claim 49 = .ok (.imul, 1) := by decide +kernel
theorem dX4_claim_50 : decode cX4_claim 50 = .ok (.iload_n 2, 1) := by decide +kernel
theorem dX4_claim_51 : decode cX4_claim 51 = .ok (.iadd, 1) := by decide +kernel
theorem dX4_claim_52 : decode cX4_claim 52 = .ok (.iload_n 3, 1) := by decide +kernel
theorem dX4_claim_53 : decode cX4_claim 53 = .ok (.iastore, 1) := by decide +kernel
theorem dX4_claim_54 : decode cX4_claim 54 = .ok (.iload 4, 2) := by decide +kernel
theorem dX4_claim_56 : decode cX4_claim 56 = .ok (.ireturn, 1) := by decide +kernel
set_option maxRecDepth 20000 in
theorem ggX4_admit_X4_isPair : GoodIn wsX4_admit wsX4_isPair := goodIn_r _ [7, 8, 9, 6, 10, 11, 12, 13] (by decide +kernel) (by decide +kernel)
set_option maxRecDepth 20000 in
theorem gX4_admit_X4_isPair : GoodIn wsX4_admit (va_wsS RX4 94 yX4_isPair wsX4_isPair) := goodIn_app (goodIn_of _ (by decide +kernel)) ggX4_admit_X4_isPair
set_option maxRecDepth 20000 in
theorem ggX4_admit_X4_in : GoodIn wsX4_admit wsX4_in := goodIn_r _ [13] (by decide +kernel) (by decide +kernel)
set_option maxRecDepth 20000 in
theorem gX4_admit_X4_in : GoodIn wsX4_admit (va_wsS RX4 66 yX4_in wsX4_in) := goodIn_app (goodIn_of _ (by decide +kernel)) ggX4_admit_X4_in
set_option maxRecDepth 20000 in
theorem ggX4_admit_X4_fails : GoodIn wsX4_admit wsX4_fails := goodIn_r _ [17, 1, 18, 19, 20, 21, 22, 23, 24, 25, 26, 27, 28, 29, 30, 31, 32, 33, 34, 35, 36] (by decide +kernel) (by decide +kernel)
set_option maxRecDepth 20000 in
theorem gX4_admit_X4_fails : GoodIn wsX4_admit (wsV RX4 98 RX4 yX4_fails wsX4_fails) := goodIn_app (goodIn_of _ (by decide +kernel)) ggX4_admit_X4_fails
theorem dX4_admit_0 : decode cX4_admit 0 = .ok (.aload_n 0, 1) := by decide +kernel
theorem dX4_admit_1 : decode cX4_admit 1 = .ok (.iconst 0, 1) := by decide +kernel
theorem dX4_admit_2 : decode cX4_admit 2 = .ok (.putfield 62, 3) := by decide +kernel
theorem dX4_admit_5 : decode cX4_admit 5 = .ok (.iload_n 2, 1) := by decide +kernel
theorem dX4_admit_6 : decode cX4_admit 6 = .ok (.iload_n 1, 1) := by decide +kernel
theorem dX4_admit_7 : decode cX4_admit 7 = .ok (.invokestatic 94, 3) := by decide +kernel
theorem dX4_admit_10 : decode cX4_admit 10 = .ok (.ifCond .eq 13, 3) := by decide +kernel
theorem dX4_admit_13 : decode cX4_admit 13 = .ok (.iload_n 3, 1) := by decide +kernel
theorem dX4_admit_14 : decode cX4_admit 14 = .ok (.iconst 0, 1) := by decide +kernel
theorem dX4_admit_15 : decode cX4_admit 15 = .ok (.ldc 105, 2) := by decide +kernel
theorem dX4_admit_17 : decode cX4_admit 17 = .ok (.invokestatic 66, 3) := by decide +kernel
theorem dX4_admit_20 : decode cX4_admit 20 = .ok (.ifCond .ne 9, 3) := by decide +kernel
theorem dX4_admit_23 : decode cX4_admit 23 = .ok (.aload_n 0, 1) := by decide +kernel
theorem dX4_admit_24 : decode cX4_admit 24 = .ok (.iconst 1, 1) := by decide +kernel
theorem dX4_admit_25 : decode cX4_admit 25 = .ok (.invokevirtual 98, 3) := by decide +kernel
theorem dX4_admit_28 : decode cX4_admit 28 = .ok (.ireturn, 1) := by decide +kernel
theorem dX4_admit_29 : decode cX4_admit 29 = .ok (.aload_n 0, 1) := by decide +kernel
theorem dX4_admit_30 : decode cX4_admit 30 = .ok (.getfield 16, 3) := by decide +kernel
theorem dX4_admit_33 : decode cX4_admit 33 = .ok (.bipush 6, 2) := by decide +kernel
theorem dX4_admit_35 : decode cX4_admit 35 = .ok (.iload_n 1, 1) := by decide +kernel
theorem dX4_admit_36 : decode cX4_admit 36 = .ok (.imul, 1) := by decide +kernel
theorem dX4_admit_37 : decode cX4_admit 37 = .ok (.iload_n 2, 1) := by decide +kernel
theorem dX4_admit_38 : decode cX4_admit 38 = .ok (.iadd, 1) := by decide +kernel
theorem dX4_admit_39 : decode cX4_admit 39 = .ok (.iaload, 1) := by decide +kernel
theorem dX4_admit_40 : decode cX4_admit 40 = .ok (.istore 4, 2) := by decide +kernel
theorem dX4_admit_42 : decode cX4_admit 42 = .ok (.aload_n 0, 1) := by decide +kernel
theorem dX4_admit_43 : decode cX4_admit 43 = .ok (.getfield 16, 3) := by decide +kernel
theorem dX4_admit_46 : decode cX4_admit 46 = .ok (.bipush 6, 2) := by decide +kernel
theorem dX4_admit_48 : decode cX4_admit 48 = .ok (.iload_n 1, 1) := by decide +kernel
theorem dX4_admit_49 : decode cX4_admit 49 = .ok (.imul, 1) := by decide +kernel
theorem dX4_admit_50 : decode cX4_admit 50 = .ok (.iload_n 2, 1) := by decide +kernel
theorem dX4_admit_51 : decode cX4_admit 51 = .ok (.iadd, 1) := by decide +kernel
theorem dX4_admit_52 : decode cX4_admit 52 = .ok (.iload_n 3, 1) := by decide +kernel
theorem dX4_admit_53 : decode cX4_admit 53 = .ok (.iastore, 1) := by decide +kernel
theorem dX4_admit_54 : decode cX4_admit 54 = .ok (.iload 4, 2) := by decide +kernel
theorem dX4_admit_56 : decode cX4_admit 56 = .ok (.ireturn, 1) := by decide +kernel
set_option maxRecDepth 20000 in
theorem ggX4_difference_X4_isPair : GoodIn wsX4_difference wsX4_isPair := goodIn_r _ [7, 8, 9, 6, 10, 11, 12, 13] (by decide +kernel) (by decide +kernel)
set_option maxRecDepth 20000 in
theorem gX4_difference_X4_isPair : GoodIn wsX4_difference (va_wsS RX4 94 yX4_isPair wsX4_isPair) := goodIn_app (goodIn_of _ (by decide +kernel)) ggX4_difference_X4_isPair
set_option maxRecDepth 20000 in
theorem ggX4_difference_X4_fails : GoodIn wsX4_difference wsX4_fails := goodIn_r _ [17, 1, 18, 19, 20, 21, 22, 23, 24, 25, 26, 27, 28, 29, 30, 31, 32, 33, 34, 35, 36] (by decide +kernel) (by decide +kernel)
set_option maxRecDepth 20000 in
theorem gX4_difference_X4_fails : GoodIn wsX4_difference (wsV RX4 98 RX4 yX4_fails wsX4_fails) := goodIn_app (goodIn_of _ (by decide +kernel)) ggX4_difference_X4_fails
theorem dX4_difference_0 : decode cX4_difference 0 = .ok (.aload_n 0, 1) := by decide +kernel
theorem dX4_difference_1 : decode cX4_difference 1 = .ok (.iconst 0, 1) := by decide +kernel
theorem dX4_difference_2 : decode cX4_difference 2 = .ok (.putfield 62, 3) := by decide +kernel
theorem dX4_difference_5 : decode cX4_difference 5 = .ok (.iload_n 1, 1) := by decide +kernel
theorem dX4_difference_6 : decode cX4_difference 6 = .ok (.iload_n 2, 1) := by decide +kernel
theorem dX4_difference_7 : decode cX4_difference 7 = .ok (.invokestatic 94, 3) := by decide +kernel
theorem dX4_difference_10 : decode cX4_difference 10 = .ok (.ifCond .eq 29, 3) := by decide +kernel
theorem dX4_difference_13 : decode cX4_difference 13 = .ok (.aload_n 0, 1) := by decide +kernel
theorem dX4_difference_14 : decode cX4_difference 14 = .ok (.getfield 13, 3) := by decide +kernel
theorem dX4_difference_17 : decode cX4_difference 17 = .ok (.bipush 6, 2) := by decide +kernel
theorem dX4_difference_19 : decode cX4_difference 19 = .ok (.iload_n 1, 1) := by decide +kernel
theorem dX4_difference_20 : decode cX4_difference 20 = .ok (.imul, 1) := by decide +kernel
theorem dX4_difference_21 : decode cX4_difference 21 = .ok (.iload_n 2, 1) := by decide +kernel
theorem dX4_difference_22 : decode cX4_difference 22 = .ok (.iadd, 1) := by decide +kernel
theorem dX4_difference_23 : decode cX4_difference 23 = .ok (.iaload, 1) := by decide +kernel
theorem dX4_difference_24 : decode cX4_difference 24 = .ok (.aload_n 0, 1) := by decide +kernel
theorem dX4_difference_25 : decode cX4_difference 25 = .ok (.getfield 16, 3) := by decide +kernel
theorem dX4_difference_28 : decode cX4_difference 28 = .ok (.bipush 6, 2) := by decide +kernel
theorem dX4_difference_30 : decode cX4_difference 30 = .ok (.iload_n 2, 1) := by decide +kernel
theorem dX4_difference_31 : decode cX4_difference 31 = .ok (.imul, 1) := by decide +kernel
theorem dX4_difference_32 : decode cX4_difference 32 = .ok (.iload_n 1, 1) := by decide +kernel
theorem dX4_difference_33 : decode cX4_difference 33 = .ok (.iadd, 1) := by decide +kernel
theorem dX4_difference_34 : decode cX4_difference 34 = .ok (.iaload, 1) := by decide +kernel
theorem dX4_difference_35 : decode cX4_difference 35 = .ok (.isub, 1) := by decide +kernel
theorem dX4_difference_36 : decode cX4_difference 36 = .ok (.goto 8, 3) := by decide +kernel
theorem dX4_difference_39 : decode cX4_difference 39 = .ok (.aload_n 0, 1) := by decide +kernel
theorem dX4_difference_40 : decode cX4_difference 40 = .ok (.iconst 1, 1) := by decide +kernel
theorem dX4_difference_41 : decode cX4_difference 41 = .ok (.invokevirtual 98, 3) := by decide +kernel
theorem dX4_difference_44 : decode cX4_difference 44 = .ok (.ireturn, 1) := by decide +kernel
set_option maxRecDepth 20000 in
theorem ggX4_eliminatedNow_X4_groupSet : GoodIn wsX4_eliminatedNow wsX4_groupSet := goodIn_r _ [7, 8, 9, 10, 11, 12, 13, 14, 15, 16, 17, 18, 19, 20, 21, 22, 23, 24, 25, 26, 27] (by decide +kernel) (by decide +kernel)
set_option maxRecDepth 20000 in
theorem gX4_eliminatedNow_X4_groupSet : GoodIn wsX4_eliminatedNow (wsV RX4 114 RX4 yX4_groupSet wsX4_groupSet) := goodIn_app (goodIn_of _ (by decide +kernel)) ggX4_eliminatedNow_X4_groupSet
theorem dX4_eliminatedNow_0 : decode cX4_eliminatedNow 0 = .ok (.aload_n 0, 1) := by decide +kernel
theorem dX4_eliminatedNow_1 : decode cX4_eliminatedNow 1 = .ok (.invokevirtual 114, 3) := by decide +kernel
theorem dX4_eliminatedNow_4 : decode cX4_eliminatedNow 4 = .ok (.istore_n 1, 1) := by decide +kernel
theorem dX4_eliminatedNow_5 : decode cX4_eliminatedNow 5 = .ok (.iconst 0, 1) := by decide +kernel
theorem dX4_eliminatedNow_6 : decode cX4_eliminatedNow 6 = .ok (.istore_n 2, 1) := by decide +kernel
theorem dX4_eliminatedNow_7 : decode cX4_eliminatedNow 7 = .ok (.iconst 0, 1) := by decide +kernel
theorem dX4_eliminatedNow_8 : decode cX4_eliminatedNow 8 = .ok (.istore_n 3, 1) := by decide +kernel
theorem dX4_eliminatedNow_9 : decode cX4_eliminatedNow 9 = .ok (.iload_n 3, 1) := by decide +kernel
theorem dX4_eliminatedNow_10 : decode cX4_eliminatedNow 10 = .ok (.bipush 36, 2) := by decide +kernel
theorem dX4_eliminatedNow_12 : decode cX4_eliminatedNow 12 = .ok (.if_icmp .ge 93, 3) := by decide +kernel
theorem dX4_eliminatedNow_15 : decode cX4_eliminatedNow 15 = .ok (.aload_n 0, 1) := by decide +kernel
theorem dX4_eliminatedNow_16 : decode cX4_eliminatedNow 16 = .ok (.getfield 16, 3) := by decide +kernel
theorem dX4_eliminatedNow_19 : decode cX4_eliminatedNow 19 = .ok (.bipush 6, 2) := by decide +kernel
theorem dX4_eliminatedNow_21 : decode cX4_eliminatedNow 21 = .ok (.iload_n 3, 1) := by decide +kernel
theorem dX4_eliminatedNow_22 : decode cX4_eliminatedNow 22 = .ok (.bipush 6, 2) := by decide +kernel
theorem dX4_eliminatedNow_24 : decode cX4_eliminatedNow 24 = .ok (.irem, 1) := by decide +kernel
theorem dX4_eliminatedNow_25 : decode cX4_eliminatedNow 25 = .ok (.imul, 1) := by decide +kernel
theorem dX4_eliminatedNow_26 : decode cX4_eliminatedNow 26 = .ok (.iload_n 3, 1) := by decide +kernel
theorem dX4_eliminatedNow_27 : decode cX4_eliminatedNow 27 = .ok (.bipush 6, 2) := by decide +kernel
theorem dX4_eliminatedNow_29 : decode cX4_eliminatedNow 29 = .ok (.idiv, 1) := by decide +kernel
theorem dX4_eliminatedNow_30 : decode cX4_eliminatedNow 30 = .ok (.iadd, 1) := by decide +kernel
theorem dX4_eliminatedNow_31 : decode cX4_eliminatedNow 31 = .ok (.iaload, 1) := by decide +kernel
theorem dX4_eliminatedNow_32 : decode cX4_eliminatedNow 32 = .ok (.istore 4, 2) := by decide +kernel
theorem dX4_eliminatedNow_34 : decode cX4_eliminatedNow 34 = .ok (.iload_n 1, 1) := by decide +kernel
theorem dX4_eliminatedNow_35 : decode cX4_eliminatedNow 35 = .ok (.iload_n 3, 1) := by decide +kernel
theorem dX4_eliminatedNow_36 : decode cX4_eliminatedNow 36 = .ok (.bipush 6, 2) := by decide +kernel
theorem dX4_eliminatedNow_38 : decode cX4_eliminatedNow 38 = .ok (.idiv, 1) := by decide +kernel
theorem dX4_eliminatedNow_39 : decode cX4_eliminatedNow 39 = .ok (.ishr, 1) := by decide +kernel
theorem dX4_eliminatedNow_40 : decode cX4_eliminatedNow 40 = .ok (.iconst 1, 1) := by decide +kernel
theorem dX4_eliminatedNow_41 : decode cX4_eliminatedNow 41 = .ok (.iand, 1) := by decide +kernel
theorem dX4_eliminatedNow_42 : decode cX4_eliminatedNow 42 = .ok (.iconst 1, 1) := by decide +kernel
theorem dX4_eliminatedNow_43 : decode cX4_eliminatedNow 43 = .ok (.if_icmp .ne 19, 3) := by decide +kernel
theorem dX4_eliminatedNow_46 : decode cX4_eliminatedNow 46 = .ok (.iload_n 1, 1) := by decide +kernel
theorem dX4_eliminatedNow_47 : decode cX4_eliminatedNow 47 = .ok (.iload_n 3, 1) := by decide +kernel
theorem dX4_eliminatedNow_48 : decode cX4_eliminatedNow 48 = .ok (.bipush 6, 2) := by decide +kernel
theorem dX4_eliminatedNow_50 : decode cX4_eliminatedNow 50 = .ok (.irem, 1) := by decide +kernel
theorem dX4_eliminatedNow_51 : decode cX4_eliminatedNow 51 = .ok (.ishr, 1) := by decide +kernel
theorem dX4_eliminatedNow_52 : decode cX4_eliminatedNow 52 = .ok (.iconst 1, 1) := by decide +kernel
theorem dX4_eliminatedNow_53 : decode cX4_eliminatedNow 53 = .ok (.iand, 1) := by decide +kernel
theorem dX4_eliminatedNow_54 : decode cX4_eliminatedNow 54 = .ok (.iconst 1, 1) := by decide +kernel
theorem dX4_eliminatedNow_55 : decode cX4_eliminatedNow 55 = .ok (.if_icmp .ne 7, 3) := by decide +kernel
theorem dX4_eliminatedNow_58 : decode cX4_eliminatedNow 58 = .ok (.iconst 1, 1) := by decide +kernel
theorem dX4_eliminatedNow_59 : decode cX4_eliminatedNow 59 = .ok (.goto 4, 3) := by decide +kernel
theorem dX4_eliminatedNow_62 : decode cX4_eliminatedNow 62 = .ok (.iconst 0, 1) := by decide +kernel
theorem dX4_eliminatedNow_63 : decode cX4_eliminatedNow 63 = .ok (.istore 5, 2) := by decide +kernel
theorem dX4_eliminatedNow_65 : decode cX4_eliminatedNow 65 = .ok (.iload_n 2, 1) := by decide +kernel
theorem dX4_eliminatedNow_66 : decode cX4_eliminatedNow 66 = .ok (.iload 5, 2) := by decide +kernel
theorem dX4_eliminatedNow_68 : decode cX4_eliminatedNow 68 = .ok (.ifCond .ne 7, 3) := by decide +kernel
theorem dX4_eliminatedNow_71 : decode cX4_eliminatedNow 71 = .ok (.iconst 0, 1) := by decide +kernel
theorem dX4_eliminatedNow_72 : decode cX4_eliminatedNow 72 = .ok (.goto 25, 3) := by decide +kernel
theorem dX4_eliminatedNow_75 : decode cX4_eliminatedNow 75 = .ok (.aload_n 0, 1) := by decide +kernel
theorem dX4_eliminatedNow_76 : decode cX4_eliminatedNow 76 = .ok (.getfield 13, 3) := by decide +kernel
theorem dX4_eliminatedNow_79 : decode cX4_eliminatedNow 79 = .ok (.iload_n 3, 1) := by decide +kernel
theorem dX4_eliminatedNow_80 : decode cX4_eliminatedNow 80 = .ok (.iaload, 1) := by decide +kernel
theorem dX4_eliminatedNow_81 : decode cX4_eliminatedNow 81 = .ok (.iload 4, 2) := by decide +kernel
theorem dX4_eliminatedNow_83 : decode cX4_eliminatedNow 83 = .ok (.if_icmp .ge 12, 3) := by decide +kernel
theorem dX4_eliminatedNow_86 : decode cX4_eliminatedNow 86 = .ok (.aload_n 0, 1) := by decide +kernel
theorem dX4_eliminatedNow_87 : decode cX4_eliminatedNow 87 = .ok (.getfield 13, 3) := by decide +kernel
theorem dX4_eliminatedNow_90 : decode cX4_eliminatedNow 90 = .ok (.iload_n 3, 1) := by decide +kernel
theorem dX4_eliminatedNow_91 : decode cX4_eliminatedNow 91 = .ok (.iaload, 1) := by decide +kernel
theorem dX4_eliminatedNow_92 : decode cX4_eliminatedNow 92 = .ok (.goto 5, 3) := by decide +kernel
theorem dX4_eliminatedNow_95 : decode cX4_eliminatedNow 95 = .ok (.iload 4, 2) := by decide +kernel
theorem dX4_eliminatedNow_97 : decode cX4_eliminatedNow 97 = .ok (.iadd, 1) := by decide +kernel
theorem dX4_eliminatedNow_98 : decode cX4_eliminatedNow 98 = .ok (.istore_n 2, 1) := by decide +kernel
theorem dX4_eliminatedNow_99 : decode cX4_eliminatedNow 99 = .ok (.iinc 3 1, 3) := by decide +kernel
theorem dX4_eliminatedNow_102 : decode cX4_eliminatedNow 102 = .ok (.goto (-93), 3) := by decide +kernel
theorem dX4_eliminatedNow_105 : decode cX4_eliminatedNow 105 = .ok (.iload_n 2, 1) := by decide +kernel
theorem dX4_eliminatedNow_106 : decode cX4_eliminatedNow 106 = .ok (.ireturn, 1) := by decide +kernel
set_option maxRecDepth 20000 in
theorem ggX4_eliminated_X4_eliminatedNow : GoodIn wsX4_eliminated wsX4_eliminatedNow := goodIn_r _ [6, 7, 8, 9, 10, 11, 5, 12, 13, 14, 15, 16, 17, 18, 19, 20, 21, 22, 23, 24, 25, 26, 27, 28, 29, 30, 31, 32] (by decide +kernel) (by decide +kernel)
set_option maxRecDepth 20000 in
theorem gX4_eliminated_X4_eliminatedNow : GoodIn wsX4_eliminated (wsV RX4 123 RX4 yX4_eliminatedNow wsX4_eliminatedNow) := goodIn_app (goodIn_of _ (by decide +kernel)) ggX4_eliminated_X4_eliminatedNow
theorem dX4_eliminated_0 : decode cX4_eliminated 0 = .ok (.aload_n 0, 1) := by decide +kernel
theorem dX4_eliminated_1 : decode cX4_eliminated 1 = .ok (.iconst 0, 1) := by decide +kernel
theorem dX4_eliminated_2 : decode cX4_eliminated 2 = .ok (.putfield 62, 3) := by decide +kernel
theorem dX4_eliminated_5 : decode cX4_eliminated 5 = .ok (.aload_n 0, 1) := by decide +kernel
theorem dX4_eliminated_6 : decode cX4_eliminated 6 = .ok (.invokevirtual 123, 3) := by decide +kernel
theorem dX4_eliminated_9 : decode cX4_eliminated 9 = .ok (.ireturn, 1) := by decide +kernel
set_option maxRecDepth 20000 in
theorem ggX4_assetsNow_X4_groupSet : GoodIn wsX4_assetsNow wsX4_groupSet := goodIn_r _ [7, 8, 22, 23, 24, 25, 26, 27, 28, 29, 30, 31, 32, 33, 34, 35, 36, 37, 38, 39, 40] (by decide +kernel) (by decide +kernel)
set_option maxRecDepth 20000 in
theorem gX4_assetsNow_X4_groupSet : GoodIn wsX4_assetsNow (wsV RX4 114 RX4 yX4_groupSet wsX4_groupSet) := goodIn_app (goodIn_of _ (by decide +kernel)) ggX4_assetsNow_X4_groupSet
set_option maxRecDepth 20000 in
theorem ggX4_assetsNow_X4_translated : GoodIn wsX4_assetsNow wsX4_translated := goodIn_r _ [11, 12, 13, 14, 6, 15] (by decide +kernel) (by decide +kernel)
set_option maxRecDepth 20000 in
theorem gX4_assetsNow_X4_translated : GoodIn wsX4_assetsNow (va_wsS RX4 119 yX4_translated wsX4_translated) := goodIn_app (goodIn_of _ (by decide +kernel)) ggX4_assetsNow_X4_translated
set_option maxRecDepth 20000 in
theorem ggX4_assetsNow_X4_eliminatedNow : GoodIn wsX4_assetsNow wsX4_eliminatedNow := goodIn_r _ [19, 20, 21, 3, 4, 5, 6, 7, 8, 22, 23, 24, 25, 26, 27, 28, 29, 30, 31, 32, 33, 34, 35, 36, 37, 38, 39, 40] (by decide +kernel) (by decide +kernel)
set_option maxRecDepth 20000 in
theorem gX4_assetsNow_X4_eliminatedNow : GoodIn wsX4_assetsNow (wsV RX4 123 RX4 yX4_eliminatedNow wsX4_eliminatedNow) := goodIn_app (goodIn_of _ (by decide +kernel)) ggX4_assetsNow_X4_eliminatedNow
theorem dX4_assetsNow_0 : decode cX4_assetsNow 0 = .ok (.aload_n 0, 1) := by decide +kernel
theorem dX4_assetsNow_1 : decode cX4_assetsNow 1 = .ok (.invokevirtual 114, 3) := by decide +kernel
theorem dX4_assetsNow_4 : decode cX4_assetsNow 4 = .ok (.istore_n 1, 1) := by decide +kernel
theorem dX4_assetsNow_5 : decode cX4_assetsNow 5 = .ok (.iconst 0, 1) := by decide +kernel
theorem dX4_assetsNow_6 : decode cX4_assetsNow 6 = .ok (.istore_n 2, 1) := by decide +kernel
theorem dX4_assetsNow_7 : decode cX4_assetsNow 7 = .ok (.iconst 0, 1) := by decide +kernel
theorem dX4_assetsNow_8 : decode cX4_assetsNow 8 = .ok (.istore_n 3, 1) := by decide +kernel
theorem dX4_assetsNow_9 : decode cX4_assetsNow 9 = .ok (.iload_n 3, 1) := by decide +kernel
theorem dX4_assetsNow_10 : decode cX4_assetsNow 10 = .ok (.bipush 6, 2) := by decide +kernel
theorem dX4_assetsNow_12 : decode cX4_assetsNow 12 = .ok (.if_icmp .ge 33, 3) := by decide +kernel
theorem dX4_assetsNow_15 : decode cX4_assetsNow 15 = .ok (.iload_n 2, 1) := by decide +kernel
theorem dX4_assetsNow_16 : decode cX4_assetsNow 16 = .ok (.iload_n 1, 1) := by decide +kernel
theorem dX4_assetsNow_17 : decode cX4_assetsNow 17 = .ok (.iload_n 3, 1) := by decide +kernel
theorem dX4_assetsNow_18 : decode cX4_assetsNow 18 = .ok (.ishr, 1) := by decide +kernel
theorem dX4_assetsNow_19 : decode cX4_assetsNow 19 = .ok (.iconst 1, 1) := by decide +kernel
theorem dX4_assetsNow_20 : decode cX4_assetsNow 20 = .ok (.iand, 1) := by decide +kernel
theorem dX4_assetsNow_21 : decode cX4_assetsNow 21 = .ok (.aload_n 0, 1) := by decide +kernel
theorem dX4_assetsNow_22 : decode cX4_assetsNow 22 = .ok (.getfield 22, 3) := by decide +kernel
theorem dX4_assetsNow_25 : decode cX4_assetsNow 25 = .ok (.iload_n 3, 1) := by decide +kernel
theorem dX4_assetsNow_26 : decode cX4_assetsNow 26 = .ok (.iaload, 1) := by decide +kernel
theorem dX4_assetsNow_27 : decode cX4_assetsNow 27 = .ok (.aload_n 0, 1) := by decide +kernel
theorem dX4_assetsNow_28 : decode cX4_assetsNow 28 = .ok (.getfield 34, 3) := by decide +kernel
theorem dX4_assetsNow_31 : decode cX4_assetsNow 31 = .ok (.iload_n 3, 1) := by decide +kernel
theorem dX4_assetsNow_32 : decode cX4_assetsNow 32 = .ok (.iaload, 1) := by decide +kernel
theorem dX4_assetsNow_33 : decode cX4_assetsNow 33 = .ok (.invokestatic 119, 3) := by decide +kernel
theorem dX4_assetsNow_36 : decode cX4_assetsNow 36 = .ok (.imul, 1) := by decide +kernel
theorem dX4_assetsNow_37 : decode cX4_assetsNow 37 = .ok (.iadd, 1) := by decide +kernel
theorem dX4_assetsNow_38 : decode cX4_assetsNow 38 = .ok (.istore_n 2, 1) := by decide +kernel
theorem dX4_assetsNow_39 : decode cX4_assetsNow 39 = .ok (.iinc 3 1, 3) := by decide +kernel
theorem dX4_assetsNow_42 : decode cX4_assetsNow 42 = .ok (.goto (-33), 3) := by decide +kernel
theorem dX4_assetsNow_45 : decode cX4_assetsNow 45 = .ok (.iload_n 2, 1) := by decide +kernel
theorem dX4_assetsNow_46 : decode cX4_assetsNow 46 = .ok (.aload_n 0, 1) := by decide +kernel
theorem dX4_assetsNow_47 : decode cX4_assetsNow 47 = .ok (.invokevirtual 123, 3) := by decide +kernel
theorem dX4_assetsNow_50 : decode cX4_assetsNow 50 = .ok (.isub, 1) := by decide +kernel
theorem dX4_assetsNow_51 : decode cX4_assetsNow 51 = .ok (.ireturn, 1) := by decide +kernel
set_option maxRecDepth 20000 in
theorem ggX4_debtsNow_X4_groupSet : GoodIn wsX4_debtsNow wsX4_groupSet := goodIn_r _ [7, 8, 22, 23, 24, 25, 26, 27, 28, 29, 30, 31, 32, 33, 34, 35, 36, 37, 38, 39, 40] (by decide +kernel) (by decide +kernel)
set_option maxRecDepth 20000 in
theorem gX4_debtsNow_X4_groupSet : GoodIn wsX4_debtsNow (wsV RX4 114 RX4 yX4_groupSet wsX4_groupSet) := goodIn_app (goodIn_of _ (by decide +kernel)) ggX4_debtsNow_X4_groupSet
set_option maxRecDepth 20000 in
theorem ggX4_debtsNow_X4_translated : GoodIn wsX4_debtsNow wsX4_translated := goodIn_r _ [11, 12, 13, 14, 6, 15] (by decide +kernel) (by decide +kernel)
set_option maxRecDepth 20000 in
theorem gX4_debtsNow_X4_translated : GoodIn wsX4_debtsNow (va_wsS RX4 119 yX4_translated wsX4_translated) := goodIn_app (goodIn_of _ (by decide +kernel)) ggX4_debtsNow_X4_translated
set_option maxRecDepth 20000 in
theorem ggX4_debtsNow_X4_eliminatedNow : GoodIn wsX4_debtsNow wsX4_eliminatedNow := goodIn_r _ [19, 20, 21, 3, 4, 5, 6, 7, 8, 22, 23, 24, 25, 26, 27, 28, 29, 30, 31, 32, 33, 34, 35, 36, 37, 38, 39, 40] (by decide +kernel) (by decide +kernel)
set_option maxRecDepth 20000 in
theorem gX4_debtsNow_X4_eliminatedNow : GoodIn wsX4_debtsNow (wsV RX4 123 RX4 yX4_eliminatedNow wsX4_eliminatedNow) := goodIn_app (goodIn_of _ (by decide +kernel)) ggX4_debtsNow_X4_eliminatedNow
theorem dX4_debtsNow_0 : decode cX4_debtsNow 0 = .ok (.aload_n 0, 1) := by decide +kernel
theorem dX4_debtsNow_1 : decode cX4_debtsNow 1 = .ok (.invokevirtual 114, 3) := by decide +kernel
theorem dX4_debtsNow_4 : decode cX4_debtsNow 4 = .ok (.istore_n 1, 1) := by decide +kernel
theorem dX4_debtsNow_5 : decode cX4_debtsNow 5 = .ok (.iconst 0, 1) := by decide +kernel
theorem dX4_debtsNow_6 : decode cX4_debtsNow 6 = .ok (.istore_n 2, 1) := by decide +kernel
theorem dX4_debtsNow_7 : decode cX4_debtsNow 7 = .ok (.iconst 0, 1) := by decide +kernel
theorem dX4_debtsNow_8 : decode cX4_debtsNow 8 = .ok (.istore_n 3, 1) := by decide +kernel
theorem dX4_debtsNow_9 : decode cX4_debtsNow 9 = .ok (.iload_n 3, 1) := by decide +kernel
theorem dX4_debtsNow_10 : decode cX4_debtsNow 10 = .ok (.bipush 6, 2) := by decide +kernel
theorem dX4_debtsNow_12 : decode cX4_debtsNow 12 = .ok (.if_icmp .ge 33, 3) := by decide +kernel
theorem dX4_debtsNow_15 : decode cX4_debtsNow 15 = .ok (.iload_n 2, 1) := by decide +kernel
theorem dX4_debtsNow_16 : decode cX4_debtsNow 16 = .ok (.iload_n 1, 1) := by decide +kernel
theorem dX4_debtsNow_17 : decode cX4_debtsNow 17 = .ok (.iload_n 3, 1) := by decide +kernel
theorem dX4_debtsNow_18 : decode cX4_debtsNow 18 = .ok (.ishr, 1) := by decide +kernel
theorem dX4_debtsNow_19 : decode cX4_debtsNow 19 = .ok (.iconst 1, 1) := by decide +kernel
theorem dX4_debtsNow_20 : decode cX4_debtsNow 20 = .ok (.iand, 1) := by decide +kernel
theorem dX4_debtsNow_21 : decode cX4_debtsNow 21 = .ok (.aload_n 0, 1) := by decide +kernel
theorem dX4_debtsNow_22 : decode cX4_debtsNow 22 = .ok (.getfield 25, 3) := by decide +kernel
theorem dX4_debtsNow_25 : decode cX4_debtsNow 25 = .ok (.iload_n 3, 1) := by decide +kernel
theorem dX4_debtsNow_26 : decode cX4_debtsNow 26 = .ok (.iaload, 1) := by decide +kernel
theorem dX4_debtsNow_27 : decode cX4_debtsNow 27 = .ok (.aload_n 0, 1) := by decide +kernel
theorem dX4_debtsNow_28 : decode cX4_debtsNow 28 = .ok (.getfield 34, 3) := by decide +kernel
theorem dX4_debtsNow_31 : decode cX4_debtsNow 31 = .ok (.iload_n 3, 1) := by decide +kernel
theorem dX4_debtsNow_32 : decode cX4_debtsNow 32 = .ok (.iaload, 1) := by decide +kernel
theorem dX4_debtsNow_33 : decode cX4_debtsNow 33 = .ok (.invokestatic 119, 3) := by decide +kernel
theorem dX4_debtsNow_36 : decode cX4_debtsNow 36 = .ok (.imul, 1) := by decide +kernel
theorem dX4_debtsNow_37 : decode cX4_debtsNow 37 = .ok (.iadd, 1) := by decide +kernel
theorem dX4_debtsNow_38 : decode cX4_debtsNow 38 = .ok (.istore_n 2, 1) := by decide +kernel
theorem dX4_debtsNow_39 : decode cX4_debtsNow 39 = .ok (.iinc 3 1, 3) := by decide +kernel
theorem dX4_debtsNow_42 : decode cX4_debtsNow 42 = .ok (.goto (-33), 3) := by decide +kernel
theorem dX4_debtsNow_45 : decode cX4_debtsNow 45 = .ok (.iload_n 2, 1) := by decide +kernel
theorem dX4_debtsNow_46 : decode cX4_debtsNow 46 = .ok (.aload_n 0, 1) := by decide +kernel
theorem dX4_debtsNow_47 : decode cX4_debtsNow 47 = .ok (.invokevirtual 123, 3) := by decide +kernel
theorem dX4_debtsNow_50 : decode cX4_debtsNow 50 = .ok (.isub, 1) := by decide +kernel
theorem dX4_debtsNow_51 : decode cX4_debtsNow 51 = .ok (.ireturn, 1) := by decide +kernel
set_option maxRecDepth 20000 in
theorem ggX4_minorityNow_X4_groupSet : GoodIn wsX4_minorityNow wsX4_groupSet := goodIn_r _ [7, 8, 23, 24, 25, 26, 27, 28, 29, 30, 31, 32, 33, 34, 35, 36, 37, 38, 39, 40, 41] (by decide +kernel) (by decide +kernel)
set_option maxRecDepth 20000 in
theorem gX4_minorityNow_X4_groupSet : GoodIn wsX4_minorityNow (wsV RX4 114 RX4 yX4_groupSet wsX4_groupSet) := goodIn_app (goodIn_of _ (by decide +kernel)) ggX4_minorityNow_X4_groupSet
set_option maxRecDepth 20000 in
theorem ggX4_minorityNow_X4_net : GoodIn wsX4_minorityNow wsX4_net := goodIn_r _ [12, 13, 14, 15, 16, 17, 6, 18, 19, 20, 21, 22, 23, 24, 25, 26, 27, 28, 29, 30, 31, 32, 33, 34, 35, 36, 37, 38, 39, 40, 41] (by decide +kernel) (by decide +kernel)
set_option maxRecDepth 20000 in
theorem gX4_minorityNow_X4_net : GoodIn wsX4_minorityNow (wsV RX4 106 RX4 yX4_net wsX4_net) := goodIn_app (goodIn_of _ (by decide +kernel)) ggX4_minorityNow_X4_net
set_option maxRecDepth 20000 in
theorem ggX4_minorityNow_X4_floor : GoodIn wsX4_minorityNow wsX4_floor := goodIn_r _ [22] (by decide +kernel) (by decide +kernel)
set_option maxRecDepth 20000 in
theorem gX4_minorityNow_X4_floor : GoodIn wsX4_minorityNow (va_wsS RX4 111 yX4_floor wsX4_floor) := goodIn_app (goodIn_of _ (by decide +kernel)) ggX4_minorityNow_X4_floor
theorem dX4_minorityNow_0 : decode cX4_minorityNow 0 = .ok (.aload_n 0, 1) := by decide +kernel
theorem dX4_minorityNow_1 : decode cX4_minorityNow 1 = .ok (.invokevirtual 114, 3) := by decide +kernel
theorem dX4_minorityNow_4 : decode cX4_minorityNow 4 = .ok (.iload_n 1, 1) := by decide +kernel
theorem dX4_minorityNow_5 : decode cX4_minorityNow 5 = .ok (.ishr, 1) := by decide +kernel
theorem dX4_minorityNow_6 : decode cX4_minorityNow 6 = .ok (.iconst 1, 1) := by decide +kernel
theorem dX4_minorityNow_7 : decode cX4_minorityNow 7 = .ok (.iand, 1) := by decide +kernel
theorem dX4_minorityNow_8 : decode cX4_minorityNow 8 = .ok (.ifCond .ne 7, 3) := by decide +kernel
theorem dX4_minorityNow_11 : decode cX4_minorityNow 11 = .ok (.iconst 0, 1) := by decide +kernel
theorem dX4_minorityNow_12 : decode cX4_minorityNow 12 = .ok (.goto 33, 3) := by decide +kernel
theorem dX4_minorityNow_15 : decode cX4_minorityNow 15 = .ok (.aload_n 0, 1) := by decide +kernel
theorem dX4_minorityNow_16 : decode cX4_minorityNow 16 = .ok (.iload_n 1, 1) := by decide +kernel
theorem dX4_minorityNow_17 : decode cX4_minorityNow 17 = .ok (.invokevirtual 106, 3) := by decide +kernel
theorem dX4_minorityNow_20 : decode cX4_minorityNow 20 = .ok (.i2l, 1) := by decide +kernel
theorem dX4_minorityNow_21 : decode cX4_minorityNow 21 = .ok (.aload_n 0, 1) := by decide +kernel
theorem dX4_minorityNow_22 : decode cX4_minorityNow 22 = .ok (.getfield 53, 3) := by decide +kernel
theorem dX4_minorityNow_25 : decode cX4_minorityNow 25 = .ok (.iload_n 1, 1) := by decide +kernel
theorem dX4_minorityNow_26 : decode cX4_minorityNow 26 = .ok (.laload, 1) := by decide +kernel
theorem dX4_minorityNow_27 : decode cX4_minorityNow 27 = .ok (.aload_n 0, 1) := by decide +kernel
theorem dX4_minorityNow_28 : decode cX4_minorityNow 28 = .ok (.getfield 50, 3) := by decide +kernel
theorem dX4_minorityNow_31 : decode cX4_minorityNow 31 = .ok (.iload_n 1, 1) := by decide +kernel
theorem dX4_minorityNow_32 : decode cX4_minorityNow 32 = .ok (.laload, 1) := by decide +kernel
theorem dX4_minorityNow_33 : decode cX4_minorityNow 33 = .ok (.lsub, 1) := by decide +kernel
theorem dX4_minorityNow_34 : decode cX4_minorityNow 34 = .ok (.lmul, 1) := by decide +kernel
theorem dX4_minorityNow_35 : decode cX4_minorityNow 35 = .ok (.aload_n 0, 1) := by decide +kernel
theorem dX4_minorityNow_36 : decode cX4_minorityNow 36 = .ok (.getfield 53, 3) := by decide +kernel
theorem dX4_minorityNow_39 : decode cX4_minorityNow 39 = .ok (.iload_n 1, 1) := by decide +kernel
theorem dX4_minorityNow_40 : decode cX4_minorityNow 40 = .ok (.laload, 1) := by decide +kernel
theorem dX4_minorityNow_41 : decode cX4_minorityNow 41 = .ok (.invokestatic 111, 3) := by decide +kernel
theorem dX4_minorityNow_44 : decode cX4_minorityNow 44 = .ok (.l2i, 1) := by decide +kernel
theorem dX4_minorityNow_45 : decode cX4_minorityNow 45 = .ok (.ireturn, 1) := by decide +kernel
set_option maxRecDepth 20000 in
theorem ggX4_resultNow_X4_layShares : GoodIn wsX4_resultNow wsX4_layShares := goodIn_r _ [9, 3, 4, 10, 11, 12, 8, 13, 14, 15, 16, 17, 18, 19, 20, 21, 22, 23, 24, 25, 26, 38, 39, 40, 41, 42, 43, 44, 45, 46, 47, 48, 49, 50, 51, 52, 53, 54, 55, 56] (by decide +kernel) (by decide +kernel)
set_option maxRecDepth 20000 in
theorem gX4_resultNow_X4_layShares : GoodIn wsX4_resultNow (wsV RX4 90 RX4 yX4_layShares wsX4_layShares) := goodIn_app (goodIn_of _ (by decide +kernel)) ggX4_resultNow_X4_layShares
set_option maxRecDepth 20000 in
theorem ggX4_resultNow_X4_groupSet : GoodIn wsX4_resultNow wsX4_groupSet := goodIn_r _ [30, 14, 38, 39, 40, 41, 42, 43, 44, 45, 46, 47, 48, 49, 50, 51, 52, 53, 54, 55, 56] (by decide +kernel) (by decide +kernel)
set_option maxRecDepth 20000 in
theorem gX4_resultNow_X4_groupSet : GoodIn wsX4_resultNow (wsV RX4 114 RX4 yX4_groupSet wsX4_groupSet) := goodIn_app (goodIn_of _ (by decide +kernel)) ggX4_resultNow_X4_groupSet
set_option maxRecDepth 20000 in
theorem ggX4_resultNow_X4_translated : GoodIn wsX4_resultNow wsX4_translated := goodIn_r _ [33, 34, 35, 36, 8, 37] (by decide +kernel) (by decide +kernel)
set_option maxRecDepth 20000 in
theorem gX4_resultNow_X4_translated : GoodIn wsX4_resultNow (va_wsS RX4 119 yX4_translated wsX4_translated) := goodIn_app (goodIn_of _ (by decide +kernel)) ggX4_resultNow_X4_translated
set_option maxRecDepth 20000 in
theorem ggX4_resultNow_X4_floor : GoodIn wsX4_resultNow wsX4_floor := goodIn_r _ [37] (by decide +kernel) (by decide +kernel)
set_option maxRecDepth 20000 in
theorem gX4_resultNow_X4_floor : GoodIn wsX4_resultNow (va_wsS RX4 111 yX4_floor wsX4_floor) := goodIn_app (goodIn_of _ (by decide +kernel)) ggX4_resultNow_X4_floor
theorem dX4_resultNow_0 : decode cX4_resultNow 0 = .ok (.aload_n 0, 1) := by decide +kernel
theorem dX4_resultNow_1 : decode cX4_resultNow 1 = .ok (.invokevirtual 90, 3) := by decide +kernel
theorem dX4_resultNow_4 : decode cX4_resultNow 4 = .ok (.istore_n 1, 1) := by decide +kernel
theorem dX4_resultNow_5 : decode cX4_resultNow 5 = .ok (.aload_n 0, 1) := by decide +kernel
theorem dX4_resultNow_6 : decode cX4_resultNow 6 = .ok (.invokevirtual 114, 3) := by decide +kernel
theorem dX4_resultNow_9 : decode cX4_resultNow 9 = .ok (.istore_n 2, 1) := by decide +kernel
theorem dX4_resultNow_10 : decode cX4_resultNow 10 = .ok (.iconst 0, 1) := by decide +kernel
theorem dX4_resultNow_11 : decode cX4_resultNow 11 = .ok (.istore_n 3, 1) := by decide +kernel
theorem dX4_resultNow_12 : decode cX4_resultNow 12 = .ok (.iconst 0, 1) := by decide +kernel
theorem dX4_resultNow_13 : decode cX4_resultNow 13 = .ok (.istore 4, 2) := by decide +kernel
theorem dX4_resultNow_15 : decode cX4_resultNow 15 = .ok (.iload 4, 2) := by decide +kernel
theorem dX4_resultNow_17 : decode cX4_resultNow 17 = .ok (.bipush 6, 2) := by decide +kernel
theorem dX4_resultNow_19 : decode cX4_resultNow 19 = .ok (.if_icmp .ge 63, 3) := by decide +kernel
theorem dX4_resultNow_22 : decode cX4_resultNow 22 = .ok (.iload_n 3, 1) := by decide +kernel
theorem dX4_resultNow_23 : decode cX4_resultNow 23 = .ok (.iload_n 2, 1) := by decide +kernel
theorem dX4_resultNow_24 : decode cX4_resultNow 24 = .ok (.iload 4, 2) := by decide +kernel
theorem dX4_resultNow_26 : decode cX4_resultNow 26 = .ok (.ishr, 1) := by decide +kernel
theorem dX4_resultNow_27 : decode cX4_resultNow 27 = .ok (.iconst 1, 1) := by decide +kernel
theorem dX4_resultNow_28 : decode cX4_resultNow 28 = .ok (.iand, 1) := by decide +kernel
theorem dX4_resultNow_29 : decode cX4_resultNow 29 = .ok (.iconst 1, 1) := by decide +kernel
theorem dX4_resultNow_30 : decode cX4_resultNow 30 = .ok (.if_icmp .ne 43, 3) := by decide +kernel
theorem dX4_resultNow_33 : decode cX4_resultNow 33 = .ok (.aload_n 0, 1) := by decide +kernel
theorem dX4_resultNow_34 : decode cX4_resultNow 34 = .ok (.getfield 31, 3) := by decide +kernel
theorem dX4_resultNow_37 : decode cX4_resultNow 37 = .ok (.iload 4, 2) := by decide +kernel
theorem dX4_resultNow_39 : decode cX4_resultNow 39 = .ok (.iaload, 1) := by decide +kernel
theorem dX4_resultNow_40 : decode cX4_resultNow 40 = .ok (.aload_n 0, 1) := by decide +kernel
theorem dX4_resultNow_41 : decode cX4_resultNow 41 = .ok (.getfield 37, 3) := by decide +kernel
theorem dX4_resultNow_44 : decode cX4_resultNow 44 = .ok (.iload 4, 2) := by decide +kernel
theorem dX4_resultNow_46 : decode cX4_resultNow 46 = .ok (.iaload, 1) := by decide +kernel
theorem dX4_resultNow_47 : decode cX4_resultNow 47 = .ok (.invokestatic 119, 3) := by decide +kernel
theorem dX4_resultNow_50 : decode cX4_resultNow 50 = .ok (.i2l, 1) := by decide +kernel
theorem dX4_resultNow_51 : decode cX4_resultNow 51 = .ok (.aload_n 0, 1) := by decide +kernel
theorem dX4_resultNow_52 : decode cX4_resultNow 52 = .ok (.getfield 50, 3) := by decide +kernel
theorem dX4_resultNow_55 : decode cX4_resultNow 55 = .ok (.iload 4, 2) := by decide +kernel
theorem dX4_resultNow_57 : decode cX4_resultNow 57 = .ok (.laload, 1) := by decide +kernel
theorem dX4_resultNow_58 : decode cX4_resultNow 58 = .ok (.lmul, 1) := by decide +kernel
theorem dX4_resultNow_59 : decode cX4_resultNow 59 = .ok (.aload_n 0, 1) := by decide +kernel
theorem dX4_resultNow_60 : decode cX4_resultNow 60 = .ok (.getfield 53, 3) := by decide +kernel
theorem dX4_resultNow_63 : decode cX4_resultNow 63 = .ok (.iload 4, 2) := by decide +kernel
theorem dX4_resultNow_65 : decode cX4_resultNow 65 = .ok (.laload, 1) := by decide +kernel
theorem dX4_resultNow_66 : decode cX4_resultNow 66 = .ok (.invokestatic 111, 3) := by decide +kernel
theorem dX4_resultNow_69 : decode cX4_resultNow 69 = .ok (.l2i, 1) := by decide +kernel
theorem dX4_resultNow_70 : decode cX4_resultNow 70 = .ok (.goto 4, 3) := by decide +kernel
theorem dX4_resultNow_73 : decode cX4_resultNow 73 = .ok (.iconst 0, 1) := by decide +kernel
theorem dX4_resultNow_74 : decode cX4_resultNow 74 = .ok (.iadd, 1) := by decide +kernel
theorem dX4_resultNow_75 : decode cX4_resultNow 75 = .ok (.istore_n 3, 1) := by decide +kernel
theorem dX4_resultNow_76 : decode cX4_resultNow 76 = .ok (.iinc 4 1, 3) := by decide +kernel
theorem dX4_resultNow_79 : decode cX4_resultNow 79 = .ok (.goto (-64), 3) := by decide +kernel
theorem dX4_resultNow_82 : decode cX4_resultNow 82 = .ok (.iload_n 3, 1) := by decide +kernel
theorem dX4_resultNow_83 : decode cX4_resultNow 83 = .ok (.ireturn, 1) := by decide +kernel
set_option maxRecDepth 20000 in
theorem ggX4_assets_X4_assetsNow : GoodIn wsX4_assets wsX4_assetsNow := goodIn_r _ [6, 7, 8, 9, 10, 11, 5, 12, 13, 14, 15, 16, 17, 18, 19, 20, 21, 22, 23, 24, 25, 26, 27, 28, 29, 30, 31, 32, 33, 34, 35, 36, 37, 38, 39, 40, 41, 42, 43, 44, 45] (by decide +kernel) (by decide +kernel)
set_option maxRecDepth 20000 in
theorem gX4_assets_X4_assetsNow : GoodIn wsX4_assets (wsV RX4 126 RX4 yX4_assetsNow wsX4_assetsNow) := goodIn_app (goodIn_of _ (by decide +kernel)) ggX4_assets_X4_assetsNow
theorem dX4_assets_0 : decode cX4_assets 0 = .ok (.aload_n 0, 1) := by decide +kernel
theorem dX4_assets_1 : decode cX4_assets 1 = .ok (.iconst 0, 1) := by decide +kernel
theorem dX4_assets_2 : decode cX4_assets 2 = .ok (.putfield 62, 3) := by decide +kernel
theorem dX4_assets_5 : decode cX4_assets 5 = .ok (.aload_n 0, 1) := by decide +kernel
theorem dX4_assets_6 : decode cX4_assets 6 = .ok (.invokevirtual 126, 3) := by decide +kernel
theorem dX4_assets_9 : decode cX4_assets 9 = .ok (.ireturn, 1) := by decide +kernel
set_option maxRecDepth 20000 in
theorem ggX4_debts_X4_debtsNow : GoodIn wsX4_debts wsX4_debtsNow := goodIn_r _ [6, 7, 8, 9, 10, 11, 5, 12, 13, 14, 15, 16, 17, 18, 19, 20, 21, 22, 23, 24, 25, 26, 27, 28, 29, 30, 31, 32, 33, 34, 35, 36, 37, 38, 39, 40, 41, 42, 43, 44, 45] (by decide +kernel) (by decide +kernel)
set_option maxRecDepth 20000 in
theorem gX4_debts_X4_debtsNow : GoodIn wsX4_debts (wsV RX4 129 RX4 yX4_debtsNow wsX4_debtsNow) := goodIn_app (goodIn_of _ (by decide +kernel)) ggX4_debts_X4_debtsNow
theorem dX4_debts_0 : decode cX4_debts 0 = .ok (.aload_n 0, 1) := by decide +kernel
theorem dX4_debts_1 : decode cX4_debts 1 = .ok (.iconst 0, 1) := by decide +kernel
theorem dX4_debts_2 : decode cX4_debts 2 = .ok (.putfield 62, 3) := by decide +kernel
theorem dX4_debts_5 : decode cX4_debts 5 = .ok (.aload_n 0, 1) := by decide +kernel
theorem dX4_debts_6 : decode cX4_debts 6 = .ok (.invokevirtual 129, 3) := by decide +kernel
theorem dX4_debts_9 : decode cX4_debts 9 = .ok (.ireturn, 1) := by decide +kernel
set_option maxRecDepth 20000 in
theorem ggX4_minority_X4_isCompany : GoodIn wsX4_minority wsX4_isCompany := goodIn_r _ [5, 6, 7, 4, 8] (by decide +kernel) (by decide +kernel)
set_option maxRecDepth 20000 in
theorem gX4_minority_X4_isCompany : GoodIn wsX4_minority (va_wsS RX4 70 yX4_isCompany wsX4_isCompany) := goodIn_app (goodIn_of _ (by decide +kernel)) ggX4_minority_X4_isCompany
set_option maxRecDepth 20000 in
theorem ggX4_minority_X4_fails : GoodIn wsX4_minority wsX4_fails := goodIn_r _ [12, 1, 58, 59, 60, 61, 62, 63, 64, 65, 66, 67, 68, 69, 70, 71, 72, 73, 74, 75, 76] (by decide +kernel) (by decide +kernel)
set_option maxRecDepth 20000 in
theorem gX4_minority_X4_fails : GoodIn wsX4_minority (wsV RX4 98 RX4 yX4_fails wsX4_fails) := goodIn_app (goodIn_of _ (by decide +kernel)) ggX4_minority_X4_fails
set_option maxRecDepth 20000 in
theorem ggX4_minority_X4_layShares : GoodIn wsX4_minority wsX4_layShares := goodIn_r _ [16, 17, 18, 19, 20, 21, 4, 22, 23, 24, 25, 26, 27, 28, 29, 30, 31, 32, 33, 34, 35, 58, 59, 60, 61, 62, 63, 64, 65, 66, 67, 68, 69, 70, 71, 72, 73, 74, 75, 76] (by decide +kernel) (by decide +kernel)
set_option maxRecDepth 20000 in
theorem gX4_minority_X4_layShares : GoodIn wsX4_minority (wsV RX4 90 RX4 yX4_layShares wsX4_layShares) := goodIn_app (goodIn_of _ (by decide +kernel)) ggX4_minority_X4_layShares
set_option maxRecDepth 20000 in
theorem ggX4_minority_X4_minorityNow : GoodIn wsX4_minority wsX4_minorityNow := goodIn_r _ [39, 18, 17, 40, 41, 42, 4, 43, 23, 44, 45, 46, 47, 48, 49, 50, 51, 52, 53, 54, 55, 56, 57, 58, 59, 60, 61, 62, 63, 64, 65, 66, 67, 68, 69, 70, 71, 72, 73, 74, 75, 76] (by decide +kernel) (by decide +kernel)
set_option maxRecDepth 20000 in
theorem gX4_minority_X4_minorityNow : GoodIn wsX4_minority (wsV RX4 132 RX4 yX4_minorityNow wsX4_minorityNow) := goodIn_app (goodIn_of _ (by decide +kernel)) ggX4_minority_X4_minorityNow
theorem dX4_minority_0 : decode cX4_minority 0 = .ok (.aload_n 0, 1) := by decide +kernel
theorem dX4_minority_1 : decode cX4_minority 1 = .ok (.iconst 0, 1) := by decide +kernel
theorem dX4_minority_2 : decode cX4_minority 2 = .ok (.putfield 62, 3) := by decide +kernel
theorem dX4_minority_5 : decode cX4_minority 5 = .ok (.iload_n 1, 1) := by decide +kernel
theorem dX4_minority_6 : decode cX4_minority 6 = .ok (.invokestatic 70, 3) := by decide +kernel
theorem dX4_minority_9 : decode cX4_minority 9 = .ok (.ifCond .ne 9, 3) := by decide +kernel
theorem dX4_minority_12 : decode cX4_minority 12 = .ok (.aload_n 0, 1) := by decide +kernel
theorem dX4_minority_13 : decode cX4_minority 13 = .ok (.iconst 1, 1) := by decide +kernel
theorem dX4_minority_14 : decode cX4_minority 14 = .ok (.invokevirtual 98, 3) := by decide +kernel
theorem dX4_minority_17 : decode cX4_minority 17 = .ok (.ireturn, 1) := by decide +kernel
theorem dX4_minority_18 : decode cX4_minority 18 = .ok (.aload_n 0, 1) := by decide +kernel
theorem dX4_minority_19 : decode cX4_minority 19 = .ok (.invokevirtual 90, 3) := by decide +kernel
theorem dX4_minority_22 : decode cX4_minority 22 = .ok (.istore_n 2, 1) := by decide +kernel
theorem dX4_minority_23 : decode cX4_minority 23 = .ok (.aload_n 0, 1) := by decide +kernel
theorem dX4_minority_24 : decode cX4_minority 24 = .ok (.iload_n 1, 1) := by decide +kernel
theorem dX4_minority_25 : decode cX4_minority 25 = .ok (.invokevirtual 132, 3) := by decide +kernel
theorem dX4_minority_28 : decode cX4_minority 28 = .ok (.ireturn, 1) := by decide +kernel
set_option maxRecDepth 20000 in
theorem ggX4_equity_X4_layShares : GoodIn wsX4_equity wsX4_layShares := goodIn_r _ [6, 7, 8, 9, 10, 11, 5, 12, 13, 14, 15, 16, 17, 18, 19, 20, 21, 22, 23, 24, 25, 62, 63, 64, 65, 66, 67, 68, 69, 70, 71, 72, 73, 74, 75, 76, 77, 78, 79, 80] (by decide +kernel) (by decide +kernel)
set_option maxRecDepth 20000 in
theorem gX4_equity_X4_layShares : GoodIn wsX4_equity (wsV RX4 90 RX4 yX4_layShares wsX4_layShares) := goodIn_app (goodIn_of _ (by decide +kernel)) ggX4_equity_X4_layShares
set_option maxRecDepth 20000 in
theorem ggX4_equity_X4_assetsNow : GoodIn wsX4_equity wsX4_assetsNow := goodIn_r _ [29, 30, 31, 32, 33, 34, 5, 35, 13, 36, 37, 38, 39, 40, 41, 42, 43, 44, 45, 46, 47, 48, 62, 63, 64, 65, 66, 67, 68, 69, 70, 71, 72, 73, 74, 75, 76, 77, 78, 79, 80] (by decide +kernel) (by decide +kernel)
set_option maxRecDepth 20000 in
theorem gX4_equity_X4_assetsNow : GoodIn wsX4_equity (wsV RX4 126 RX4 yX4_assetsNow wsX4_assetsNow) := goodIn_app (goodIn_of _ (by decide +kernel)) ggX4_equity_X4_assetsNow
set_option maxRecDepth 20000 in
theorem ggX4_equity_X4_debtsNow : GoodIn wsX4_equity wsX4_debtsNow := goodIn_r _ [52, 53, 31, 32, 33, 34, 5, 35, 13, 36, 37, 38, 39, 40, 41, 42, 43, 44, 45, 46, 47, 48, 62, 63, 64, 65, 66, 67, 68, 69, 70, 71, 72, 73, 74, 75, 76, 77, 78, 79, 80] (by decide +kernel) (by decide +kernel)
set_option maxRecDepth 20000 in
theorem gX4_equity_X4_debtsNow : GoodIn wsX4_equity (wsV RX4 129 RX4 yX4_debtsNow wsX4_debtsNow) := goodIn_app (goodIn_of _ (by decide +kernel)) ggX4_equity_X4_debtsNow
set_option maxRecDepth 20000 in
theorem ggX4_equity_X4_minorityNow : GoodIn wsX4_equity wsX4_minorityNow := goodIn_r _ [57, 8, 7, 32, 33, 34, 5, 35, 13, 58, 59, 60, 61, 30, 31, 53, 36, 37, 38, 39, 40, 41, 42, 62, 63, 64, 65, 66, 67, 68, 69, 70, 71, 72, 73, 74, 75, 76, 77, 78, 79, 80] (by decide +kernel) (by decide +kernel)
set_option maxRecDepth 20000 in
theorem gX4_equity_X4_minorityNow : GoodIn wsX4_equity (wsV RX4 132 RX4 yX4_minorityNow wsX4_minorityNow) := goodIn_app (goodIn_of _ (by decide +kernel)) ggX4_equity_X4_minorityNow
theorem dX4_equity_0 : decode cX4_equity 0 = .ok (.aload_n 0, 1) := by decide +kernel
theorem dX4_equity_1 : decode cX4_equity 1 = .ok (.iconst 0, 1) := by decide +kernel
theorem dX4_equity_2 : decode cX4_equity 2 = .ok (.putfield 62, 3) := by decide +kernel
theorem dX4_equity_5 : decode cX4_equity 5 = .ok (.aload_n 0, 1) := by decide +kernel
theorem dX4_equity_6 : decode cX4_equity 6 = .ok (.invokevirtual 90, 3) := by decide +kernel
theorem dX4_equity_9 : decode cX4_equity 9 = .ok (.istore_n 1, 1) := by decide +kernel
theorem dX4_equity_10 : decode cX4_equity 10 = .ok (.aload_n 0, 1) := by decide +kernel
theorem dX4_equity_11 : decode cX4_equity 11 = .ok (.invokevirtual 126, 3) := by decide +kernel
theorem dX4_equity_14 : decode cX4_equity 14 = .ok (.aload_n 0, 1) := by decide +kernel
theorem dX4_equity_15 : decode cX4_equity 15 = .ok (.invokevirtual 129, 3) := by decide +kernel
theorem dX4_equity_18 : decode cX4_equity 18 = .ok (.isub, 1) := by decide +kernel
theorem dX4_equity_19 : decode cX4_equity 19 = .ok (.istore_n 2, 1) := by decide +kernel
theorem dX4_equity_20 : decode cX4_equity 20 = .ok (.iconst 0, 1) := by decide +kernel
theorem dX4_equity_21 : decode cX4_equity 21 = .ok (.istore_n 3, 1) := by decide +kernel
theorem dX4_equity_22 : decode cX4_equity 22 = .ok (.iload_n 3, 1) := by decide +kernel
theorem dX4_equity_23 : decode cX4_equity 23 = .ok (.bipush 6, 2) := by decide +kernel
theorem dX4_equity_25 : decode cX4_equity 25 = .ok (.if_icmp .ge 17, 3) := by decide +kernel
theorem dX4_equity_28 : decode cX4_equity 28 = .ok (.iload_n 2, 1) := by decide +kernel
theorem dX4_equity_29 : decode cX4_equity 29 = .ok (.aload_n 0, 1) := by decide +kernel
theorem dX4_equity_30 : decode cX4_equity 30 = .ok (.iload_n 3, 1) := by decide +kernel
theorem dX4_equity_31 : decode cX4_equity 31 = .ok (.invokevirtual 132, 3) := by decide +kernel
theorem dX4_equity_34 : decode cX4_equity 34 = .ok (.isub, 1) := by decide +kernel
theorem dX4_equity_35 : decode cX4_equity 35 = .ok (.istore_n 2, 1) := by decide +kernel
theorem dX4_equity_36 : decode cX4_equity 36 = .ok (.iinc 3 1, 3) := by decide +kernel
theorem dX4_equity_39 : decode cX4_equity 39 = .ok (.goto (-17), 3) := by decide +kernel
theorem dX4_equity_42 : decode cX4_equity 42 = .ok (.iload_n 2, 1) := by decide +kernel
theorem dX4_equity_43 : decode cX4_equity 43 = .ok (.ireturn, 1) := by decide +kernel
set_option maxRecDepth 20000 in
theorem ggX4_result_X4_resultNow : GoodIn wsX4_result wsX4_resultNow := goodIn_r _ [6, 7, 8, 9, 10, 11, 12, 13, 5, 14, 15, 16, 17, 18, 19, 20, 21, 22, 23, 24, 25, 26, 27, 28, 29, 30, 31, 32, 33, 34, 35, 36, 37, 38, 39, 40, 41, 42, 43, 44, 45, 46, 47, 48, 49, 50, 51, 52, 53, 54, 55, 56, 57, 58, 59, 60, 61] (by decide +kernel) (by decide +kernel)
set_option maxRecDepth 20000 in
theorem gX4_result_X4_resultNow : GoodIn wsX4_result (wsV RX4 135 RX4 yX4_resultNow wsX4_resultNow) := goodIn_app (goodIn_of _ (by decide +kernel)) ggX4_result_X4_resultNow
theorem dX4_result_0 : decode cX4_result 0 = .ok (.aload_n 0, 1) := by decide +kernel
theorem dX4_result_1 : decode cX4_result 1 = .ok (.iconst 0, 1) := by decide +kernel
theorem dX4_result_2 : decode cX4_result 2 = .ok (.putfield 62, 3) := by decide +kernel
theorem dX4_result_5 : decode cX4_result 5 = .ok (.aload_n 0, 1) := by decide +kernel
theorem dX4_result_6 : decode cX4_result 6 = .ok (.invokevirtual 135, 3) := by decide +kernel
theorem dX4_result_9 : decode cX4_result 9 = .ok (.ireturn, 1) := by decide +kernel
set_option maxRecDepth 20000 in
theorem ggX4_close_X4_fails : GoodIn wsX4_close wsX4_fails := goodIn_r _ [10, 1, 50, 51, 52, 53, 54, 55, 56, 57, 58, 59, 60, 61, 62, 63, 64, 65, 66, 67, 68] (by decide +kernel) (by decide +kernel)
set_option maxRecDepth 20000 in
theorem gX4_close_X4_fails : GoodIn wsX4_close (wsV RX4 98 RX4 yX4_fails wsX4_fails) := goodIn_app (goodIn_of _ (by decide +kernel)) ggX4_close_X4_fails
set_option maxRecDepth 20000 in
theorem ggX4_close_X4_resultNow : GoodIn wsX4_close wsX4_resultNow := goodIn_r _ [14, 5, 15, 16, 17, 18, 19, 20, 9, 21, 22, 23, 24, 25, 26, 27, 28, 29, 30, 31, 32, 33, 34, 35, 36, 37, 38, 39, 40, 41, 42, 43, 44, 45, 46, 47, 48, 49, 50, 51, 52, 53, 54, 55, 56, 57, 58, 59, 60, 61, 62, 63, 64, 65, 66, 67, 68] (by decide +kernel) (by decide +kernel)
set_option maxRecDepth 20000 in
theorem gX4_close_X4_resultNow : GoodIn wsX4_close (wsV RX4 135 RX4 yX4_resultNow wsX4_resultNow) := goodIn_app (goodIn_of _ (by decide +kernel)) ggX4_close_X4_resultNow
theorem dX4_close_0 : decode cX4_close 0 = .ok (.aload_n 0, 1) := by decide +kernel
theorem dX4_close_1 : decode cX4_close 1 = .ok (.iconst 0, 1) := by decide +kernel
theorem dX4_close_2 : decode cX4_close 2 = .ok (.putfield 62, 3) := by decide +kernel
theorem dX4_close_5 : decode cX4_close 5 = .ok (.aload_n 0, 1) := by decide +kernel
theorem dX4_close_6 : decode cX4_close 6 = .ok (.getfield 138, 3) := by decide +kernel
theorem dX4_close_9 : decode cX4_close 9 = .ok (.bipush 12, 2) := by decide +kernel
theorem dX4_close_11 : decode cX4_close 11 = .ok (.if_icmp .ne 9, 3) := by decide +kernel
theorem dX4_close_14 : decode cX4_close 14 = .ok (.aload_n 0, 1) := by decide +kernel
theorem dX4_close_15 : decode cX4_close 15 = .ok (.iconst 1, 1) := by decide +kernel
theorem dX4_close_16 : decode cX4_close 16 = .ok (.invokevirtual 98, 3) := by decide +kernel
theorem dX4_close_19 : decode cX4_close 19 = .ok (.ireturn, 1) := by decide +kernel
theorem dX4_close_20 : decode cX4_close 20 = .ok (.aload_n 0, 1) := by decide +kernel
theorem dX4_close_21 : decode cX4_close 21 = .ok (.getfield 43, 3) := by decide +kernel
theorem dX4_close_24 : decode cX4_close 24 = .ok (.aload_n 0, 1) := by decide +kernel
theorem dX4_close_25 : decode cX4_close 25 = .ok (.getfield 138, 3) := by decide +kernel
theorem dX4_close_28 : decode cX4_close 28 = .ok (.aload_n 0, 1) := by decide +kernel
theorem dX4_close_29 : decode cX4_close 29 = .ok (.invokevirtual 135, 3) := by decide +kernel
theorem dX4_close_32 : decode cX4_close 32 = .ok (.iastore, 1) := by decide +kernel
theorem dX4_close_33 : decode cX4_close 33 = .ok (.aload_n 0, 1) := by decide +kernel
theorem dX4_close_34 : decode cX4_close 34 = .ok (.dup, 1) := by decide +kernel
theorem dX4_close_35 : decode cX4_close 35 = .ok (.getfield 138, 3) := by decide +kernel
theorem dX4_close_38 : decode cX4_close 38 = .ok (.iconst 1, 1) := by decide +kernel
theorem dX4_close_39 : decode cX4_close 39 = .ok (.iadd, 1) := by decide +kernel
theorem dX4_close_40 : decode cX4_close 40 = .ok (.putfield 138, 3) := by decide +kernel
theorem dX4_close_43 : decode cX4_close 43 = .ok (.iconst 0, 1) := by decide +kernel
theorem dX4_close_44 : decode cX4_close 44 = .ok (.istore_n 1, 1) := by decide +kernel
theorem dX4_close_45 : decode cX4_close 45 = .ok (.iload_n 1, 1) := by decide +kernel
theorem dX4_close_46 : decode cX4_close 46 = .ok (.bipush 6, 2) := by decide +kernel
theorem dX4_close_48 : decode cX4_close 48 = .ok (.if_icmp .ge 31, 3) := by decide +kernel
theorem dX4_close_51 : decode cX4_close 51 = .ok (.aload_n 0, 1) := by decide +kernel
theorem dX4_close_52 : decode cX4_close 52 = .ok (.getfield 28, 3) := by decide +kernel
theorem dX4_close_55 : decode cX4_close 55 = .ok (.iload_n 1, 1) := by decide +kernel
theorem dX4_close_56 : decode cX4_close 56 = .ok (.dup2, 1) := by decide +kernel
theorem dX4_close_57 : decode cX4_close 57 = .ok (.iaload, 1) := by decide +kernel
theorem dX4_close_58 : decode cX4_close 58 = .ok (.aload_n 0, 1) := by decide +kernel
theorem dX4_close_59 : decode cX4_close 59 = .ok (.getfield 31, 3) := by decide +kernel
theorem dX4_close_62 : decode cX4_close 62 = .ok (.iload_n 1, 1) := by decide +kernel
theorem dX4_close_63 : decode cX4_close 63 = .ok (.iaload, 1) := by decide +kernel
theorem dX4_close_64 : decode cX4_close 64 = .ok (.iadd, 1) := by decide +kernel
theorem dX4_close_65 : decode cX4_close 65 = .ok (.iastore, 1) := by decide +kernel
theorem dX4_close_66 : decode cX4_close 66 = .ok (.aload_n 0, 1) := by decide +kernel
theorem dX4_close_67 : decode cX4_close 67 = .ok (.getfield 31, 3) := by decide +kernel
theorem dX4_close_70 : decode cX4_close 70 = .ok (.iload_n 1, 1) := by decide +kernel
theorem dX4_close_71 : decode cX4_close 71 = .ok (.iconst 0, 1) := by decide +kernel
theorem dX4_close_72 : decode cX4_close 72 = .ok (.iastore, 1) := by decide +kernel
theorem dX4_close_73 : decode cX4_close 73 = .ok (.iinc 1 1, 3) := by decide +kernel
theorem dX4_close_76 : decode cX4_close 76 = .ok (.goto (-31), 3) := by decide +kernel
theorem dX4_close_79 : decode cX4_close 79 = .ok (.aload_n 0, 1) := by decide +kernel
theorem dX4_close_80 : decode cX4_close 80 = .ok (.getfield 43, 3) := by decide +kernel
theorem dX4_close_83 : decode cX4_close 83 = .ok (.aload_n 0, 1) := by decide +kernel
theorem dX4_close_84 : decode cX4_close 84 = .ok (.getfield 138, 3) := by decide +kernel
theorem dX4_close_87 : decode cX4_close 87 = .ok (.iconst 1, 1) := by decide +kernel
theorem dX4_close_88 : decode cX4_close 88 = .ok (.isub, 1) := by decide +kernel
theorem dX4_close_89 : decode cX4_close 89 = .ok (.iaload, 1) := by decide +kernel
theorem dX4_close_90 : decode cX4_close 90 = .ok (.ireturn, 1) := by decide +kernel
set_option maxRecDepth 20000 in
theorem ggX4_resultOf_X4_in : GoodIn wsX4_resultOf wsX4_in := goodIn_r _ [7] (by decide +kernel) (by decide +kernel)
set_option maxRecDepth 20000 in
theorem gX4_resultOf_X4_in : GoodIn wsX4_resultOf (va_wsS RX4 66 yX4_in wsX4_in) := goodIn_app (goodIn_of _ (by decide +kernel)) ggX4_resultOf_X4_in
set_option maxRecDepth 20000 in
theorem ggX4_resultOf_X4_fails : GoodIn wsX4_resultOf wsX4_fails := goodIn_r _ [11, 1, 12, 13, 14, 15, 16, 17, 18, 19, 20, 21, 22, 23, 24, 25, 26, 27, 28, 29, 30] (by decide +kernel) (by decide +kernel)
set_option maxRecDepth 20000 in
theorem gX4_resultOf_X4_fails : GoodIn wsX4_resultOf (wsV RX4 98 RX4 yX4_fails wsX4_fails) := goodIn_app (goodIn_of _ (by decide +kernel)) ggX4_resultOf_X4_fails
theorem dX4_resultOf_0 : decode cX4_resultOf 0 = .ok (.aload_n 0, 1) := by decide +kernel
theorem dX4_resultOf_1 : decode cX4_resultOf 1 = .ok (.iconst 0, 1) := by decide +kernel
theorem dX4_resultOf_2 : decode cX4_resultOf 2 = .ok (.putfield 62, 3) := by decide +kernel
theorem dX4_resultOf_5 : decode cX4_resultOf 5 = .ok (.iload_n 1, 1) := by decide +kernel
theorem dX4_resultOf_6 : decode cX4_resultOf 6 = .ok (.iconst 0, 1) := by decide +kernel
theorem dX4_resultOf_7 : decode cX4_resultOf 7 = .ok (.aload_n 0, 1) := by decide +kernel
theorem dX4_resultOf_8 : decode cX4_resultOf 8 = .ok (.getfield 138, 3) := by decide +kernel
theorem dX4_resultOf_11 : decode cX4_resultOf 11 = .ok (.iconst 1, 1) := by decide +kernel
theorem dX4_resultOf_12 : decode cX4_resultOf 12 = .ok (.isub, 1) := by decide +kernel
theorem dX4_resultOf_13 : decode cX4_resultOf 13 = .ok (.invokestatic 66, 3) := by decide +kernel
theorem dX4_resultOf_16 : decode cX4_resultOf 16 = .ok (.ifCond .eq 12, 3) := by decide +kernel
theorem dX4_resultOf_19 : decode cX4_resultOf 19 = .ok (.aload_n 0, 1) := by decide +kernel
theorem dX4_resultOf_20 : decode cX4_resultOf 20 = .ok (.getfield 43, 3) := by decide +kernel
theorem dX4_resultOf_23 : decode cX4_resultOf 23 = .ok (.iload_n 1, 1) := by decide +kernel
theorem dX4_resultOf_24 : decode cX4_resultOf 24 = .ok (.iaload, 1) := by decide +kernel
theorem dX4_resultOf_25 : decode cX4_resultOf 25 = .ok (.goto 8, 3) := by decide +kernel
theorem dX4_resultOf_28 : decode cX4_resultOf 28 = .ok (.aload_n 0, 1) := by decide +kernel
theorem dX4_resultOf_29 : decode cX4_resultOf 29 = .ok (.iconst 1, 1) := by decide +kernel
theorem dX4_resultOf_30 : decode cX4_resultOf 30 = .ok (.invokevirtual 98, 3) := by decide +kernel
theorem dX4_resultOf_33 : decode cX4_resultOf 33 = .ok (.ireturn, 1) := by decide +kernel
end
section
abbrev vwCl : List vw_C := [(RX0, TX0, 2), (RX1, TX1, 7), (RX2, TX2, 6), (RX3, TX3, 6), (RX4, TX4, 19)]
abbrev tyG (cI cJ : ClassId) : List (ClassId × FieldType) := [(cI, .int), (cJ, .long)]
abbrev eI (cI : ClassId) (n : Nat) (f : Nat → Int32) : va_E := .inl (cI, n, .inl f)
abbrev eJ (cJ : ClassId) (n : Nat) (f : Nat → Int64) : va_E := .inl (cJ, n, .inr (.inl f))
abbrev GW (a : Nat → Nat) (cI cJ : ClassId) (p : Nat → Int32) (nu de eq : Nat → Int64) (am nx oA oD oE oP cR aR hR cl ad gw pr : Nat → Int32) (n : Int32) : va_W :=
  [(a 0, .inr (3, [.ref (a 1), .ref (a 2), .ref (a 3), .ref (a 4), .ref (a 5), .int n])),
   (a 1, .inr (2, [.ref (a 6), .ref (a 7), .ref (a 8), .ref (a 9), .ref (a 10), .ref (a 11)])),
   (a 2, .inr (1, [.ref (a 12), .ref (a 13), .ref (a 14), .ref (a 15), .ref (a 16), .ref (a 17), .ref (a 18)])),
   (a 3, .inr (0, [.ref (a 19), .ref (a 20)])),
   (a 4, eI cI 6 gw), (a 5, eI cI 12 pr),
   (a 6, eI cI 36 p), (a 7, eJ cJ 6 nu), (a 8, eJ cJ 6 de), (a 9, eJ cJ 36 eq), (a 10, eI cI 6 am), (a 11, eI cI 6 nx),
   (a 12, eI cI 6 oA), (a 13, eI cI 6 oD), (a 14, eI cI 6 oE), (a 15, eI cI 6 oP), (a 16, eI cI 6 cR), (a 17, eI cI 6 aR), (a 18, eI cI 6 hR),
   (a 19, eI cI 36 cl), (a 20, eI cI 36 ad)]
abbrev MW (a : Nat → Nat) (cI cJ : ClassId) (he cm ad gw as de eq re co av hi ke : Nat → Int32) (sq ab be : Nat → Int64) (nw tn : Nat → Int32) (th cd : Int32) : va_W :=
  [(a 0, .inr (4, [.int th, .ref (a 1), .ref (a 2), .ref (a 3), .ref (a 4), .ref (a 5), .ref (a 6), .ref (a 7), .ref (a 8), .ref (a 9), .ref (a 10), .ref (a 11), .ref (a 12), .int cd, .ref (a 13), .ref (a 14), .ref (a 15), .ref (a 16), .ref (a 17)])),
   (a 1, eI cI 36 he), (a 2, eI cI 36 cm), (a 3, eI cI 36 ad), (a 4, eI cI 6 gw), (a 5, eI cI 6 as), (a 6, eI cI 6 de), (a 7, eI cI 6 eq), (a 8, eI cI 6 re),
   (a 9, eI cI 6 co), (a 10, eI cI 6 av), (a 11, eI cI 6 hi), (a 12, eI cI 12 ke), (a 13, eJ cJ 25 sq), (a 14, eJ cJ 6 ab), (a 15, eJ cJ 6 be), (a 16, eI cI 6 nw), (a 17, eI cI 6 tn)]
def nestL : List (String × Nat × MethodName) :=
  [(RX3, 9, yX2_init), (RX3, 18, yX1_init), (RX3, 25, yX0_init), (RX3, 85, yX2_members), (RX2, 83, yX3_isMember), (RX2, 31, yX3_pair), (RX3, 117, yX0_agreedAmong),
   (RX0, 22, yX3_isMember), (RX0, 18, yX3_pair), (RX3, 124, yX1_assetsOf), (RX3, 127, yX1_debtsOf), (RX3, 62, yX1_netOf), (RX3, 160, yX2_partOfOthers), (RX3, 104, yX1_profitOf),
   (RX3, 139, yX2_partOfParent), (RX3, 49, yX2_percentOf), (RX3, 53, yX2_take), (RX3, 75, yX2_numeratorOf), (RX3, 79, yX2_denominatorOf), (RX3, 82, yX2_millionthsAfter),
   (RX3, 93, yX1_enter), (RX3, 97, yX1_enterRates), (RX3, 101, yX1_equityOf), (RX3, 107, yX0_replaceClaim), (RX3, 111, yX0_replaceAdmitted), (RX3, 114, yX0_disputed), (RX3, 152, yX1_carryResults)]
abbrev RIA : String := "java/lang/IllegalArgumentException"
abbrev RIS : String := "java/lang/IllegalStateException"
def EVt (U : State) : Prop :=
  (∀ q ∈ nestL, va_Nw (.methodLinkNest q.1 q.2.1 q.2.2 RX3) U) ∧ va_Nw (.castable RIA RIA) U ∧ va_Nw (.castable RIS RIS) U ∧
  (∃ z, vk_R RX3 165 "argument out of range" z U) ∧ (∃ z, vk_R RX3 163 "a company and itself" z U) ∧ (∃ z, vk_R RX3 169 "holdings not possible" z U) ∧
  (∃ z, vk_R RX3 167 "books do not balance" z U) ∧ (∃ z, vk_R RX3 144 "all periods are closed" z U) ∧ (∃ z, vk_R RX3 157 "period not closed" z U)
theorem castable_warm {x y : String} {s U : State} (hW : s.WarmedH U.vm) (h : va_Nw (.castable x y) s) : va_Nw (.castable x y) U := by
  have hal := hW.alike
  simp only [va_Nw, Cond.before, Cond.holds, Cond.value] at h ⊢
  rw [hal.findClass x, hal.findClass y]
  cases hx : s.vm.findClass x with
  | none => simp [hx] at h
  | some i =>
    cases hy : s.vm.findClass y with
    | none => simp [hx, hy] at h
    | some j =>
      simp only [hx, hy] at h ⊢
      rw [hal.assignable]
      exact h
theorem EVt.warm {s U : State} (hW : s.WarmedH U.vm) (h : EVt s) : EVt U := by
  obtain ⟨h1, h2, h3, ⟨z4, h4⟩, ⟨z5, h5⟩, ⟨z6, h6⟩, ⟨z7, h7⟩, ⟨z8, h8⟩, ⟨z9, h9⟩⟩ := h
  exact ⟨fun q hq => va_Nw.warmM hW (h1 q hq), castable_warm hW h2, castable_warm hW h3, ⟨z4, vk_R.warm hW h4⟩, ⟨z5, vk_R.warm hW h5⟩, ⟨z6, vk_R.warm hW h6⟩, ⟨z7, vk_R.warm hW h7⟩, ⟨z8, vk_R.warm hW h8⟩, ⟨z9, vk_R.warm hW h9⟩⟩
theorem EVt.nest {U : State} (h : EVt U) (i : Nat) {q : String × Nat × MethodName} (hi : nestL[i]? = some q) : va_Nw (.methodLinkNest q.1 q.2.1 q.2.2 RX3) U := h.1 q (List.mem_of_getElem? hi)
def EVh (A : Nat → Prop) (U : State) (H : Heap) : Prop := vx_Zq Bundle.tN "UNASSIGNED_STACK" Bundle.steD A U H ∧ vx_Zq Bundle.tN "SUPPRESSED_SENTINEL" Bundle.listD A U H
theorem EVh.kept {A : Nat → Prop} {U : State} {H0 H : Heap} (h : EVh A U H0) (hq : ∀ a : Nat, a < H0.size → ¬ A a → H[a]? = H0[a]?) : EVh A U H := ⟨h.1.kept hq, h.2.kept hq⟩
theorem EVh.to {A B : Nat → Prop} {s U : State} {H0 H : Heap} {locs : List Loc} (h : EVh A s H0) (hS : va_S A H0 H locs) (hB : ∀ q, B q → A q) (hW : s.vm.Alike U.vm) : EVh B U H :=
  ⟨((h.1.kept hS.2.1).narrow hB).moved hW, ((h.2.kept hS.2.1).narrow hB).moved hW⟩
def PR (D : va_G) (tys : List (ClassId × FieldType)) (ws : va_W) (U : State) : Prop := va_P D vwCl ws U.heap ∧ va_K D vwCl tys U ∧ EVt U
def PW (D : va_G) (tys : List (ClassId × FieldType)) (ws : va_W) (sz : Nat) (U : State) : Prop := U.heap.size = sz ∧ va_P D vwCl ws U.heap ∧ va_K D vwCl tys U ∧ va_D (fun _ => True) ws ∧ EVt U
def PX (D : va_G) (tys : List (ClassId × FieldType)) (ws : va_W) (sz : Nat) (U : State) : Prop := U.heap.size = sz ∧ va_P D vwCl ws U.heap ∧ va_K D vwCl tys U ∧ va_D (fun _ => True) ws ∧ EVt U ∧ EVh (va_A ws sz) U U.heap
def AW (D : va_G) (tys : List (ClassId × FieldType)) (A : Nat → Prop) (ws : va_W) (t : State) : Prop := va_P D vwCl ws t.heap ∧ va_K D vwCl tys t ∧ va_D A ws
theorem EVt.calling {U : State} {g : JFrame} {mk : MethodId} {a : Array Value} (h : EVt U) : EVt (U.calling g mk a) := by
  obtain ⟨h1, h2, h3, ⟨z4, h4⟩, ⟨z5, h5⟩, ⟨z6, h6⟩, ⟨z7, h7⟩, ⟨z8, h8⟩, ⟨z9, h9⟩⟩ := h
  exact ⟨fun q hq => va_Nw.same rfl rfl (h1 q hq), va_Nw.same rfl rfl h2, va_Nw.same rfl rfl h3, ⟨z4, vk_R.same rfl h4⟩, ⟨z5, vk_R.same rfl h5⟩, ⟨z6, vk_R.same rfl h6⟩, ⟨z7, vk_R.same rfl h7⟩, ⟨z8, vk_R.same rfl h8⟩, ⟨z9, vk_R.same rfl h9⟩⟩
theorem PT.blind {av : List Value} : FrameBlind (va_Pc av (fun _ => True)) := fun _ _ _ _ h => ⟨h.1, trivial⟩
theorem PR.blind {av : List Value} {D : va_G} {tys : List (ClassId × FieldType)} {ws : va_W} : FrameBlind (va_Pc av (PR D tys ws)) := fun a U g mk h =>
  ⟨h.1, h.2.1, va_K.moved (u := U) (U := U.calling g mk a) (Vm.Alike.refl U.vm) h.2.2.1, h.2.2.2.calling⟩
theorem PW.blind {av : List Value} {D : va_G} {tys : List (ClassId × FieldType)} {ws : va_W} {sz : Nat} : FrameBlind (va_Pc av (PW D tys ws sz)) := fun a U g mk h =>
  ⟨h.1, h.2.1, h.2.2.1, va_K.moved (u := U) (U := U.calling g mk a) (Vm.Alike.refl U.vm) h.2.2.2.1, h.2.2.2.2.1, h.2.2.2.2.2.calling⟩
theorem PX.blind {av : List Value} {D : va_G} {tys : List (ClassId × FieldType)} {ws : va_W} {sz : Nat} : FrameBlind (va_Pc av (PX D tys ws sz)) := fun a U g mk h =>
  ⟨h.1, h.2.1, h.2.2.1, va_K.moved (u := U) (U := U.calling g mk a) (Vm.Alike.refl U.vm) h.2.2.2.1, h.2.2.2.2.1, h.2.2.2.2.2.1.calling, h.2.2.2.2.2.2.1.moved (Vm.Alike.refl U.vm), h.2.2.2.2.2.2.2.moved (Vm.Alike.refl U.vm)⟩
theorem PT.to {av : List Value} {s : State} {H : Heap} : ∀ U : State, U.heap = H → s.WarmedH U.vm → va_Pc av (fun _ => True) av.toArray U := fun _ _ _ => ⟨rfl, trivial⟩
theorem PR.to {av : List Value} {D : va_G} {tys tys0 : List (ClassId × FieldType)} {ws ws0 : va_W} {s : State} {H : Heap} (hP : va_P D vwCl ws0 H) (hK : va_K D vwCl tys0 s) (hE : EVt s) (iw it : List Nat) (hw : iw.filterMap (fun i => ws0[i]?) = ws) (ht : it.filterMap (fun i => tys0[i]?) = tys) :
    ∀ U : State, U.heap = H → s.WarmedH U.vm → va_Pc av (PR D tys ws) av.toArray U := fun U hU hW => ⟨rfl, by rw [hU]; exact hP.sub iw hw, va_K.moved hW.alike (hK.sub it ht), hE.warm hW⟩
theorem PR.go {av : List Value} {D : va_G} {tys : List (ClassId × FieldType)} {ws : va_W} {s : State} {H : Heap} (hP : va_P D vwCl ws H) (hK : va_K D vwCl tys s) (hE : EVt s) :
    ∀ U : State, U.heap = H → s.WarmedH U.vm → va_Pc av (PR D tys ws) av.toArray U := fun U hU hW => ⟨rfl, by rw [hU]; exact hP, va_K.moved hW.alike hK, hE.warm hW⟩
theorem PW.go {av : List Value} {D : va_G} {tys : List (ClassId × FieldType)} {ws : va_W} {s : State} {H : Heap} {A : Nat → Prop} (hP : va_P D vwCl ws H) (hK : va_K D vwCl tys s) (hD : va_D A ws) (hE : EVt s) :
    ∀ U : State, U.heap = H → s.WarmedH U.vm → va_Pc av (PW D tys ws H.size) av.toArray U := fun U hU hW => ⟨rfl, by rw [hU], by rw [hU]; exact hP, va_K.moved hW.alike hK, hD.weaken (fun _ _ _ _ => trivial), hE.warm hW⟩
theorem A_in {A : Nat → Prop} {ws : va_W} {H0 H : Heap} {locs : List Loc} (hD : va_D A ws) (hS : va_S A H0 H locs) (hA : ∀ q, H0.size ≤ q → A q) : ∀ q, va_A ws H.size q → A q := by
  intro q h
  rcases h with ⟨k, e, h⟩ | h
  · exact hD.2 k (q, e) h
  · exact hA q (Nat.le_trans hS.1 h)
theorem PX.go {av : List Value} {D : va_G} {tys : List (ClassId × FieldType)} {ws : va_W} {s : State} {H : Heap} {A : Nat → Prop} {locs : List Loc} (hP : va_P D vwCl ws H) (hK : va_K D vwCl tys s) (hD : va_D A ws) (hE : EVt s) (hV : EVh A s s.heap) (hS : va_S A s.heap H locs) (hA : ∀ q, s.heap.size ≤ q → A q) :
    ∀ U : State, U.heap = H → s.WarmedH U.vm → va_Pc av (PX D tys ws H.size) av.toArray U := fun U hU hW =>
  ⟨rfl, by rw [hU], by rw [hU]; exact hP, va_K.moved hW.alike hK, hD.weaken (fun _ _ _ _ => trivial), hE.warm hW, by rw [hU]; exact hV.to hS (A_in hD hS hA) hW.alike⟩
section GB
variable {p : Program} {l : Launch} {e : Env} {R : Room} {s : State} {m : MethodId} {args : Array Value} {below : List Frame} {meth : Method} {c : Code} {H : Heap} {locs : List Loc} {cells slots : Nat} {Q : State → Prop}
variable {cc : ByteArray} {pc : Nat} {ls : Array Slot} {rest st0 : List Value} {D : va_G} {cl : List vw_C} {A A1 : Nat → Prop} {a : Nat} {tys : List (ClassId × FieldType)} {ws : va_W} {H0 : Heap} {av : Array Value} {mc ms : Nat} {free : Addr → Prop}
theorem b_ti {x y : Int32} (h : x = y) (k : W p l e R s m args below meth c H locs cells slots Q (F0 m pc ls (.int y :: rest))) : W p l e R s m args below meth c H locs cells slots Q (F0 m pc ls (.int x :: rest)) := h ▸ k
theorem b_tl {x y : Int64} (h : x = y) (k : W p l e R s m args below meth c H locs cells slots Q (F0 m pc ls (.long y :: rest))) : W p l e R s m args below meth c H locs cells slots Q (F0 m pc ls (.long x :: rest)) := h ▸ k
theorem b_csi {v : Int32} (hr : CallRun p l e R s m args below meth c H locs cells slots 0 0 (F0 m pc ls st0) rest (vp_Si (fun r => r = v) av) (fun _ => False))
    (k : W p l e R s m args below meth c H locs cells slots Q (F0 m (pc + 3) ls (.int v :: rest))) : W p l e R s m args below meth c H locs cells slots Q (F0 m pc ls st0) := vp_callSi hr (fun r h => by cases h; exact k)
theorem b_csl {v : Int64} (hr : CallRun p l e R s m args below meth c H locs cells slots 0 0 (F0 m pc ls st0) rest (vp_Sl (fun r => r = v) av) (fun _ => False))
    (k : W p l e R s m args below meth c H locs cells slots Q (F0 m (pc + 3) ls (.long v :: rest))) : W p l e R s m args below meth c H locs cells slots Q (F0 m pc ls st0) := vp_callSl hr (fun r h => by cases h; exact k)
theorem b_iald (hexec : p.tables.exec = Jvm.exec) (hb : c.code = cc) (hK : va_K D cl tys s) (hP : va_P D cl ws H) (q0 t0 : Nat) {cA : ClassId} {n : Nat} {f : Nat → Int32} (ha : ws[q0]? = some (a, .inl (cA, n, .inl f))) (ht : tys[t0]? = some (cA, .int)) {j : Nat} (hj : j < n) (hn : n < 2 ^ 31) (hdg : decode cc pc = .ok (.iaload, 1))
    (kk : W p l e R s m args below meth c H locs cells slots Q (F0 m (pc + 1) ls (.int (f j) :: rest))) : W p l e R s m args below meth c H locs cells slots Q (F0 m pc ls (.int (nI j) :: .ref a :: rest)) :=
  va_iald hexec hb hK hP q0 t0 ha ht (vp_in_nI hj hn) hdg (by rw [nI_clamp (Nat.lt_trans hj hn)]; exact kk)
theorem b_lald (hexec : p.tables.exec = Jvm.exec) (hb : c.code = cc) (hK : va_K D cl tys s) (hP : va_P D cl ws H) (q0 t0 : Nat) {cA : ClassId} {n : Nat} {f : Nat → Int64} (ha : ws[q0]? = some (a, .inl (cA, n, .inr (.inl f)))) (ht : tys[t0]? = some (cA, .long)) {j : Nat} (hj : j < n) (hn : n < 2 ^ 31) (hdg : decode cc pc = .ok (.laload, 1))
    (kk : W p l e R s m args below meth c H locs cells slots Q (F0 m (pc + 1) ls (.long (f j) :: rest))) : W p l e R s m args below meth c H locs cells slots Q (F0 m pc ls (.int (nI j) :: .ref a :: rest)) :=
  va_lald hexec hb hK hP q0 t0 ha ht (vp_in_nI hj hn) hdg (by rw [nI_clamp (Nat.lt_trans hj hn)]; exact kk)
theorem b_iast {w' : va_W} (hexec : p.tables.exec = Jvm.exec) (hb : c.code = cc) (hK : va_K D cl tys s) (hP : va_P D cl ws H) (hD : va_D A ws) (hS : va_S A H0 H locs) (q0 t0 : Nat) {cA : ClassId} {n : Nat} {f : Nat → Int32} (ha : ws[q0]? = some (a, .inl (cA, n, .inl f))) (ht : tys[t0]? = some (cA, .int)) {j : Nat} {x : Int32} (hj : j < n) (hn : n < 2 ^ 31) (hw : ws.set q0 (a, .inl (cA, n, .inl (upd f j x))) = w') (hdg : decode cc pc = .ok (.iastore, 1))
    (kk : ∀ (H1 : Heap) (locs1 : List Loc), va_P D cl w' H1 → va_D A w' → va_S A H0 H1 locs1 → W p l e R s m args below meth c H1 locs1 cells slots Q (F0 m (pc + 1) ls rest)) : W p l e R s m args below meth c H locs cells slots Q (F0 m pc ls (.int x :: .int (nI j) :: .ref a :: rest)) := by
  subst hw
  refine va_iast hexec hb hK hP hD hS q0 t0 ha ht (vp_in_nI hj hn) hdg ?_
  rw [nI_clamp (Nat.lt_trans hj hn)]
  exact kk
theorem b_last {w' : va_W} (hexec : p.tables.exec = Jvm.exec) (hb : c.code = cc) (hK : va_K D cl tys s) (hP : va_P D cl ws H) (hD : va_D A ws) (hS : va_S A H0 H locs) (q0 t0 : Nat) {cA : ClassId} {n : Nat} {f : Nat → Int64} (ha : ws[q0]? = some (a, .inl (cA, n, .inr (.inl f)))) (ht : tys[t0]? = some (cA, .long)) {j : Nat} {x : Int64} (hj : j < n) (hn : n < 2 ^ 31) (hw : ws.set q0 (a, .inl (cA, n, .inr (.inl (vp_updL f j x)))) = w') (hdg : decode cc pc = .ok (.lastore, 1))
    (kk : ∀ (H1 : Heap) (locs1 : List Loc), va_P D cl w' H1 → va_D A w' → va_S A H0 H1 locs1 → W p l e R s m args below meth c H1 locs1 cells slots Q (F0 m (pc + 1) ls rest)) : W p l e R s m args below meth c H locs cells slots Q (F0 m pc ls (.long x :: .int (nI j) :: .ref a :: rest)) := by
  subst hw
  refine va_last hexec hb hK hP hD hS q0 t0 ha ht (vp_in_nI hj hn) hdg ?_
  rw [nI_clamp (Nat.lt_trans hj hn)]
  exact kk
theorem b_callv {S : Type} {post : S → Prop} {w' : S → va_W} (hP : va_P D vwCl ws H) (hD : va_D A ws) (hS : va_S A H0 H locs) (hA : ∀ q, H0.size ≤ q → A q)
    (hr : va_Run p l e R s m args below meth c H locs cells slots mc ms (F0 m pc ls st0) rest (va_Qv post (fun u t => AW D tys (va_A ws H.size) (w' u) t) (va_A ws H.size) av) (va_A ws H.size))
    (kk : ∀ (u : S) (H1 : Heap) (locs1 : List Loc), post u → va_P D vwCl (w' u) H1 → va_D A (w' u) → va_S A H0 H1 locs1 → W p l e R s m args below meth c H1 locs1 (cells + mc) (slots + ms) Q (F0 m (pc + 3) ls rest)) : W p l e R s m args below meth c H locs cells slots Q (F0 m pc ls st0) :=
  va_callv hr hS (fun q _ h => A_in hD hS hA q h) (A_in hD hS hA) (fun u t H1 locs1 ht hvm hw hB hz1 hk1 hS1 => kk u H1 locs1 hw (by rw [← ht]; exact hB.1) (hB.2.2.weaken (fun _ _ _ h => A_in hD hS hA _ h)) hS1)
theorem b_calli {S : Type} {post : Int32 → S → Prop} {w' : S → va_W} (hP : va_P D vwCl ws H) (hD : va_D A ws) (hS : va_S A H0 H locs) (hA : ∀ q, H0.size ≤ q → A q)
    (hr : va_Run p l e R s m args below meth c H locs cells slots mc ms (F0 m pc ls st0) rest (va_Qi post (fun u t => AW D tys (va_A ws H.size) (w' u) t) (va_A ws H.size) av) (va_A ws H.size))
    (kk : ∀ (r : Int32) (u : S) (H1 : Heap) (locs1 : List Loc), post r u → va_P D vwCl (w' u) H1 → va_D A (w' u) → va_S A H0 H1 locs1 → W p l e R s m args below meth c H1 locs1 (cells + mc) (slots + ms) Q (F0 m (pc + 3) ls (.int r :: rest))) : W p l e R s m args below meth c H locs cells slots Q (F0 m pc ls st0) :=
  va_calli hr hS (fun q _ h => A_in hD hS hA q h) (A_in hD hS hA) (fun r u t H1 locs1 ht hvm hw hB hz1 hk1 hS1 => kk r u H1 locs1 hw (by rw [← ht]; exact hB.1) (hB.2.2.weaken (fun _ _ _ h => A_in hD hS hA _ h)) hS1)
theorem b_calll {S : Type} {post : Int64 → S → Prop} {w' : S → va_W} (hP : va_P D vwCl ws H) (hD : va_D A ws) (hS : va_S A H0 H locs) (hA : ∀ q, H0.size ≤ q → A q)
    (hr : va_Run p l e R s m args below meth c H locs cells slots mc ms (F0 m pc ls st0) rest (va_Ql post (fun u t => AW D tys (va_A ws H.size) (w' u) t) (va_A ws H.size) av) (va_A ws H.size))
    (kk : ∀ (r : Int64) (u : S) (H1 : Heap) (locs1 : List Loc), post r u → va_P D vwCl (w' u) H1 → va_D A (w' u) → va_S A H0 H1 locs1 → W p l e R s m args below meth c H1 locs1 (cells + mc) (slots + ms) Q (F0 m (pc + 3) ls (.long r :: rest))) : W p l e R s m args below meth c H locs cells slots Q (F0 m pc ls st0) :=
  va_calll hr hS (fun q _ h => A_in hD hS hA q h) (A_in hD hS hA) (fun r u t H1 locs1 ht hvm hw hB hz1 hk1 hS1 => kk r u H1 locs1 hw (by rw [← ht]; exact hB.1) (hB.2.2.weaken (fun _ _ _ h => A_in hD hS hA _ h)) hS1)
theorem b_callv0 {S : Type} {post : S → Prop} {w' : S → va_W} (hP : va_P D vwCl ws H) (hD : va_D A ws) (hS : va_S A H0 H locs) (hA : ∀ q, H0.size ≤ q → A q)
    (hr : va_Run p l e R s m args below meth c H locs cells slots 0 0 (F0 m pc ls st0) rest (va_Qv post (fun u t => AW D tys (va_A ws H.size) (w' u) t) (va_A ws H.size) av) (va_A ws H.size))
    (kk : ∀ (u : S) (H1 : Heap) (locs1 : List Loc), post u → va_P D vwCl (w' u) H1 → va_D A (w' u) → va_S A H0 H1 locs1 → W p l e R s m args below meth c H1 locs1 cells slots Q (F0 m (pc + 3) ls rest)) : W p l e R s m args below meth c H locs cells slots Q (F0 m pc ls st0) := b_callv hP hD hS hA hr kk
theorem b_calli0 {S : Type} {post : Int32 → S → Prop} {w' : S → va_W} (hP : va_P D vwCl ws H) (hD : va_D A ws) (hS : va_S A H0 H locs) (hA : ∀ q, H0.size ≤ q → A q)
    (hr : va_Run p l e R s m args below meth c H locs cells slots 0 0 (F0 m pc ls st0) rest (va_Qi post (fun u t => AW D tys (va_A ws H.size) (w' u) t) (va_A ws H.size) av) (va_A ws H.size))
    (kk : ∀ (r : Int32) (u : S) (H1 : Heap) (locs1 : List Loc), post r u → va_P D vwCl (w' u) H1 → va_D A (w' u) → va_S A H0 H1 locs1 → W p l e R s m args below meth c H1 locs1 cells slots Q (F0 m (pc + 3) ls (.int r :: rest))) : W p l e R s m args below meth c H locs cells slots Q (F0 m pc ls st0) := b_calli hP hD hS hA hr kk
theorem b_calll0 {S : Type} {post : Int64 → S → Prop} {w' : S → va_W} (hP : va_P D vwCl ws H) (hD : va_D A ws) (hS : va_S A H0 H locs) (hA : ∀ q, H0.size ≤ q → A q)
    (hr : va_Run p l e R s m args below meth c H locs cells slots 0 0 (F0 m pc ls st0) rest (va_Ql post (fun u t => AW D tys (va_A ws H.size) (w' u) t) (va_A ws H.size) av) (va_A ws H.size))
    (kk : ∀ (r : Int64) (u : S) (H1 : Heap) (locs1 : List Loc), post r u → va_P D vwCl (w' u) H1 → va_D A (w' u) → va_S A H0 H1 locs1 → W p l e R s m args below meth c H1 locs1 cells slots Q (F0 m (pc + 3) ls (.long r :: rest))) : W p l e R s m args below meth c H locs cells slots Q (F0 m pc ls st0) := b_calll hP hD hS hA hr kk
end GB
def bI (b : Bool) : Int32 := if b then 1 else 0
theorem bI0 {b : Bool} (h : bI b = 0) : ¬ b = true := by cases b <;> simp_all [bI]
theorem bI1 {b : Bool} (h : ¬ bI b = 0) : b = true := by cases b <;> simp_all [bI]
theorem bI1' {b : Bool} (h : bI b = 1) : b = true := by cases b <;> simp_all [bI]
theorem bIn (b : Bool) : narrow .boolean (.int (bI b)) = .int (bI b) := by cases b <;> rfl
theorem bI_t {b : Bool} (h : b = true) : (1 : Int32) = bI b := by subst h; rfl
theorem bI_f {b : Bool} (h : ¬ b = true) : (0 : Int32) = bI b := by cases b <;> simp_all [bI]
def sI (f : Nat → Int32) : Nat → Int32 | 0 => 0 | n + 1 => sI f n + f n
theorem ofWF {l : Launch} {y : MethodName} {ws ws' : List Cond} {rm : Room} {Pc : Array Value → State → Prop} {Qc : Array Value → State → Outcome → State → Prop} {mc ms : Nat} {free : Addr → Prop} {cc : ByteArray} {maxL : Nat} {ret : Option FieldType}
    (hy : plainFor y = true) (hw : ws = Cond.code y cc maxL ret :: ws')
    (body : ∀ p e s m args below meth c s₁, BodyLoose p l y (headSpec ws rm) cc maxL ret e s m args below meth c s₁ → c.maxLocals = maxL → Pc args s →
      W p l e (headSpec ws rm).room s m args below meth c s.heap [] 0 0 (MQ below Qc args s mc ms free) (entryFrame m args maxL)) : Met l y ws rm Pc Qc mc ms free := by
  refine MetFree.of_bodySF (code := cc) (maxLocals := maxL) (ret := ret) hy ?_ ?_
  · intro args s m h hn
    obtain ⟨meth, c, h1, h2, h3, h4, h5, h6, -, -⟩ := Cond.code_spec hn (atoms_spec (ws := ws) h _ (by rw [hw]; exact List.mem_cons_self))
    exact ⟨meth, c, h1, h2, h3, h4, h5, h6⟩
  · intro p e s m args below meth c s₁ B hml hP _
    have hh0 : s₁.heap = s.heap := by rw [B.state]; rfl
    obtain ⟨t, a1, o, b1, b2, b3⟩ := body p e s m args below meth c s₁ B hml hP s₁ hh0 (Stand.of_body B)
    exact ⟨t, o, a1, b1, b2, ⟨b3.1, b3.2⟩⟩
end
section
def mB (M c : Nat) : Bool := decide (M / 2 ^ c % 2 = 1)
def fdI (x y : Int32) : Int32 := if 0 ≤ (x ^^^ y) then x / y else if x / y * y = x then x / y else x / y - 1
def fdL (x y : Int64) : Int64 := if 0 ≤ (x ^^^ y) then x / y else if x / y * y = x then x / y else x / y - 1
theorem s_lc : ∀ n, n < 32 → ((nI n &&& 31).toBitVec.smod 32).toNat = n := by decide
theorem sh_and (M c : Nat) (hM : M < 2 ^ 31) (hc : c < 32) : nI M >>> (nI c &&& 31) = nI (M / 2 ^ c) := pk_shrN hM _ c (s_lc c hc)
theorem an_1 (M : Nat) (hM : M < 2 ^ 31) : nI M &&& 1 = nI (M % 2) := pk_andN (Nat.lt_trans hM (by decide)) 1 rfl
theorem dv_lt {M c : Nat} (hM : M < 2 ^ 31) : M / 2 ^ c < 2 ^ 31 := Nat.lt_of_le_of_lt (Nat.div_le_self _ _) hM
def scl (x : Int32) (b w : Int64) : Int32 := if w ≤ 0 then 0 else (fdL (x.toInt64 * b) w).toInt32
theorem ne_of_nle {w : Int64} (h : ¬ w ≤ 0) : ¬ w = 0 := fun e => h (by rw [e]; decide)
def tr (x y : Int32) : Int32 := fdI (x * y) 100
end
section
abbrev rmX3_pair : Room := ({ frames := 0, cells := 0, slots := 0, locals := 0 } : Room)
set_option maxHeartbeats 4000000 in
set_option maxRecDepth 100000 in
theorem c_X3_pair (ll : Launch) (r c : Nat)  : Met ll yX3_pair wsX3_pair rmX3_pair (va_Pc [.int (nI (r)), .int (nI (c))] (fun _ => True)) (vp_Si (fun rr => rr = nI (6 * r + c))) 0 0 (fun _ => False) := by
  refine Met.ofW (cc := cX3_pair) (maxL := 2) (ret := (some .int)) (by decide) rfl ?_
  intro pp ee ss mm ar bel mth cd s₁ B hml hv
  obtain ⟨rfl, -⟩ := hv
  have hx := B.exec
  have hb := B.bytes
  have hr := B.returns
  have hts := atoms_spec (ws := wsX3_pair) B.pre
  have hown : ss.vm.findClass RX3 = some mm.cls := findClass_of_methodNamed B.named
  have hlocks := B.notSynchronized
  have hl := lv_entry [.int (nI (r)), .int (nI (c))] (n := 2) (Nat.le_of_ble_eq_true rfl)
  rw [lg_entry_eq]
  generalize (lg_sl [.int (nI (r)), .int (nI (c))] ++ List.replicate (2 - (lg_sl [.int (nI (r)), .int (nI (c))]).length) Slot.unset).toArray = ls at hl ⊢
  have hl : lv_has ls 2 [(0, .int (nI (r))), (1, .int (nI (c)))] := hl
  refine lv_iload_n hx hb dX3_pair_0 rfl (lv_at hl 0 rfl) ?_
  refine lv_bipush (v := 6) hx hb dX3_pair_1 (by decide) ?_
  refine lv_imul hx hb dX3_pair_3 ?_
  refine b_ti (pk_mul (r) (6)) ?_
  refine lv_iload_n hx hb dX3_pair_4 rfl (lv_at hl 1 rfl) ?_
  refine lv_iadd hx hb dX3_pair_5 ?_
  refine b_ti (nI_add ((r) * (6)) (c)) ?_
  exact W.iret hx hb hr (fun t ht _ => ⟨_, rfl, (by rw [Nat.mul_comm]), ht⟩) (fun _ h => nomatch h) dX3_pair_6

abbrev rmX3_isMember : Room := ({ frames := 0, cells := 0, slots := 0, locals := 0 } : Room)
set_option maxHeartbeats 4000000 in
set_option maxRecDepth 100000 in
theorem c_X3_isMember (ll : Launch) (M c : Nat) (hM : M < 2 ^ 31) (hc : c < 32) : Met ll yX3_isMember wsX3_isMember rmX3_isMember (va_Pc [.int (nI (M)), .int (nI (c))] (fun _ => True)) (vp_Si (fun rr => rr = bI (mB M c))) 0 0 (fun _ => False) := by
  refine Met.ofW (cc := cX3_isMember) (maxL := 2) (ret := (some .boolean)) (by decide) rfl ?_
  intro pp ee ss mm ar bel mth cd s₁ B hml hv
  obtain ⟨rfl, -⟩ := hv
  have hx := B.exec
  have hb := B.bytes
  have hr := B.returns
  have hts := atoms_spec (ws := wsX3_isMember) B.pre
  have hown : ss.vm.findClass RX3 = some mm.cls := findClass_of_methodNamed B.named
  have hlocks := B.notSynchronized
  have hl := lv_entry [.int (nI (M)), .int (nI (c))] (n := 2) (Nat.le_of_ble_eq_true rfl)
  rw [lg_entry_eq]
  generalize (lg_sl [.int (nI (M)), .int (nI (c))] ++ List.replicate (2 - (lg_sl [.int (nI (M)), .int (nI (c))]).length) Slot.unset).toArray = ls at hl ⊢
  have hl : lv_has ls 2 [(0, .int (nI (M))), (1, .int (nI (c)))] := hl
  refine lv_iload_n hx hb dX3_isMember_0 rfl (lv_at hl 0 rfl) ?_
  refine lv_iload_n hx hb dX3_isMember_1 rfl (lv_at hl 1 rfl) ?_
  refine lv_ishr hx hb dX3_isMember_2 ?_
  refine b_ti (y := nI (M / 2 ^ c)) (sh_and M c hM hc) ?_
  refine lv_iconst (v := 1) hx hb dX3_isMember_3 (by decide) ?_
  refine lv_iand hx hb dX3_isMember_4 ?_
  refine b_ti (y := nI (M / 2 ^ c % 2)) (an_1 _ (dv_lt hM)) ?_
  refine lv_iconst (v := 1) hx hb dX3_isMember_5 (by decide) ?_
  refine lv_icmp_ne (tgt := 13) hx hb dX3_isMember_6 (by decide) (fun c_1 => ?_) (fun c_1 => ?_)
  · have n_1 : ¬ ((M / 2 ^ c % 2) = (1)) := fun h => c_1 ((nI_eq (a := M / 2 ^ c % 2) (b := 1) (by omega) (by omega)).mpr h)
    refine lv_iconst (v := 0) hx hb dX3_isMember_13 (by decide) ?_
    exact W.zret hx hb hr ((by decide)) (fun t ht _ => ⟨_, rfl, (by simp only [mB, n_1, decide_true, decide_false, bI]; rfl), ht⟩) (fun _ h => nomatch h) dX3_isMember_14
  · have n_1 : (M / 2 ^ c % 2) = (1) := (nI_eq (a := M / 2 ^ c % 2) (b := 1) (by omega) (by omega)).mp c_1
    refine lv_iconst (v := 1) hx hb dX3_isMember_9 (by decide) ?_
    refine lv_goto (tgt := 14) hx hb dX3_isMember_10 (by decide) ?_
    exact W.zret hx hb hr ((by decide)) (fun t ht _ => ⟨_, rfl, (by simp only [mB, n_1, decide_true, decide_false, bI]; rfl), ht⟩) (fun _ h => nomatch h) dX3_isMember_14

abbrev rmJ9_floorDiv_7cf53 : Room := ({ frames := 0, cells := 0, slots := 0, locals := 0 } : Room)
set_option maxHeartbeats 4000000 in
set_option maxRecDepth 100000 in
theorem c_J9_floorDiv_7cf53 (ll : Launch) (x y : Int32) (hy : ¬ y = 0) : Met ll yJ9_floorDiv_7cf53 wsJ9_floorDiv_7cf53 rmJ9_floorDiv_7cf53 (va_Pc [.int (x), .int (y)] (fun _ => True)) (vp_Si (fun rr => rr = fdI x y)) 0 0 (fun _ => False) := by
  refine ofWF (cc := cJ9_floorDiv_7cf53) (maxL := 3) (ret := (some .int)) (by decide +kernel) rfl ?_
  intro pp ee ss mm ar bel mth cd s₁ B hml hv
  obtain ⟨rfl, -⟩ := hv
  have hx := B.exec
  have hb := B.bytes
  have hr := B.returns
  have hts := atoms_spec (ws := wsJ9_floorDiv_7cf53) B.pre
  have hown : ss.vm.findClass RJ9 = some mm.cls := findClass_of_methodNamed B.named
  have hlocks := B.notSynchronized
  have hl := lv_entry [.int (x), .int (y)] (n := 3) (Nat.le_of_ble_eq_true rfl)
  rw [lg_entry_eq]
  generalize (lg_sl [.int (x), .int (y)] ++ List.replicate (3 - (lg_sl [.int (x), .int (y)]).length) Slot.unset).toArray = ls at hl ⊢
  have hl : lv_has ls 3 [(0, .int (x)), (1, .int (y))] := hl
  refine lv_iload_n hx hb dJ9_floorDiv_7cf53_0 rfl (lv_at hl 0 rfl) ?_
  refine lv_iload_n hx hb dJ9_floorDiv_7cf53_1 rfl (lv_at hl 1 rfl) ?_
  refine lv_idiv hx hb dJ9_floorDiv_7cf53_2 hy ?_
  refine lv_istore_n (lv' := [(2, .int ((x) / (y))), (0, .int (x)), (1, .int (y))]) hx hb dJ9_floorDiv_7cf53_3 rfl hl (by decide) rfl (fun ls hl => ?_)
  refine lv_iload_n hx hb dJ9_floorDiv_7cf53_4 rfl (lv_at hl 1 rfl) ?_
  refine lv_iload_n hx hb dJ9_floorDiv_7cf53_5 rfl (lv_at hl 2 rfl) ?_
  refine lv_ixor hx hb dJ9_floorDiv_7cf53_6 ?_
  refine lv_if_ge (tgt := 21) hx hb dJ9_floorDiv_7cf53_7 (by decide) (fun c_1 => ?_) (fun c_1 => ?_)
  · have n_1 := c_1
    refine lv_iload_n hx hb dJ9_floorDiv_7cf53_21 rfl (lv_at hl 0 rfl) ?_
    exact W.iret hx hb hr (fun t ht _ => ⟨_, rfl, (by simp only [fdI, n_1, ↓reduceIte]), ht⟩) (fun _ h => nomatch h) dJ9_floorDiv_7cf53_22
  · have n_1 := c_1
    refine lv_iload_n hx hb dJ9_floorDiv_7cf53_10 rfl (lv_at hl 0 rfl) ?_
    refine lv_iload_n hx hb dJ9_floorDiv_7cf53_11 rfl (lv_at hl 2 rfl) ?_
    refine lv_imul hx hb dJ9_floorDiv_7cf53_12 ?_
    refine lv_iload_n hx hb dJ9_floorDiv_7cf53_13 rfl (lv_at hl 1 rfl) ?_
    refine lv_icmp_eq (tgt := 21) hx hb dJ9_floorDiv_7cf53_14 (by decide) (fun c_2 => ?_) (fun c_2 => ?_)
    · have n_2 := c_2
      refine lv_iload_n hx hb dJ9_floorDiv_7cf53_21 rfl (lv_at hl 0 rfl) ?_
      exact W.iret hx hb hr (fun t ht _ => ⟨_, rfl, (by simp only [fdI, n_1, n_2, ↓reduceIte]), ht⟩) (fun _ h => nomatch h) dJ9_floorDiv_7cf53_22
    · have n_2 := c_2
      refine lv_iload_n hx hb dJ9_floorDiv_7cf53_17 rfl (lv_at hl 0 rfl) ?_
      refine lv_iconst (v := 1) hx hb dJ9_floorDiv_7cf53_18 (by decide) ?_
      refine lv_isub hx hb dJ9_floorDiv_7cf53_19 ?_
      exact W.iret hx hb hr (fun t ht _ => ⟨_, rfl, (by simp only [fdI, n_1, n_2, ↓reduceIte]), ht⟩) (fun _ h => nomatch h) dJ9_floorDiv_7cf53_20

abbrev rmJ9_floorDiv_f86c9 : Room := ({ frames := 0, cells := 0, slots := 0, locals := 0 } : Room)
set_option maxHeartbeats 4000000 in
set_option maxRecDepth 100000 in
theorem c_J9_floorDiv_f86c9 (ll : Launch) (x y : Int64) (hy : ¬ y = 0) : Met ll yJ9_floorDiv_f86c9 wsJ9_floorDiv_f86c9 rmJ9_floorDiv_f86c9 (va_Pc [.long (x), .long (y)] (fun _ => True)) (vp_Sl (fun rr => rr = fdL x y)) 0 0 (fun _ => False) := by
  refine ofWF (cc := cJ9_floorDiv_f86c9) (maxL := 6) (ret := (some .long)) (by decide +kernel) rfl ?_
  intro pp ee ss mm ar bel mth cd s₁ B hml hv
  obtain ⟨rfl, -⟩ := hv
  have hx := B.exec
  have hb := B.bytes
  have hr := B.returns
  have hts := atoms_spec (ws := wsJ9_floorDiv_f86c9) B.pre
  have hown : ss.vm.findClass RJ9 = some mm.cls := findClass_of_methodNamed B.named
  have hlocks := B.notSynchronized
  have hl := lv_entry [.long (x), .long (y)] (n := 6) (Nat.le_of_ble_eq_true rfl)
  rw [lg_entry_eq]
  generalize (lg_sl [.long (x), .long (y)] ++ List.replicate (6 - (lg_sl [.long (x), .long (y)]).length) Slot.unset).toArray = ls at hl ⊢
  have hl : lv_has ls 6 [(0, .long (x)), (2, .long (y))] := hl
  refine lv_lload_n hx hb dJ9_floorDiv_f86c9_0 rfl (lv_at hl 0 rfl) ?_
  refine lv_lload_n hx hb dJ9_floorDiv_f86c9_1 rfl (lv_at hl 1 rfl) ?_
  refine lv_ldiv hx hb dJ9_floorDiv_f86c9_2 hy ?_
  refine lv_lstore (lv' := [(4, .long ((x) / (y))), (0, .long (x)), (2, .long (y))]) hx hb dJ9_floorDiv_f86c9_3 hl (by decide) rfl (fun ls hl => ?_)
  refine lv_lload_n hx hb dJ9_floorDiv_f86c9_5 rfl (lv_at hl 1 rfl) ?_
  refine lv_lload_n hx hb dJ9_floorDiv_f86c9_6 rfl (lv_at hl 2 rfl) ?_
  refine lv_lxor hx hb dJ9_floorDiv_f86c9_7 ?_
  refine lv_lconst (v := 0) hx hb dJ9_floorDiv_f86c9_8 (by decide) ?_
  refine W.lcmp hx hb dJ9_floorDiv_f86c9_9 ?_
  refine lv_if_ge (tgt := 27) hx hb dJ9_floorDiv_f86c9_10 (by decide) (fun c_1 => ?_) (fun c_1 => ?_)
  · have n_1 : 0 ≤ (x) ^^^ (y) := (lg_cmp_ge _ _).mp c_1
    refine lv_lload hx hb dJ9_floorDiv_f86c9_27 (lv_at hl 0 rfl) ?_
    exact W.lret hx hb hr (fun t ht _ => ⟨_, rfl, (by simp only [fdL, n_1, ↓reduceIte]), ht⟩) (fun _ h => nomatch h) dJ9_floorDiv_f86c9_29
  · have n_1 : ¬ (0 ≤ (x) ^^^ (y)) := fun h => c_1 ((lg_cmp_ge _ _).mpr h)
    refine lv_lload hx hb dJ9_floorDiv_f86c9_13 (lv_at hl 0 rfl) ?_
    refine lv_lload_n hx hb dJ9_floorDiv_f86c9_15 rfl (lv_at hl 2 rfl) ?_
    refine lv_lmul hx hb dJ9_floorDiv_f86c9_16 ?_
    refine lv_lload_n hx hb dJ9_floorDiv_f86c9_17 rfl (lv_at hl 1 rfl) ?_
    refine W.lcmp hx hb dJ9_floorDiv_f86c9_18 ?_
    refine lv_if_eq (tgt := 27) hx hb dJ9_floorDiv_f86c9_19 (by decide) (fun c_2 => ?_) (fun c_2 => ?_)
    · have n_2 : ((x) / (y)) * (y) = x := (lg_cmp_eq _ _).mp c_2
      refine lv_lload hx hb dJ9_floorDiv_f86c9_27 (lv_at hl 0 rfl) ?_
      exact W.lret hx hb hr (fun t ht _ => ⟨_, rfl, (by simp only [fdL, n_1, n_2, ↓reduceIte]), ht⟩) (fun _ h => nomatch h) dJ9_floorDiv_f86c9_29
    · have n_2 : ¬ (((x) / (y)) * (y) = x) := fun h => c_2 ((lg_cmp_eq _ _).mpr h)
      refine lv_lload hx hb dJ9_floorDiv_f86c9_22 (lv_at hl 0 rfl) ?_
      refine lv_lconst (v := 1) hx hb dJ9_floorDiv_f86c9_24 (by decide) ?_
      refine lv_lsub hx hb dJ9_floorDiv_f86c9_25 ?_
      exact W.lret hx hb hr (fun t ht _ => ⟨_, rfl, (by simp only [fdL, n_1, n_2, ↓reduceIte]), ht⟩) (fun _ h => nomatch h) dJ9_floorDiv_f86c9_26

abbrev rmX2_scale : Room := ({ frames := 1, cells := 0, slots := 0, locals := 25 } : Room)
set_option maxHeartbeats 4000000 in
set_option maxRecDepth 100000 in
theorem c_X2_scale (ll : Launch) (x : Int32) (b w : Int64)  : Met ll yX2_scale wsX2_scale rmX2_scale (va_Pc [.int (x), .long (b), .long (w)] (fun _ => True)) (vp_Si (fun rr => rr = scl x b w)) 0 0 (fun _ => False) := by
  refine Met.ofW (cc := cX2_scale) (maxL := 5) (ret := (some .int)) (by decide) rfl ?_
  intro pp ee ss mm ar bel mth cd s₁ B hml hv
  obtain ⟨rfl, -⟩ := hv
  have hx := B.exec
  have hb := B.bytes
  have hr := B.returns
  have hts := atoms_spec (ws := wsX2_scale) B.pre
  have hown : ss.vm.findClass RX2 = some mm.cls := findClass_of_methodNamed B.named
  have hlocks := B.notSynchronized
  have hl := lv_entry [.int (x), .long (b), .long (w)] (n := 5) (Nat.le_of_ble_eq_true rfl)
  rw [lg_entry_eq]
  generalize (lg_sl [.int (x), .long (b), .long (w)] ++ List.replicate (5 - (lg_sl [.int (x), .long (b), .long (w)]).length) Slot.unset).toArray = ls at hl ⊢
  have hl : lv_has ls 5 [(0, .int (x)), (1, .long (b)), (3, .long (w))] := hl
  refine lv_lload_n hx hb dX2_scale_0 rfl (lv_at hl 2 rfl) ?_
  refine lv_lconst (v := 0) hx hb dX2_scale_1 (by decide) ?_
  refine W.lcmp hx hb dX2_scale_2 ?_
  refine lv_if_le (tgt := 18) hx hb dX2_scale_3 (by decide) (fun c_1 => ?_) (fun c_1 => ?_)
  · have n_1 : w ≤ 0 := (lg_cmp_le _ _).mp c_1
    refine lv_iconst (v := 0) hx hb dX2_scale_18 (by decide) ?_
    exact W.iret hx hb hr (fun t ht _ => ⟨_, rfl, (by simp only [scl, n_1, ↓reduceIte]), ht⟩) (fun _ h => nomatch h) dX2_scale_19
  · have n_1 : ¬ (w ≤ 0) := fun h => c_1 ((lg_cmp_le _ _).mpr h)
    refine lv_iload_n hx hb dX2_scale_6 rfl (lv_at hl 0 rfl) ?_
    refine lv_i2l (v := (x).toInt64) hx hb dX2_scale_7 rfl ?_
    refine lv_lload_n hx hb dX2_scale_8 rfl (lv_at hl 1 rfl) ?_
    refine lv_lmul hx hb dX2_scale_9 ?_
    refine lv_lload_n hx hb dX2_scale_10 rfl (lv_at hl 2 rfl) ?_
    refine b_csl (v := fdL (((x).toInt64) * (b)) w) (W.runS (As := [.long (((x).toInt64) * (b)), .long (w)]) (rest := []) ⟨hx, hb, hml, hown, hts⟩ (c_J9_floorDiv_f86c9 ll (((x).toInt64) * (b)) w (ne_of_nle n_1)) (va_cwS 2 hts gX2_scale_J9_floorDiv_f86c9 rfl rfl rfl (by decide +kernel) ⟨Nat.le_of_ble_eq_true rfl, Nat.le_of_ble_eq_true rfl⟩) ⟨PT.blind, PT.to⟩ rfl rfl hl.1 rfl (lv_room (Nat.le_of_ble_eq_true rfl)) dX2_scale_11 ⟨Nat.le_of_ble_eq_true rfl, Nat.le_of_ble_eq_true rfl⟩) ?_
    refine lv_l2i (v := (fdL (((x).toInt64) * (b)) w).toInt32) hx hb dX2_scale_14 rfl ?_
    refine lv_goto (tgt := 19) hx hb dX2_scale_15 (by decide) ?_
    exact W.iret hx hb hr (fun t ht _ => ⟨_, rfl, (by simp only [scl, n_1, ↓reduceIte]), ht⟩) (fun _ h => nomatch h) dX2_scale_19

abbrev rmX1_translate : Room := ({ frames := 1, cells := 0, slots := 0, locals := 22 } : Room)
set_option maxHeartbeats 4000000 in
set_option maxRecDepth 100000 in
theorem c_X1_translate (ll : Launch) (x y : Int32)  : Met ll yX1_translate wsX1_translate rmX1_translate (va_Pc [.int (x), .int (y)] (fun _ => True)) (vp_Si (fun rr => rr = tr x y)) 0 0 (fun _ => False) := by
  refine Met.ofW (cc := cX1_translate) (maxL := 2) (ret := (some .int)) (by decide) rfl ?_
  intro pp ee ss mm ar bel mth cd s₁ B hml hv
  obtain ⟨rfl, -⟩ := hv
  have hx := B.exec
  have hb := B.bytes
  have hr := B.returns
  have hts := atoms_spec (ws := wsX1_translate) B.pre
  have hown : ss.vm.findClass RX1 = some mm.cls := findClass_of_methodNamed B.named
  have hlocks := B.notSynchronized
  have hl := lv_entry [.int (x), .int (y)] (n := 2) (Nat.le_of_ble_eq_true rfl)
  rw [lg_entry_eq]
  generalize (lg_sl [.int (x), .int (y)] ++ List.replicate (2 - (lg_sl [.int (x), .int (y)]).length) Slot.unset).toArray = ls at hl ⊢
  have hl : lv_has ls 2 [(0, .int (x)), (1, .int (y))] := hl
  refine lv_iload_n hx hb dX1_translate_0 rfl (lv_at hl 0 rfl) ?_
  refine lv_iload_n hx hb dX1_translate_1 rfl (lv_at hl 1 rfl) ?_
  refine lv_imul hx hb dX1_translate_2 ?_
  refine lv_bipush (v := 100) hx hb dX1_translate_3 (by decide) ?_
  refine b_csi (v := fdI ((x) * (y)) 100) (W.runS (As := [.int ((x) * (y)), .int (100)]) (rest := []) ⟨hx, hb, hml, hown, hts⟩ (c_J9_floorDiv_7cf53 ll ((x) * (y)) 100 (by decide)) (va_cwS 2 hts gX1_translate_J9_floorDiv_7cf53 rfl rfl rfl (by decide +kernel) ⟨Nat.le_of_ble_eq_true rfl, Nat.le_of_ble_eq_true rfl⟩) ⟨PT.blind, PT.to⟩ rfl rfl hl.1 rfl (lv_room (Nat.le_of_ble_eq_true rfl)) dX1_translate_5 ⟨Nat.le_of_ble_eq_true rfl, Nat.le_of_ble_eq_true rfl⟩) ?_
  exact W.iret hx hb hr (fun t ht _ => ⟨_, rfl, rfl, ht⟩) (fun _ h => nomatch h) dX1_translate_8
end
section
theorem or_n (a b : Nat) : nI a ||| nI b = nI (a ||| b) := by
  apply Int32.toBitVec_inj.mp
  rw [Int32.toBitVec_or]
  show BitVec.ofNat 32 a ||| BitVec.ofNat 32 b = BitVec.ofNat 32 (a ||| b)
  apply BitVec.eq_of_getLsbD_eq
  intro i hi
  simp [Nat.testBit_or, hi]
theorem sh_1 (c : Nat) (hc : c < 31) : (1 : Int32) <<< (nI c &&& 31) = nI (2 ^ c) := by
  have h := pk_shlN (n := 1) (nI c &&& 31) c (s_lc c (Nat.lt_trans hc (by decide))) (by
    rw [Nat.one_mul]
    exact Nat.lt_trans (Nat.pow_lt_pow_right (by decide) hc) (by decide))
  rw [Nat.one_mul] at h
  exact h
def hA (p : Nat → Int32) (M c : Nat) : Nat → Int32 | 0 => 0 | k + 1 => if mB M k = true then hA p M c k + p (6 * k + c) else hA p M c k
def wc (p : Nat → Int32) (M : Nat) : Nat → Nat | 0 => M | k + 1 => if hA p M (k + 1) 6 ≤ 50 then wc p M k else wc p M k ||| 2 ^ (k + 1)
def mem (p : Nat → Int32) : Nat → Nat | 0 => 1 | j + 1 => wc p (mem p j) 5
theorem wc_lt (p : Nat → Int32) {M : Nat} (hM : M < 64) : ∀ k, k ≤ 5 → wc p M k < 64
  | 0, _ => hM
  | k + 1, h => by
    have ih := wc_lt p hM k (by omega)
    rw [wc]
    split
    · exact ih
    · exact Nat.or_lt_two_pow (n := 6) ih (Nat.pow_lt_pow_right (by decide) (by omega))
theorem mem_lt (p : Nat → Int32) : ∀ j, mem p j < 64
  | 0 => (by decide : 1 < 64)
  | j + 1 => wc_lt p (mem_lt p j) 5 (Nat.le_refl 5)
theorem lt31 {M : Nat} (h : M < 64) : M < 2 ^ 31 := Nat.lt_trans h (by decide)
def agI (cl ad : Nat → Int32) (M i : Nat) (s : Int32) : Nat → Int32
  | 0 => s
  | j + 1 => if mB M i = true then (if mB M j = true then agI cl ad M i s j + (if ad (6 * i + j) < cl (6 * i + j) then ad (6 * i + j) else cl (6 * i + j)) else agI cl ad M i s j) else agI cl ad M i s j
def agO (cl ad : Nat → Int32) (M : Nat) : Nat → Int32 | 0 => 0 | i + 1 => agI cl ad M i (agO cl ad M i) 6
def cP (oP : Nat → Int32) : Nat → Nat → Int32 | 0 => oP | k + 1 => upd (cP oP k) k 0
def cE (oE oP : Nat → Int32) : Nat → Nat → Int32 | 0 => oE | k + 1 => upd (cE oE oP k) k (cE oE oP k k + cP oP k k)
end
section
abbrev rmX2_percentOf : Room := ({ frames := 1, cells := 0, slots := 0, locals := 21 } : Room)
set_option maxHeartbeats 4000000 in
set_option maxRecDepth 100000 in
theorem c_X2_percentOf (ll : Launch) (D : va_G) (a : Nat → Nat) (cI cJ : ClassId) (p : Nat → Int32) (nu de eq : Nat → Int64) (am nx oA oD oE oP cR aR hR cl ad gw pr : Nat → Int32) (n : Int32) (o c : Nat) (ho : o < 6) (hc : c < 6) : Met ll yX2_percentOf wsX2_percentOf rmX2_percentOf (va_Pc [.ref (a 1), .int (nI (o)), .int (nI (c))] (PR D (tyG cI cJ) (GW a cI cJ p nu de eq am nx oA oD oE oP cR aR hR cl ad gw pr n))) (vp_Si (fun rr => rr = p (6 * o + c))) 0 0 (fun _ => False) := by
  refine Met.ofW (cc := cX2_percentOf) (maxL := 3) (ret := (some .int)) (by decide) rfl ?_
  intro pp ee ss mm ar bel mth cd s₁ B hml hv
  obtain ⟨rfl, hP, hK, hE⟩ := hv
  have hx := B.exec
  have hb := B.bytes
  have hr := B.returns
  have hts := atoms_spec (ws := wsX2_percentOf) B.pre
  have hown : ss.vm.findClass RX2 = some mm.cls := findClass_of_methodNamed B.named
  have hlocks := B.notSynchronized
  have hin : ∀ w ∈ wsX20, w.before ([.ref (a 1), .int (nI (o)), .int (nI (c))] : List Value).toArray ss = true := fun w h => hts w ((by decide +kernel : ∀ w ∈ wsX20, w ∈ wsX2_percentOf) w h)
  have hl := lv_entry [.ref (a 1), .int (nI (o)), .int (nI (c))] (n := 3) (Nat.le_of_ble_eq_true rfl)
  rw [lg_entry_eq]
  generalize (lg_sl [.ref (a 1), .int (nI (o)), .int (nI (c))] ++ List.replicate (3 - (lg_sl [.ref (a 1), .int (nI (o)), .int (nI (c))]).length) Slot.unset).toArray = ls at hl ⊢
  have hl : lv_has ls 3 [(0, .ref (a 1)), (1, .int (nI (o))), (2, .int (nI (c)))] := hl
  refine lv_aload_n hx hb dX2_percentOf_0 rfl (lv_at hl 0 rfl) ?_
  refine va_get (D := D) (ci := 2) (v := .ref (a 6)) (C := RX2) (T := TX2) (N := 6) (Ts := wsX20) hx hb hin (fun _ h9 => h9) hown hK hP 1 rfl rfl 0 (by decide) (hts (.fieldLink RX2 9 "Groupbooks$Holdings" "percents" "[I") (by decide +kernel)) (fun _ h9 => h9) rfl dX2_percentOf_1 ?_
  refine lv_iload_n hx hb dX2_percentOf_4 rfl (lv_at hl 1 rfl) ?_
  refine lv_iload_n hx hb dX2_percentOf_5 rfl (lv_at hl 2 rfl) ?_
  refine b_csi (v := nI (6 * o + c)) ((va_runSN (As := [.int (nI (o)), .int (nI (c))]) (rest := [.ref (a 6)]) ⟨hx, hb, hml, hown, hts⟩ (c_X3_pair ll o c ) ⟨va_cnB 2 hts gX2_percentOf_X3_pair_n31 rfl rfl rfl (hE.nest 5 rfl) (hts (.initialized RX3) (by decide +kernel)) (by decide +kernel) ⟨Nat.le_of_ble_eq_true rfl, Nat.le_of_ble_eq_true rfl⟩, hts (.static yX3_pair) (by decide +kernel), trivial⟩ ⟨PT.blind, PT.to⟩ rfl rfl hl.1 rfl (lv_room (Nat.le_of_ble_eq_true rfl)) dX2_percentOf_6 ⟨Nat.le_of_ble_eq_true rfl, Nat.le_of_ble_eq_true rfl⟩).run) ?_
  refine b_iald hx hb hK hP 6 0 (f := p) rfl rfl (j := 6 * o + c) (by omega) (by decide) dX2_percentOf_9 ?_
  exact W.iret hx hb hr (fun t ht _ => ⟨_, rfl, rfl, ht⟩) (fun _ h => nomatch h) dX2_percentOf_10

abbrev rmX2_numeratorOf : Room := ({ frames := 0, cells := 0, slots := 0, locals := 0 } : Room)
set_option maxHeartbeats 4000000 in
set_option maxRecDepth 100000 in
theorem c_X2_numeratorOf (ll : Launch) (D : va_G) (a : Nat → Nat) (cI cJ : ClassId) (p : Nat → Int32) (nu de eq : Nat → Int64) (am nx oA oD oE oP cR aR hR cl ad gw pr : Nat → Int32) (n : Int32) (c : Nat) (hc : c < 6) : Met ll yX2_numeratorOf wsX2_numeratorOf rmX2_numeratorOf (va_Pc [.ref (a 1), .int (nI (c))] (PR D (tyG cI cJ) (GW a cI cJ p nu de eq am nx oA oD oE oP cR aR hR cl ad gw pr n))) (vp_Sl (fun rr => rr = nu (c))) 0 0 (fun _ => False) := by
  refine Met.ofW (cc := cX2_numeratorOf) (maxL := 2) (ret := (some .long)) (by decide) rfl ?_
  intro pp ee ss mm ar bel mth cd s₁ B hml hv
  obtain ⟨rfl, hP, hK, hE⟩ := hv
  have hx := B.exec
  have hb := B.bytes
  have hr := B.returns
  have hts := atoms_spec (ws := wsX2_numeratorOf) B.pre
  have hown : ss.vm.findClass RX2 = some mm.cls := findClass_of_methodNamed B.named
  have hlocks := B.notSynchronized
  have hin : ∀ w ∈ wsX20, w.before ([.ref (a 1), .int (nI (c))] : List Value).toArray ss = true := fun w h => hts w ((by decide +kernel : ∀ w ∈ wsX20, w ∈ wsX2_numeratorOf) w h)
  have hl := lv_entry [.ref (a 1), .int (nI (c))] (n := 2) (Nat.le_of_ble_eq_true rfl)
  rw [lg_entry_eq]
  generalize (lg_sl [.ref (a 1), .int (nI (c))] ++ List.replicate (2 - (lg_sl [.ref (a 1), .int (nI (c))]).length) Slot.unset).toArray = ls at hl ⊢
  have hl : lv_has ls 2 [(0, .ref (a 1)), (1, .int (nI (c)))] := hl
  refine lv_aload_n hx hb dX2_numeratorOf_0 rfl (lv_at hl 0 rfl) ?_
  refine va_get (D := D) (ci := 2) (v := .ref (a 7)) (C := RX2) (T := TX2) (N := 6) (Ts := wsX20) hx hb hin (fun _ h9 => h9) hown hK hP 1 rfl rfl 1 (by decide) (hts (.fieldLink RX2 15 "Groupbooks$Holdings" "numerators" "[J") (by decide +kernel)) (fun _ h9 => h9) rfl dX2_numeratorOf_1 ?_
  refine lv_iload_n hx hb dX2_numeratorOf_4 rfl (lv_at hl 1 rfl) ?_
  refine b_lald hx hb hK hP 7 1 (f := nu) rfl rfl (j := c) (by omega) (by decide) dX2_numeratorOf_5 ?_
  exact W.lret hx hb hr (fun t ht _ => ⟨_, rfl, rfl, ht⟩) (fun _ h => nomatch h) dX2_numeratorOf_6

abbrev rmX2_denominatorOf : Room := ({ frames := 0, cells := 0, slots := 0, locals := 0 } : Room)
set_option maxHeartbeats 4000000 in
set_option maxRecDepth 100000 in
theorem c_X2_denominatorOf (ll : Launch) (D : va_G) (a : Nat → Nat) (cI cJ : ClassId) (p : Nat → Int32) (nu de eq : Nat → Int64) (am nx oA oD oE oP cR aR hR cl ad gw pr : Nat → Int32) (n : Int32) (c : Nat) (hc : c < 6) : Met ll yX2_denominatorOf wsX2_denominatorOf rmX2_denominatorOf (va_Pc [.ref (a 1), .int (nI (c))] (PR D (tyG cI cJ) (GW a cI cJ p nu de eq am nx oA oD oE oP cR aR hR cl ad gw pr n))) (vp_Sl (fun rr => rr = de (c))) 0 0 (fun _ => False) := by
  refine Met.ofW (cc := cX2_denominatorOf) (maxL := 2) (ret := (some .long)) (by decide) rfl ?_
  intro pp ee ss mm ar bel mth cd s₁ B hml hv
  obtain ⟨rfl, hP, hK, hE⟩ := hv
  have hx := B.exec
  have hb := B.bytes
  have hr := B.returns
  have hts := atoms_spec (ws := wsX2_denominatorOf) B.pre
  have hown : ss.vm.findClass RX2 = some mm.cls := findClass_of_methodNamed B.named
  have hlocks := B.notSynchronized
  have hin : ∀ w ∈ wsX20, w.before ([.ref (a 1), .int (nI (c))] : List Value).toArray ss = true := fun w h => hts w ((by decide +kernel : ∀ w ∈ wsX20, w ∈ wsX2_denominatorOf) w h)
  have hl := lv_entry [.ref (a 1), .int (nI (c))] (n := 2) (Nat.le_of_ble_eq_true rfl)
  rw [lg_entry_eq]
  generalize (lg_sl [.ref (a 1), .int (nI (c))] ++ List.replicate (2 - (lg_sl [.ref (a 1), .int (nI (c))]).length) Slot.unset).toArray = ls at hl ⊢
  have hl : lv_has ls 2 [(0, .ref (a 1)), (1, .int (nI (c)))] := hl
  refine lv_aload_n hx hb dX2_denominatorOf_0 rfl (lv_at hl 0 rfl) ?_
  refine va_get (D := D) (ci := 2) (v := .ref (a 8)) (C := RX2) (T := TX2) (N := 6) (Ts := wsX20) hx hb hin (fun _ h9 => h9) hown hK hP 1 rfl rfl 2 (by decide) (hts (.fieldLink RX2 19 "Groupbooks$Holdings" "denominators" "[J") (by decide +kernel)) (fun _ h9 => h9) rfl dX2_denominatorOf_1 ?_
  refine lv_iload_n hx hb dX2_denominatorOf_4 rfl (lv_at hl 1 rfl) ?_
  refine b_lald hx hb hK hP 8 1 (f := de) rfl rfl (j := c) (by omega) (by decide) dX2_denominatorOf_5 ?_
  exact W.lret hx hb hr (fun t ht _ => ⟨_, rfl, rfl, ht⟩) (fun _ h => nomatch h) dX2_denominatorOf_6

abbrev rmX2_partOfParent : Room := ({ frames := 2, cells := 0, slots := 0, locals := 49 } : Room)
set_option maxHeartbeats 4000000 in
set_option maxRecDepth 100000 in
theorem c_X2_partOfParent (ll : Launch) (D : va_G) (a : Nat → Nat) (cI cJ : ClassId) (p : Nat → Int32) (nu de eq : Nat → Int64) (am nx oA oD oE oP cR aR hR cl ad gw pr : Nat → Int32) (n : Int32) (c : Nat) (x : Int32) (hc : c < 6) : Met ll yX2_partOfParent wsX2_partOfParent rmX2_partOfParent (va_Pc [.ref (a 1), .int (nI (c)), .int (x)] (PR D (tyG cI cJ) (GW a cI cJ p nu de eq am nx oA oD oE oP cR aR hR cl ad gw pr n))) (vp_Si (fun rr => rr = scl x (nu c) (de c))) 0 0 (fun _ => False) := by
  refine Met.ofW (cc := cX2_partOfParent) (maxL := 3) (ret := (some .int)) (by decide) rfl ?_
  intro pp ee ss mm ar bel mth cd s₁ B hml hv
  obtain ⟨rfl, hP, hK, hE⟩ := hv
  have hx := B.exec
  have hb := B.bytes
  have hr := B.returns
  have hts := atoms_spec (ws := wsX2_partOfParent) B.pre
  have hown : ss.vm.findClass RX2 = some mm.cls := findClass_of_methodNamed B.named
  have hlocks := B.notSynchronized
  have hin : ∀ w ∈ wsX20, w.before ([.ref (a 1), .int (nI (c)), .int (x)] : List Value).toArray ss = true := fun w h => hts w ((by decide +kernel : ∀ w ∈ wsX20, w ∈ wsX2_partOfParent) w h)
  have hl := lv_entry [.ref (a 1), .int (nI (c)), .int (x)] (n := 3) (Nat.le_of_ble_eq_true rfl)
  rw [lg_entry_eq]
  generalize (lg_sl [.ref (a 1), .int (nI (c)), .int (x)] ++ List.replicate (3 - (lg_sl [.ref (a 1), .int (nI (c)), .int (x)]).length) Slot.unset).toArray = ls at hl ⊢
  have hl : lv_has ls 3 [(0, .ref (a 1)), (1, .int (nI (c))), (2, .int (x))] := hl
  refine lv_iload_n hx hb dX2_partOfParent_0 rfl (lv_at hl 2 rfl) ?_
  refine lv_aload_n hx hb dX2_partOfParent_1 rfl (lv_at hl 0 rfl) ?_
  refine va_get (D := D) (ci := 2) (v := .ref (a 7)) (C := RX2) (T := TX2) (N := 6) (Ts := wsX20) hx hb hin (fun _ h9 => h9) hown hK hP 1 rfl rfl 1 (by decide) (hts (.fieldLink RX2 15 "Groupbooks$Holdings" "numerators" "[J") (by decide +kernel)) (fun _ h9 => h9) rfl dX2_partOfParent_2 ?_
  refine lv_iload_n hx hb dX2_partOfParent_5 rfl (lv_at hl 1 rfl) ?_
  refine b_lald hx hb hK hP 7 1 (f := nu) rfl rfl (j := c) (by omega) (by decide) dX2_partOfParent_6 ?_
  refine lv_aload_n hx hb dX2_partOfParent_7 rfl (lv_at hl 0 rfl) ?_
  refine va_get (D := D) (ci := 2) (v := .ref (a 8)) (C := RX2) (T := TX2) (N := 6) (Ts := wsX20) hx hb hin (fun _ h9 => h9) hown hK hP 1 rfl rfl 2 (by decide) (hts (.fieldLink RX2 19 "Groupbooks$Holdings" "denominators" "[J") (by decide +kernel)) (fun _ h9 => h9) rfl dX2_partOfParent_8 ?_
  refine lv_iload_n hx hb dX2_partOfParent_11 rfl (lv_at hl 1 rfl) ?_
  refine b_lald hx hb hK hP 8 1 (f := de) rfl rfl (j := c) (by omega) (by decide) dX2_partOfParent_12 ?_
  refine b_csi (v := scl x (nu (c)) (de (c))) (W.runS (As := [.int (x), .long (nu (c)), .long (de (c))]) (rest := []) ⟨hx, hb, hml, hown, hts⟩ (c_X2_scale ll x (nu (c)) (de (c)) ) (va_cwS 3 hts gX2_partOfParent_X2_scale rfl rfl rfl (by decide +kernel) ⟨Nat.le_of_ble_eq_true rfl, Nat.le_of_ble_eq_true rfl⟩) ⟨PT.blind, PT.to⟩ rfl rfl hl.1 rfl (lv_room (Nat.le_of_ble_eq_true rfl)) dX2_partOfParent_13 ⟨Nat.le_of_ble_eq_true rfl, Nat.le_of_ble_eq_true rfl⟩) ?_
  exact W.iret hx hb hr (fun t ht _ => ⟨_, rfl, rfl, ht⟩) (fun _ h => nomatch h) dX2_partOfParent_16

abbrev rmX2_partOfOthers : Room := ({ frames := 2, cells := 0, slots := 0, locals := 49 } : Room)
set_option maxHeartbeats 4000000 in
set_option maxRecDepth 100000 in
theorem c_X2_partOfOthers (ll : Launch) (D : va_G) (a : Nat → Nat) (cI cJ : ClassId) (p : Nat → Int32) (nu de eq : Nat → Int64) (am nx oA oD oE oP cR aR hR cl ad gw pr : Nat → Int32) (n : Int32) (c : Nat) (x : Int32) (hc : c < 6) : Met ll yX2_partOfOthers wsX2_partOfOthers rmX2_partOfOthers (va_Pc [.ref (a 1), .int (nI (c)), .int (x)] (PR D (tyG cI cJ) (GW a cI cJ p nu de eq am nx oA oD oE oP cR aR hR cl ad gw pr n))) (vp_Si (fun rr => rr = scl x (de c - nu c) (de c))) 0 0 (fun _ => False) := by
  refine Met.ofW (cc := cX2_partOfOthers) (maxL := 5) (ret := (some .int)) (by decide) rfl ?_
  intro pp ee ss mm ar bel mth cd s₁ B hml hv
  obtain ⟨rfl, hP, hK, hE⟩ := hv
  have hx := B.exec
  have hb := B.bytes
  have hr := B.returns
  have hts := atoms_spec (ws := wsX2_partOfOthers) B.pre
  have hown : ss.vm.findClass RX2 = some mm.cls := findClass_of_methodNamed B.named
  have hlocks := B.notSynchronized
  have hin : ∀ w ∈ wsX20, w.before ([.ref (a 1), .int (nI (c)), .int (x)] : List Value).toArray ss = true := fun w h => hts w ((by decide +kernel : ∀ w ∈ wsX20, w ∈ wsX2_partOfOthers) w h)
  have hl := lv_entry [.ref (a 1), .int (nI (c)), .int (x)] (n := 5) (Nat.le_of_ble_eq_true rfl)
  rw [lg_entry_eq]
  generalize (lg_sl [.ref (a 1), .int (nI (c)), .int (x)] ++ List.replicate (5 - (lg_sl [.ref (a 1), .int (nI (c)), .int (x)]).length) Slot.unset).toArray = ls at hl ⊢
  have hl : lv_has ls 5 [(0, .ref (a 1)), (1, .int (nI (c))), (2, .int (x))] := hl
  refine lv_aload_n hx hb dX2_partOfOthers_0 rfl (lv_at hl 0 rfl) ?_
  refine va_get (D := D) (ci := 2) (v := .ref (a 8)) (C := RX2) (T := TX2) (N := 6) (Ts := wsX20) hx hb hin (fun _ h9 => h9) hown hK hP 1 rfl rfl 2 (by decide) (hts (.fieldLink RX2 19 "Groupbooks$Holdings" "denominators" "[J") (by decide +kernel)) (fun _ h9 => h9) rfl dX2_partOfOthers_1 ?_
  refine lv_iload_n hx hb dX2_partOfOthers_4 rfl (lv_at hl 1 rfl) ?_
  refine b_lald hx hb hK hP 8 1 (f := de) rfl rfl (j := c) (by omega) (by decide) dX2_partOfOthers_5 ?_
  refine lv_aload_n hx hb dX2_partOfOthers_6 rfl (lv_at hl 0 rfl) ?_
  refine va_get (D := D) (ci := 2) (v := .ref (a 7)) (C := RX2) (T := TX2) (N := 6) (Ts := wsX20) hx hb hin (fun _ h9 => h9) hown hK hP 1 rfl rfl 1 (by decide) (hts (.fieldLink RX2 15 "Groupbooks$Holdings" "numerators" "[J") (by decide +kernel)) (fun _ h9 => h9) rfl dX2_partOfOthers_7 ?_
  refine lv_iload_n hx hb dX2_partOfOthers_10 rfl (lv_at hl 1 rfl) ?_
  refine b_lald hx hb hK hP 7 1 (f := nu) rfl rfl (j := c) (by omega) (by decide) dX2_partOfOthers_11 ?_
  refine lv_lsub hx hb dX2_partOfOthers_12 ?_
  refine lv_lstore_n (lv' := [(3, .long ((de (c)) - (nu (c)))), (0, .ref (a 1)), (1, .int (nI (c))), (2, .int (x))]) hx hb dX2_partOfOthers_13 rfl hl (by decide) rfl (fun ls hl => ?_)
  refine lv_iload_n hx hb dX2_partOfOthers_14 rfl (lv_at hl 3 rfl) ?_
  refine lv_lload_n hx hb dX2_partOfOthers_15 rfl (lv_at hl 0 rfl) ?_
  refine lv_aload_n hx hb dX2_partOfOthers_16 rfl (lv_at hl 1 rfl) ?_
  refine va_get (D := D) (ci := 2) (v := .ref (a 8)) (C := RX2) (T := TX2) (N := 6) (Ts := wsX20) hx hb hin (fun _ h9 => h9) hown hK hP 1 rfl rfl 2 (by decide) (hts (.fieldLink RX2 19 "Groupbooks$Holdings" "denominators" "[J") (by decide +kernel)) (fun _ h9 => h9) rfl dX2_partOfOthers_17 ?_
  refine lv_iload_n hx hb dX2_partOfOthers_20 rfl (lv_at hl 2 rfl) ?_
  refine b_lald hx hb hK hP 8 1 (f := de) rfl rfl (j := c) (by omega) (by decide) dX2_partOfOthers_21 ?_
  refine b_csi (v := scl x ((de (c)) - (nu (c))) (de (c))) (W.runS (As := [.int (x), .long ((de (c)) - (nu (c))), .long (de (c))]) (rest := []) ⟨hx, hb, hml, hown, hts⟩ (c_X2_scale ll x ((de (c)) - (nu (c))) (de (c)) ) (va_cwS 3 hts gX2_partOfOthers_X2_scale rfl rfl rfl (by decide +kernel) ⟨Nat.le_of_ble_eq_true rfl, Nat.le_of_ble_eq_true rfl⟩) ⟨PT.blind, PT.to⟩ rfl rfl hl.1 rfl (lv_room (Nat.le_of_ble_eq_true rfl)) dX2_partOfOthers_22 ⟨Nat.le_of_ble_eq_true rfl, Nat.le_of_ble_eq_true rfl⟩) ?_
  exact W.iret hx hb hr (fun t ht _ => ⟨_, rfl, rfl, ht⟩) (fun _ h => nomatch h) dX2_partOfOthers_25

abbrev rmX2_heldByAll : Room := ({ frames := 1, cells := 0, slots := 0, locals := 21 } : Room)
set_option maxHeartbeats 4000000 in
set_option maxRecDepth 100000 in
theorem c_X2_heldByAll (ll : Launch) (D : va_G) (a : Nat → Nat) (cI cJ : ClassId) (p : Nat → Int32) (nu de eq : Nat → Int64) (am nx oA oD oE oP cR aR hR cl ad gw pr : Nat → Int32) (n : Int32) (c : Nat) (hc : c < 6) : Met ll yX2_heldByAll wsX2_heldByAll rmX2_heldByAll (va_Pc [.ref (a 1), .int (nI (c))] (PR D (tyG cI cJ) (GW a cI cJ p nu de eq am nx oA oD oE oP cR aR hR cl ad gw pr n))) (vp_Si (fun rr => rr = sI (fun o => p (6 * o + c)) 6)) 0 0 (fun _ => False) := by
  refine Met.ofW (cc := cX2_heldByAll) (maxL := 4) (ret := (some .int)) (by decide) rfl ?_
  intro pp ee ss mm ar bel mth cd s₁ B hml hv
  obtain ⟨rfl, hP, hK, hE⟩ := hv
  have hx := B.exec
  have hb := B.bytes
  have hr := B.returns
  have hts := atoms_spec (ws := wsX2_heldByAll) B.pre
  have hown : ss.vm.findClass RX2 = some mm.cls := findClass_of_methodNamed B.named
  have hlocks := B.notSynchronized
  have hin : ∀ w ∈ wsX20, w.before ([.ref (a 1), .int (nI (c))] : List Value).toArray ss = true := fun w h => hts w ((by decide +kernel : ∀ w ∈ wsX20, w ∈ wsX2_heldByAll) w h)
  have hl := lv_entry [.ref (a 1), .int (nI (c))] (n := 4) (Nat.le_of_ble_eq_true rfl)
  rw [lg_entry_eq]
  generalize (lg_sl [.ref (a 1), .int (nI (c))] ++ List.replicate (4 - (lg_sl [.ref (a 1), .int (nI (c))]).length) Slot.unset).toArray = ls at hl ⊢
  have hl : lv_has ls 4 [(0, .ref (a 1)), (1, .int (nI (c)))] := hl
  generalize hZ : MQ bel _ _ ss _ _ _ = Z
  refine lv_iconst (v := 0) hx hb dX2_heldByAll_0 (by decide) ?_
  refine lv_istore_n (lv' := [(2, .int (0)), (0, .ref (a 1)), (1, .int (nI (c)))]) hx hb dX2_heldByAll_1 rfl hl (by decide) rfl (fun ls hl => ?_)
  refine lv_iconst (v := 0) hx hb dX2_heldByAll_2 (by decide) ?_
  refine lv_istore_n (lv' := [(3, .int (0)), (2, .int (0)), (0, .ref (a 1)), (1, .int (nI (c)))]) hx hb dX2_heldByAll_3 rfl hl (by decide) rfl (fun ls hl => ?_)
  have L1 : ∀ (n1 k1 : Nat), k1 + n1 = 6 → ∀ (ls : Array Slot), lv_has ls 4 [(3, .int (nI (k1))), (2, .int (sI (fun o => p (6 * o + c)) (k1))), (0, .ref (a 1)), (1, .int (nI (c)))] → W pp ll ee rmX2_heldByAll ss mm (([.ref (a 1), .int (nI (c))] : List Value).toArray) bel mth cd ss.heap [] 0 0 Z (F0 mm 4 ls []) := by
    intro n1
    induction n1 with
    | zero =>
      intro k1 hk1  ls hl
      have hk1b : k1 = 6 := by omega
      obtain rfl := hk1b
      refine lv_iload_n hx hb dX2_heldByAll_4 rfl (lv_at hl 0 rfl) ?_
      refine lv_bipush (v := 6) hx hb dX2_heldByAll_5 (by decide) ?_
      refine lv_icmp_ge (tgt := 29) hx hb dX2_heldByAll_7 (by decide) (fun c_2 => ?_) (fun c_2 => ?_)
      · have n_2 : (6) ≤ (6) := (nI_leI (a := 6) (b := 6) (by omega) (by omega)).mp c_2
        refine lv_iload_n hx hb dX2_heldByAll_29 rfl (lv_at hl 1 rfl) ?_
        subst hZ; exact W.iret hx hb hr (fun t ht _ => ⟨_, rfl, (by first | rfl | assumption), ht⟩) (fun _ h => nomatch h) dX2_heldByAll_30
      · have n_2 : ¬ ((6) ≤ (6)) := fun h => c_2 ((nI_leI (a := 6) (b := 6) (by omega) (by omega)).mpr h)
        exfalso; omega
    | succ n1 ih1 =>
      intro k1 hk1  ls hl
      have hk1b : k1 < 6 := by omega
      refine lv_iload_n hx hb dX2_heldByAll_4 rfl (lv_at hl 0 rfl) ?_
      refine lv_bipush (v := 6) hx hb dX2_heldByAll_5 (by decide) ?_
      refine lv_icmp_ge (tgt := 29) hx hb dX2_heldByAll_7 (by decide) (fun c_3 => ?_) (fun c_3 => ?_)
      · have n_3 : (6) ≤ (k1) := (nI_leI (a := 6) (b := k1) (by omega) (by omega)).mp c_3
        exfalso; omega
      · have n_3 : ¬ ((6) ≤ (k1)) := fun h => c_3 ((nI_leI (a := 6) (b := k1) (by omega) (by omega)).mpr h)
        refine lv_iload_n hx hb dX2_heldByAll_10 rfl (lv_at hl 1 rfl) ?_
        refine lv_aload_n hx hb dX2_heldByAll_11 rfl (lv_at hl 2 rfl) ?_
        refine va_get (D := D) (ci := 2) (v := .ref (a 6)) (C := RX2) (T := TX2) (N := 6) (Ts := wsX20) hx hb hin (fun _ h9 => h9) hown hK hP 1 rfl rfl 0 (by decide) (hts (.fieldLink RX2 9 "Groupbooks$Holdings" "percents" "[I") (by decide +kernel)) (fun _ h9 => h9) rfl dX2_heldByAll_12 ?_
        refine lv_iload_n hx hb dX2_heldByAll_15 rfl (lv_at hl 0 rfl) ?_
        refine lv_iload_n hx hb dX2_heldByAll_16 rfl (lv_at hl 3 rfl) ?_
        refine b_csi (v := nI (6 * k1 + c)) ((va_runSN (As := [.int (nI (k1)), .int (nI (c))]) (rest := [.ref (a 6), .int (sI (fun o => p (6 * o + c)) (k1))]) ⟨hx, hb, hml, hown, hts⟩ (c_X3_pair ll k1 c ) ⟨va_cnB 2 hts gX2_heldByAll_X3_pair_n31 rfl rfl rfl (hE.nest 5 rfl) (hts (.initialized RX3) (by decide +kernel)) (by decide +kernel) ⟨Nat.le_of_ble_eq_true rfl, Nat.le_of_ble_eq_true rfl⟩, hts (.static yX3_pair) (by decide +kernel), trivial⟩ ⟨PT.blind, PT.to⟩ rfl rfl hl.1 rfl (lv_room (Nat.le_of_ble_eq_true rfl)) dX2_heldByAll_17 ⟨Nat.le_of_ble_eq_true rfl, Nat.le_of_ble_eq_true rfl⟩).run) ?_
        refine b_iald hx hb hK hP 6 0 (f := p) rfl rfl (j := 6 * k1 + c) (by omega) (by decide) dX2_heldByAll_20 ?_
        refine lv_iadd hx hb dX2_heldByAll_21 ?_
        refine lv_istore_n (lv' := [(2, .int ((sI (fun o => p (6 * o + c)) (k1)) + (p (6 * k1 + c)))), (3, .int (nI (k1))), (0, .ref (a 1)), (1, .int (nI (c)))]) hx hb dX2_heldByAll_22 rfl hl (by decide) rfl (fun ls hl => ?_)
        refine lv_iinc (v := nI (k1 + 1)) (lv' := [(3, .int (nI (k1 + 1))), (2, .int ((sI (fun o => p (6 * o + c)) (k1)) + (p (6 * k1 + c)))), (0, .ref (a 1)), (1, .int (nI (c)))]) hx hb dX2_heldByAll_23 hl (k := 1) rfl (nI_1 (k1)) (by decide) rfl (fun ls hl => ?_)
        refine lv_goto (tgt := 4) hx hb dX2_heldByAll_26 (by decide) ?_
        have e_4 : sI (fun o => p (6 * o + c)) (k1 + 1) = (sI (fun o => p (6 * o + c)) (k1)) + (p (6 * k1 + c)) := by first | rfl | exact if_pos (by assumption) | exact if_neg (by assumption) | (simp only [n_3, Bool.false_eq_true, ↓reduceIte])
        exact ih1 (k1 + 1) (by omega) ls (by rw [e_4]; exact lv_sub hl [0, 1, 2, 3] rfl)
  exact L1 (6) 0 (by omega) ls (lv_sub hl [0, 1, 2, 3] rfl)

abbrev rmX2_heldAmong : Room := ({ frames := 1, cells := 0, slots := 0, locals := 21 } : Room)
set_option maxHeartbeats 4000000 in
set_option maxRecDepth 100000 in
theorem c_X2_heldAmong (ll : Launch) (D : va_G) (a : Nat → Nat) (cI cJ : ClassId) (p : Nat → Int32) (nu de eq : Nat → Int64) (am nx oA oD oE oP cR aR hR cl ad gw pr : Nat → Int32) (n : Int32) (M c : Nat) (hM : M < 2 ^ 31) (hc : c < 6) : Met ll yX2_heldAmong wsX2_heldAmong rmX2_heldAmong (va_Pc [.ref (a 1), .int (nI (M)), .int (nI (c))] (PR D (tyG cI cJ) (GW a cI cJ p nu de eq am nx oA oD oE oP cR aR hR cl ad gw pr n))) (vp_Si (fun rr => rr = hA p M c 6)) 0 0 (fun _ => False) := by
  refine Met.ofW (cc := cX2_heldAmong) (maxL := 5) (ret := (some .int)) (by decide) rfl ?_
  intro pp ee ss mm ar bel mth cd s₁ B hml hv
  obtain ⟨rfl, hP, hK, hE⟩ := hv
  have hx := B.exec
  have hb := B.bytes
  have hr := B.returns
  have hts := atoms_spec (ws := wsX2_heldAmong) B.pre
  have hown : ss.vm.findClass RX2 = some mm.cls := findClass_of_methodNamed B.named
  have hlocks := B.notSynchronized
  have hin : ∀ w ∈ wsX20, w.before ([.ref (a 1), .int (nI (M)), .int (nI (c))] : List Value).toArray ss = true := fun w h => hts w ((by decide +kernel : ∀ w ∈ wsX20, w ∈ wsX2_heldAmong) w h)
  have hl := lv_entry [.ref (a 1), .int (nI (M)), .int (nI (c))] (n := 5) (Nat.le_of_ble_eq_true rfl)
  rw [lg_entry_eq]
  generalize (lg_sl [.ref (a 1), .int (nI (M)), .int (nI (c))] ++ List.replicate (5 - (lg_sl [.ref (a 1), .int (nI (M)), .int (nI (c))]).length) Slot.unset).toArray = ls at hl ⊢
  have hl : lv_has ls 5 [(0, .ref (a 1)), (1, .int (nI (M))), (2, .int (nI (c)))] := hl
  generalize hZ : MQ bel _ _ ss _ _ _ = Z
  refine lv_iconst (v := 0) hx hb dX2_heldAmong_0 (by decide) ?_
  refine lv_istore_n (lv' := [(3, .int (0)), (0, .ref (a 1)), (1, .int (nI (M))), (2, .int (nI (c)))]) hx hb dX2_heldAmong_1 rfl hl (by decide) rfl (fun ls hl => ?_)
  refine lv_iconst (v := 0) hx hb dX2_heldAmong_2 (by decide) ?_
  refine lv_istore (lv' := [(4, .int (0)), (3, .int (0)), (0, .ref (a 1)), (1, .int (nI (M))), (2, .int (nI (c)))]) hx hb dX2_heldAmong_3 hl (by decide) rfl (fun ls hl => ?_)
  have L1 : ∀ (n1 k1 : Nat), k1 + n1 = 6 → ∀ (ls : Array Slot), lv_has ls 5 [(4, .int (nI (k1))), (3, .int (hA p M c (k1))), (0, .ref (a 1)), (1, .int (nI (M))), (2, .int (nI (c)))] → W pp ll ee rmX2_heldAmong ss mm (([.ref (a 1), .int (nI (M)), .int (nI (c))] : List Value).toArray) bel mth cd ss.heap [] 0 0 Z (F0 mm 5 ls []) := by
    intro n1
    induction n1 with
    | zero =>
      intro k1 hk1  ls hl
      have hk1b : k1 = 6 := by omega
      obtain rfl := hk1b
      refine lv_iload hx hb dX2_heldAmong_5 (lv_at hl 0 rfl) ?_
      refine lv_bipush (v := 6) hx hb dX2_heldAmong_7 (by decide) ?_
      refine lv_icmp_ge (tgt := 41) hx hb dX2_heldAmong_9 (by decide) (fun c_2 => ?_) (fun c_2 => ?_)
      · have n_2 : (6) ≤ (6) := (nI_leI (a := 6) (b := 6) (by omega) (by omega)).mp c_2
        refine lv_iload_n hx hb dX2_heldAmong_41 rfl (lv_at hl 1 rfl) ?_
        subst hZ; exact W.iret hx hb hr (fun t ht _ => ⟨_, rfl, (by first | rfl | assumption), ht⟩) (fun _ h => nomatch h) dX2_heldAmong_42
      · have n_2 : ¬ ((6) ≤ (6)) := fun h => c_2 ((nI_leI (a := 6) (b := 6) (by omega) (by omega)).mpr h)
        exfalso; omega
    | succ n1 ih1 =>
      intro k1 hk1  ls hl
      have hk1b : k1 < 6 := by omega
      refine lv_iload hx hb dX2_heldAmong_5 (lv_at hl 0 rfl) ?_
      refine lv_bipush (v := 6) hx hb dX2_heldAmong_7 (by decide) ?_
      refine lv_icmp_ge (tgt := 41) hx hb dX2_heldAmong_9 (by decide) (fun c_3 => ?_) (fun c_3 => ?_)
      · have n_3 : (6) ≤ (k1) := (nI_leI (a := 6) (b := k1) (by omega) (by omega)).mp c_3
        exfalso; omega
      · have n_3 : ¬ ((6) ≤ (k1)) := fun h => c_3 ((nI_leI (a := 6) (b := k1) (by omega) (by omega)).mpr h)
        refine lv_iload_n hx hb dX2_heldAmong_12 rfl (lv_at hl 3 rfl) ?_
        refine lv_iload hx hb dX2_heldAmong_13 (lv_at hl 0 rfl) ?_
        refine b_csi (v := bI (mB M k1)) ((va_runSN (As := [.int (nI (M)), .int (nI (k1))]) (rest := []) ⟨hx, hb, hml, hown, hts⟩ (c_X3_isMember ll M k1 (by omega) (by omega)) ⟨va_cnB 2 hts gX2_heldAmong_X3_isMember_n83 rfl rfl rfl (hE.nest 4 rfl) (hts (.initialized RX3) (by decide +kernel)) (by decide +kernel) ⟨Nat.le_of_ble_eq_true rfl, Nat.le_of_ble_eq_true rfl⟩, hts (.static yX3_isMember) (by decide +kernel), trivial⟩ ⟨PT.blind, PT.to⟩ rfl rfl hl.1 rfl (lv_room (Nat.le_of_ble_eq_true rfl)) dX2_heldAmong_15 ⟨Nat.le_of_ble_eq_true rfl, Nat.le_of_ble_eq_true rfl⟩).run) ?_
        refine lv_if_eq (tgt := 35) hx hb dX2_heldAmong_18 (by decide) (fun c_4 => ?_) (fun c_4 => ?_)
        · have n_4 : ¬ (mB M k1) = true := bI0 c_4
          refine lv_iinc (v := nI (k1 + 1)) (lv' := [(4, .int (nI (k1 + 1))), (3, .int (hA p M c (k1))), (0, .ref (a 1)), (1, .int (nI (M))), (2, .int (nI (c)))]) hx hb dX2_heldAmong_35 hl (k := 0) rfl (nI_1 (k1)) (by decide) rfl (fun ls hl => ?_)
          refine lv_goto (tgt := 5) hx hb dX2_heldAmong_38 (by decide) ?_
          have e_5 : hA p M c (k1 + 1) = hA p M c (k1) := by first | rfl | exact if_pos (by assumption) | exact if_neg (by assumption) | (simp only [n_3, n_4, Bool.false_eq_true, ↓reduceIte])
          exact ih1 (k1 + 1) (by omega) ls (by rw [e_5]; exact lv_sub hl [0, 1, 2, 3, 4] rfl)
        · have n_4 : (mB M k1) = true := bI1 c_4
          refine lv_iload_n hx hb dX2_heldAmong_21 rfl (lv_at hl 1 rfl) ?_
          refine lv_aload_n hx hb dX2_heldAmong_22 rfl (lv_at hl 2 rfl) ?_
          refine va_get (D := D) (ci := 2) (v := .ref (a 6)) (C := RX2) (T := TX2) (N := 6) (Ts := wsX20) hx hb hin (fun _ h9 => h9) hown hK hP 1 rfl rfl 0 (by decide) (hts (.fieldLink RX2 9 "Groupbooks$Holdings" "percents" "[I") (by decide +kernel)) (fun _ h9 => h9) rfl dX2_heldAmong_23 ?_
          refine lv_iload hx hb dX2_heldAmong_26 (lv_at hl 0 rfl) ?_
          refine lv_iload_n hx hb dX2_heldAmong_28 rfl (lv_at hl 4 rfl) ?_
          refine b_csi (v := nI (6 * k1 + c)) ((va_runSN (As := [.int (nI (k1)), .int (nI (c))]) (rest := [.ref (a 6), .int (hA p M c (k1))]) ⟨hx, hb, hml, hown, hts⟩ (c_X3_pair ll k1 c ) ⟨va_cnB 2 hts gX2_heldAmong_X3_pair_n31 rfl rfl rfl (hE.nest 5 rfl) (hts (.initialized RX3) (by decide +kernel)) (by decide +kernel) ⟨Nat.le_of_ble_eq_true rfl, Nat.le_of_ble_eq_true rfl⟩, hts (.static yX3_pair) (by decide +kernel), trivial⟩ ⟨PT.blind, PT.to⟩ rfl rfl hl.1 rfl (lv_room (Nat.le_of_ble_eq_true rfl)) dX2_heldAmong_29 ⟨Nat.le_of_ble_eq_true rfl, Nat.le_of_ble_eq_true rfl⟩).run) ?_
          refine b_iald hx hb hK hP 6 0 (f := p) rfl rfl (j := 6 * k1 + c) (by omega) (by decide) dX2_heldAmong_32 ?_
          refine lv_iadd hx hb dX2_heldAmong_33 ?_
          refine lv_istore_n (lv' := [(3, .int ((hA p M c (k1)) + (p (6 * k1 + c)))), (4, .int (nI (k1))), (0, .ref (a 1)), (1, .int (nI (M))), (2, .int (nI (c)))]) hx hb dX2_heldAmong_34 rfl hl (by decide) rfl (fun ls hl => ?_)
          refine lv_iinc (v := nI (k1 + 1)) (lv' := [(4, .int (nI (k1 + 1))), (3, .int ((hA p M c (k1)) + (p (6 * k1 + c)))), (0, .ref (a 1)), (1, .int (nI (M))), (2, .int (nI (c)))]) hx hb dX2_heldAmong_35 hl (k := 1) rfl (nI_1 (k1)) (by decide) rfl (fun ls hl => ?_)
          refine lv_goto (tgt := 5) hx hb dX2_heldAmong_38 (by decide) ?_
          have e_6 : hA p M c (k1 + 1) = (hA p M c (k1)) + (p (6 * k1 + c)) := by first | rfl | exact if_pos (by assumption) | exact if_neg (by assumption) | (simp only [n_3, n_4, Bool.false_eq_true, ↓reduceIte])
          exact ih1 (k1 + 1) (by omega) ls (by rw [e_6]; exact lv_sub hl [0, 1, 2, 3, 4] rfl)
  exact L1 (6) 0 (by omega) ls (lv_sub hl [0, 1, 2, 3, 4] rfl)

abbrev rmX2_withControlled : Room := ({ frames := 2, cells := 0, slots := 0, locals := 45 } : Room)
set_option maxHeartbeats 4000000 in
set_option maxRecDepth 100000 in
theorem c_X2_withControlled (ll : Launch) (D : va_G) (a : Nat → Nat) (cI cJ : ClassId) (p : Nat → Int32) (nu de eq : Nat → Int64) (am nx oA oD oE oP cR aR hR cl ad gw pr : Nat → Int32) (n : Int32) (M : Nat) (hM : M < 2 ^ 31) : Met ll yX2_withControlled wsX2_withControlled rmX2_withControlled (va_Pc [.ref (a 1), .int (nI (M))] (PR D (tyG cI cJ) (GW a cI cJ p nu de eq am nx oA oD oE oP cR aR hR cl ad gw pr n))) (vp_Si (fun rr => rr = nI (wc p M 5))) 0 0 (fun _ => False) := by
  refine Met.ofW (cc := cX2_withControlled) (maxL := 4) (ret := (some .int)) (by decide) rfl ?_
  intro pp ee ss mm ar bel mth cd s₁ B hml hv
  obtain ⟨rfl, hP, hK, hE⟩ := hv
  have hx := B.exec
  have hb := B.bytes
  have hr := B.returns
  have hts := atoms_spec (ws := wsX2_withControlled) B.pre
  have hown : ss.vm.findClass RX2 = some mm.cls := findClass_of_methodNamed B.named
  have hlocks := B.notSynchronized
  have hin : ∀ w ∈ wsX20, w.before ([.ref (a 1), .int (nI (M))] : List Value).toArray ss = true := fun w h => hts w ((by decide +kernel : ∀ w ∈ wsX20, w ∈ wsX2_withControlled) w h)
  have hl := lv_entry [.ref (a 1), .int (nI (M))] (n := 4) (Nat.le_of_ble_eq_true rfl)
  rw [lg_entry_eq]
  generalize (lg_sl [.ref (a 1), .int (nI (M))] ++ List.replicate (4 - (lg_sl [.ref (a 1), .int (nI (M))]).length) Slot.unset).toArray = ls at hl ⊢
  have hl : lv_has ls 4 [(0, .ref (a 1)), (1, .int (nI (M)))] := hl
  generalize hZ : MQ bel _ _ ss _ _ _ = Z
  refine lv_iload_n hx hb dX2_withControlled_0 rfl (lv_at hl 1 rfl) ?_
  refine lv_istore_n (lv' := [(2, .int (nI (M))), (0, .ref (a 1)), (1, .int (nI (M)))]) hx hb dX2_withControlled_1 rfl hl (by decide) rfl (fun ls hl => ?_)
  refine lv_iconst (v := 1) hx hb dX2_withControlled_2 (by decide) ?_
  refine lv_istore_n (lv' := [(3, .int (1)), (2, .int (nI (M))), (0, .ref (a 1)), (1, .int (nI (M)))]) hx hb dX2_withControlled_3 rfl hl (by decide) rfl (fun ls hl => ?_)
  have L1 : ∀ (n1 k1 : Nat), k1 + n1 = 5 → ∀ (ls : Array Slot), lv_has ls 4 [(3, .int (nI (k1 + 1))), (2, .int (nI (wc p M (k1)))), (0, .ref (a 1)), (1, .int (nI (M)))] → W pp ll ee rmX2_withControlled ss mm (([.ref (a 1), .int (nI (M))] : List Value).toArray) bel mth cd ss.heap [] 0 0 Z (F0 mm 4 ls []) := by
    intro n1
    induction n1 with
    | zero =>
      intro k1 hk1  ls hl
      have hk1b : k1 = 5 := by omega
      obtain rfl := hk1b
      refine lv_iload_n hx hb dX2_withControlled_4 rfl (lv_at hl 0 rfl) ?_
      refine lv_bipush (v := 6) hx hb dX2_withControlled_5 (by decide) ?_
      refine lv_icmp_ge (tgt := 33) hx hb dX2_withControlled_7 (by decide) (fun c_2 => ?_) (fun c_2 => ?_)
      · have n_2 : (6) ≤ (5 + 1) := (nI_leI (a := 6) (b := 5 + 1) (by omega) (by omega)).mp c_2
        refine lv_iload_n hx hb dX2_withControlled_33 rfl (lv_at hl 1 rfl) ?_
        subst hZ; exact W.iret hx hb hr (fun t ht _ => ⟨_, rfl, (by first | rfl | assumption), ht⟩) (fun _ h => nomatch h) dX2_withControlled_34
      · have n_2 : ¬ ((6) ≤ (5 + 1)) := fun h => c_2 ((nI_leI (a := 6) (b := 5 + 1) (by omega) (by omega)).mpr h)
        exfalso; omega
    | succ n1 ih1 =>
      intro k1 hk1  ls hl
      have hk1b : k1 < 5 := by omega
      refine lv_iload_n hx hb dX2_withControlled_4 rfl (lv_at hl 0 rfl) ?_
      refine lv_bipush (v := 6) hx hb dX2_withControlled_5 (by decide) ?_
      refine lv_icmp_ge (tgt := 33) hx hb dX2_withControlled_7 (by decide) (fun c_3 => ?_) (fun c_3 => ?_)
      · have n_3 : (6) ≤ (k1 + 1) := (nI_leI (a := 6) (b := k1 + 1) (by omega) (by omega)).mp c_3
        exfalso; omega
      · have n_3 : ¬ ((6) ≤ (k1 + 1)) := fun h => c_3 ((nI_leI (a := 6) (b := k1 + 1) (by omega) (by omega)).mpr h)
        refine lv_aload_n hx hb dX2_withControlled_10 rfl (lv_at hl 2 rfl) ?_
        refine lv_iload_n hx hb dX2_withControlled_11 rfl (lv_at hl 3 rfl) ?_
        refine lv_iload_n hx hb dX2_withControlled_12 rfl (lv_at hl 0 rfl) ?_
        refine b_csi (v := hA p M (k1 + 1) 6) (W.runV (As := [.int (nI (M)), .int (nI (k1 + 1))]) (rest := []) ⟨hx, hb, hml, hown, hts⟩ (c_X2_heldAmong ll D a cI cJ p nu de eq am nx oA oD oE oP cR aR hR cl ad gw pr n M (k1 + 1) (by omega) (by omega)) (cwV 2 hts gX2_withControlled_X2_heldAmong rfl rfl rfl (by decide +kernel) ⟨Nat.le_of_ble_eq_true rfl, Nat.le_of_ble_eq_true rfl⟩) ⟨PR.blind, va_recv hK hP (ci := 2) (q0 := 1) rfl rfl, PR.go hP hK hE⟩ rfl rfl hl.1 rfl (lv_room (Nat.le_of_ble_eq_true rfl)) dX2_withControlled_13 ⟨Nat.le_of_ble_eq_true rfl, Nat.le_of_ble_eq_true rfl⟩) ?_
        refine lv_bipush (v := 50) hx hb dX2_withControlled_16 (by decide) ?_
        refine lv_icmp_le (tgt := 27) hx hb dX2_withControlled_18 (by decide) (fun c_4 => ?_) (fun c_4 => ?_)
        · have n_4 := c_4
          refine lv_iinc (v := nI (k1 + 1 + 1)) (lv' := [(3, .int (nI (k1 + 1 + 1))), (2, .int (nI (wc p M (k1)))), (0, .ref (a 1)), (1, .int (nI (M)))]) hx hb dX2_withControlled_27 hl (k := 0) rfl (nI_1 (k1 + 1)) (by decide) rfl (fun ls hl => ?_)
          refine lv_goto (tgt := 4) hx hb dX2_withControlled_30 (by decide) ?_
          have e_5 : wc p M (k1 + 1) = wc p M (k1) := by first | rfl | exact if_pos (by assumption) | exact if_neg (by assumption) | (simp only [n_3, n_4, Bool.false_eq_true, ↓reduceIte])
          exact ih1 (k1 + 1) (by omega) ls (by rw [e_5]; exact lv_sub hl [0, 1, 2, 3] rfl)
        · have n_4 := c_4
          refine lv_iload_n hx hb dX2_withControlled_21 rfl (lv_at hl 1 rfl) ?_
          refine lv_iconst (v := 1) hx hb dX2_withControlled_22 (by decide) ?_
          refine lv_iload_n hx hb dX2_withControlled_23 rfl (lv_at hl 0 rfl) ?_
          refine lv_ishl hx hb dX2_withControlled_24 ?_
          refine b_ti (y := nI (2 ^ (k1 + 1))) (sh_1 (k1 + 1) (by omega)) ?_
          refine lv_ior hx hb dX2_withControlled_25 ?_
          refine b_ti (y := nI ((wc p M (k1)) ||| (2 ^ (k1 + 1)))) (or_n (wc p M (k1)) (2 ^ (k1 + 1))) ?_
          refine lv_istore_n (lv' := [(2, .int (nI ((wc p M (k1)) ||| (2 ^ (k1 + 1))))), (3, .int (nI (k1 + 1))), (0, .ref (a 1)), (1, .int (nI (M)))]) hx hb dX2_withControlled_26 rfl hl (by decide) rfl (fun ls hl => ?_)
          refine lv_iinc (v := nI (k1 + 1 + 1)) (lv' := [(3, .int (nI (k1 + 1 + 1))), (2, .int (nI ((wc p M (k1)) ||| (2 ^ (k1 + 1))))), (0, .ref (a 1)), (1, .int (nI (M)))]) hx hb dX2_withControlled_27 hl (k := 1) rfl (nI_1 (k1 + 1)) (by decide) rfl (fun ls hl => ?_)
          refine lv_goto (tgt := 4) hx hb dX2_withControlled_30 (by decide) ?_
          have e_6 : wc p M (k1 + 1) = (wc p M (k1)) ||| (2 ^ (k1 + 1)) := by first | rfl | exact if_pos (by assumption) | exact if_neg (by assumption) | (simp only [n_3, n_4, Bool.false_eq_true, ↓reduceIte])
          exact ih1 (k1 + 1) (by omega) ls (by rw [e_6]; exact lv_sub hl [0, 1, 2, 3] rfl)
  exact L1 (5) 0 (by omega) ls (lv_sub hl [0, 1, 2, 3] rfl)

abbrev rmX2_members : Room := ({ frames := 3, cells := 0, slots := 0, locals := 68 } : Room)
set_option maxHeartbeats 4000000 in
set_option maxRecDepth 100000 in
theorem c_X2_members (ll : Launch) (D : va_G) (a : Nat → Nat) (cI cJ : ClassId) (p : Nat → Int32) (nu de eq : Nat → Int64) (am nx oA oD oE oP cR aR hR cl ad gw pr : Nat → Int32) (n : Int32)   : Met ll yX2_members wsX2_members rmX2_members (va_Pc [.ref (a 1)] (PR D (tyG cI cJ) (GW a cI cJ p nu de eq am nx oA oD oE oP cR aR hR cl ad gw pr n))) (vp_Si (fun rr => rr = nI (mem p 5))) 0 0 (fun _ => False) := by
  refine Met.ofW (cc := cX2_members) (maxL := 3) (ret := (some .int)) (by decide) rfl ?_
  intro pp ee ss mm ar bel mth cd s₁ B hml hv
  obtain ⟨rfl, hP, hK, hE⟩ := hv
  have hx := B.exec
  have hb := B.bytes
  have hr := B.returns
  have hts := atoms_spec (ws := wsX2_members) B.pre
  have hown : ss.vm.findClass RX2 = some mm.cls := findClass_of_methodNamed B.named
  have hlocks := B.notSynchronized
  have hin : ∀ w ∈ wsX20, w.before ([.ref (a 1)] : List Value).toArray ss = true := fun w h => hts w ((by decide +kernel : ∀ w ∈ wsX20, w ∈ wsX2_members) w h)
  have hl := lv_entry [.ref (a 1)] (n := 3) (Nat.le_of_ble_eq_true rfl)
  rw [lg_entry_eq]
  generalize (lg_sl [.ref (a 1)] ++ List.replicate (3 - (lg_sl [.ref (a 1)]).length) Slot.unset).toArray = ls at hl ⊢
  have hl : lv_has ls 3 [(0, .ref (a 1))] := hl
  generalize hZ : MQ bel _ _ ss _ _ _ = Z
  refine lv_iconst (v := 1) hx hb dX2_members_0 (by decide) ?_
  refine lv_istore_n (lv' := [(1, .int (1)), (0, .ref (a 1))]) hx hb dX2_members_1 rfl hl (by decide) rfl (fun ls hl => ?_)
  refine lv_iconst (v := 1) hx hb dX2_members_2 (by decide) ?_
  refine lv_istore_n (lv' := [(2, .int (1)), (1, .int (1)), (0, .ref (a 1))]) hx hb dX2_members_3 rfl hl (by decide) rfl (fun ls hl => ?_)
  have L1 : ∀ (n1 k1 : Nat), k1 + n1 = 5 → ∀ (ls : Array Slot), lv_has ls 3 [(2, .int (nI (k1 + 1))), (1, .int (nI (mem p (k1)))), (0, .ref (a 1))] → W pp ll ee rmX2_members ss mm (([.ref (a 1)] : List Value).toArray) bel mth cd ss.heap [] 0 0 Z (F0 mm 4 ls []) := by
    intro n1
    induction n1 with
    | zero =>
      intro k1 hk1  ls hl
      have hk1b : k1 = 5 := by omega
      obtain rfl := hk1b
      refine lv_iload_n hx hb dX2_members_4 rfl (lv_at hl 0 rfl) ?_
      refine lv_bipush (v := 6) hx hb dX2_members_5 (by decide) ?_
      refine lv_icmp_ge (tgt := 22) hx hb dX2_members_7 (by decide) (fun c_2 => ?_) (fun c_2 => ?_)
      · have n_2 : (6) ≤ (5 + 1) := (nI_leI (a := 6) (b := 5 + 1) (by omega) (by omega)).mp c_2
        refine lv_iload_n hx hb dX2_members_22 rfl (lv_at hl 1 rfl) ?_
        subst hZ; exact W.iret hx hb hr (fun t ht _ => ⟨_, rfl, (by first | rfl | assumption), ht⟩) (fun _ h => nomatch h) dX2_members_23
      · have n_2 : ¬ ((6) ≤ (5 + 1)) := fun h => c_2 ((nI_leI (a := 6) (b := 5 + 1) (by omega) (by omega)).mpr h)
        exfalso; omega
    | succ n1 ih1 =>
      intro k1 hk1  ls hl
      have hk1b : k1 < 5 := by omega
      refine lv_iload_n hx hb dX2_members_4 rfl (lv_at hl 0 rfl) ?_
      refine lv_bipush (v := 6) hx hb dX2_members_5 (by decide) ?_
      refine lv_icmp_ge (tgt := 22) hx hb dX2_members_7 (by decide) (fun c_3 => ?_) (fun c_3 => ?_)
      · have n_3 : (6) ≤ (k1 + 1) := (nI_leI (a := 6) (b := k1 + 1) (by omega) (by omega)).mp c_3
        exfalso; omega
      · have n_3 : ¬ ((6) ≤ (k1 + 1)) := fun h => c_3 ((nI_leI (a := 6) (b := k1 + 1) (by omega) (by omega)).mpr h)
        refine lv_aload_n hx hb dX2_members_10 rfl (lv_at hl 2 rfl) ?_
        refine lv_iload_n hx hb dX2_members_11 rfl (lv_at hl 1 rfl) ?_
        refine b_csi (v := nI (wc p (mem p (k1)) 5)) (W.runV (As := [.int (nI (mem p (k1)))]) (rest := []) ⟨hx, hb, hml, hown, hts⟩ (c_X2_withControlled ll D a cI cJ p nu de eq am nx oA oD oE oP cR aR hR cl ad gw pr n (mem p (k1)) (lt31 (mem_lt _ _))) (cwV 1 hts gX2_members_X2_withControlled rfl rfl rfl (by decide +kernel) ⟨Nat.le_of_ble_eq_true rfl, Nat.le_of_ble_eq_true rfl⟩) ⟨PR.blind, va_recv hK hP (ci := 2) (q0 := 1) rfl rfl, PR.go hP hK hE⟩ rfl rfl hl.1 rfl (lv_room (Nat.le_of_ble_eq_true rfl)) dX2_members_12 ⟨Nat.le_of_ble_eq_true rfl, Nat.le_of_ble_eq_true rfl⟩) ?_
        refine lv_istore_n (lv' := [(1, .int (nI (wc p (mem p (k1)) 5))), (2, .int (nI (k1 + 1))), (0, .ref (a 1))]) hx hb dX2_members_15 rfl hl (by decide) rfl (fun ls hl => ?_)
        refine lv_iinc (v := nI (k1 + 1 + 1)) (lv' := [(2, .int (nI (k1 + 1 + 1))), (1, .int (nI (wc p (mem p (k1)) 5))), (0, .ref (a 1))]) hx hb dX2_members_16 hl (k := 1) rfl (nI_1 (k1 + 1)) (by decide) rfl (fun ls hl => ?_)
        refine lv_goto (tgt := 4) hx hb dX2_members_19 (by decide) ?_
        have e_4 : mem p (k1 + 1) = wc p (mem p (k1)) 5 := by first | rfl | exact if_pos (by assumption) | exact if_neg (by assumption) | (simp only [n_3, Bool.false_eq_true, ↓reduceIte])
        exact ih1 (k1 + 1) (by omega) ls (by rw [e_4]; exact lv_sub hl [0, 1, 2] rfl)
  exact L1 (5) 0 (by omega) ls (lv_sub hl [0, 1, 2] rfl)

abbrev rmX0_replaceClaim : Room := ({ frames := 1, cells := 0, slots := 0, locals := 21 } : Room)
set_option maxHeartbeats 4000000 in
set_option maxRecDepth 100000 in
theorem c_X0_replaceClaim (ll : Launch) (D : va_G) (a : Nat → Nat) (cI cJ : ClassId) (sz : Nat) (p : Nat → Int32) (nu de eq : Nat → Int64) (am nx oA oD oE oP cR aR hR cl ad gw pr : Nat → Int32) (n : Int32) (c d : Nat) (x : Int32) (hc : c < 6) (hd : d < 6) : Met ll yX0_replaceClaim wsX0_replaceClaim rmX0_replaceClaim (va_Pc [.ref (a 3), .int (nI (c)), .int (nI (d)), .int (x)] (PW D (tyG cI cJ) (GW a cI cJ p nu de eq am nx oA oD oE oP cR aR hR cl ad gw pr n) sz)) (va_Qi (fun (rr : Int32) (u : Unit) => rr = cl (6 * c + d)) (fun (u : Unit) t => AW D (tyG cI cJ) (va_A (GW a cI cJ p nu de eq am nx oA oD oE oP cR aR hR cl ad gw pr n) sz) (GW a cI cJ p nu de eq am nx oA oD oE oP cR aR hR (upd cl (6 * c + d) x) ad gw pr n) t) (va_A (GW a cI cJ p nu de eq am nx oA oD oE oP cR aR hR cl ad gw pr n) sz)) 0 0 (va_A (GW a cI cJ p nu de eq am nx oA oD oE oP cR aR hR cl ad gw pr n) sz) := by
  refine Met.ofW (cc := cX0_replaceClaim) (maxL := 6) (ret := (some .int)) (by decide) rfl ?_
  intro pp ee ss mm ar bel mth cd s₁ B hml hv
  obtain ⟨rfl, hsz, hP, hK, hD0, hE⟩ := hv
  have hx := B.exec
  have hb := B.bytes
  have hr := B.returns
  have hts := atoms_spec (ws := wsX0_replaceClaim) B.pre
  have hown : ss.vm.findClass RX0 = some mm.cls := findClass_of_methodNamed B.named
  have hlocks := B.notSynchronized
  subst hsz
  have hD := hD0.self (sz := ss.heap.size)
  generalize hAe : va_A (GW a cI cJ p nu de eq am nx oA oD oE oP cR aR hR cl ad gw pr n) ss.heap.size = A at hD ⊢
  have hA : ∀ q : Nat, ss.heap.size ≤ q → A q := fun q h => by rw [← hAe]; exact Or.inr h
  have hS : va_S A ss.heap ss.heap [] := va_S.rf
  have hin : ∀ w ∈ wsX00, w.before ([.ref (a 3), .int (nI (c)), .int (nI (d)), .int (x)] : List Value).toArray ss = true := fun w h => hts w ((by decide +kernel : ∀ w ∈ wsX00, w ∈ wsX0_replaceClaim) w h)
  have hl := lv_entry [.ref (a 3), .int (nI (c)), .int (nI (d)), .int (x)] (n := 6) (Nat.le_of_ble_eq_true rfl)
  rw [lg_entry_eq]
  generalize (lg_sl [.ref (a 3), .int (nI (c)), .int (nI (d)), .int (x)] ++ List.replicate (6 - (lg_sl [.ref (a 3), .int (nI (c)), .int (nI (d)), .int (x)]).length) Slot.unset).toArray = ls at hl ⊢
  have hl : lv_has ls 6 [(0, .ref (a 3)), (1, .int (nI (c))), (2, .int (nI (d))), (3, .int (x))] := hl
  refine lv_iload_n hx hb dX0_replaceClaim_0 rfl (lv_at hl 1 rfl) ?_
  refine lv_iload_n hx hb dX0_replaceClaim_1 rfl (lv_at hl 2 rfl) ?_
  refine b_csi (v := nI (6 * c + d)) ((va_runSN (As := [.int (nI (c)), .int (nI (d))]) (rest := []) ⟨hx, hb, hml, hown, hts⟩ (c_X3_pair ll c d ) ⟨va_cnB 2 hts gX0_replaceClaim_X3_pair_n18 rfl rfl rfl (hE.nest 8 rfl) (hts (.initialized RX3) (by decide +kernel)) (by decide +kernel) ⟨Nat.le_of_ble_eq_true rfl, Nat.le_of_ble_eq_true rfl⟩, hts (.static yX3_pair) (by decide +kernel), trivial⟩ ⟨PT.blind, PT.to⟩ rfl rfl hl.1 rfl (lv_room (Nat.le_of_ble_eq_true rfl)) dX0_replaceClaim_2 ⟨Nat.le_of_ble_eq_true rfl, Nat.le_of_ble_eq_true rfl⟩).run) ?_
  refine lv_istore (lv' := [(4, .int (nI (6 * c + d))), (0, .ref (a 3)), (1, .int (nI (c))), (2, .int (nI (d))), (3, .int (x))]) hx hb dX0_replaceClaim_5 hl (by decide) rfl (fun ls hl => ?_)
  refine lv_aload_n hx hb dX0_replaceClaim_7 rfl (lv_at hl 1 rfl) ?_
  refine va_get (D := D) (ci := 0) (v := .ref (a 19)) (C := RX0) (T := TX0) (N := 2) (Ts := wsX00) hx hb hin (fun _ h9 => h9) hown hK hP 3 rfl rfl 0 (by decide) (hts (.fieldLink RX0 9 "Groupbooks$Balances" "claims" "[I") (by decide +kernel)) (fun _ h9 => h9) rfl dX0_replaceClaim_8 ?_
  refine lv_iload hx hb dX0_replaceClaim_11 (lv_at hl 0 rfl) ?_
  refine b_iald hx hb hK hP 19 0 (f := cl) rfl rfl (j := 6 * c + d) (by omega) (by decide) dX0_replaceClaim_13 ?_
  refine lv_istore (lv' := [(5, .int (cl (6 * c + d))), (4, .int (nI (6 * c + d))), (0, .ref (a 3)), (1, .int (nI (c))), (2, .int (nI (d))), (3, .int (x))]) hx hb dX0_replaceClaim_14 hl (by decide) rfl (fun ls hl => ?_)
  refine lv_aload_n hx hb dX0_replaceClaim_16 rfl (lv_at hl 2 rfl) ?_
  refine va_get (D := D) (ci := 0) (v := .ref (a 19)) (C := RX0) (T := TX0) (N := 2) (Ts := wsX00) hx hb hin (fun _ h9 => h9) hown hK hP 3 rfl rfl 0 (by decide) (hts (.fieldLink RX0 9 "Groupbooks$Balances" "claims" "[I") (by decide +kernel)) (fun _ h9 => h9) rfl dX0_replaceClaim_17 ?_
  refine lv_iload hx hb dX0_replaceClaim_20 (lv_at hl 1 rfl) ?_
  refine lv_iload_n hx hb dX0_replaceClaim_22 rfl (lv_at hl 5 rfl) ?_
  refine b_iast (w' := GW a cI cJ p nu de eq am nx oA oD oE oP cR aR hR (upd cl (6 * c + d) (x)) ad gw pr n) hx hb hK hP hD hS 19 0 (f := cl) rfl rfl (j := 6 * c + d) (by omega) (by decide) rfl dX0_replaceClaim_23 (fun H locs hP hD hS => ?_)
  refine lv_iload hx hb dX0_replaceClaim_24 (lv_at hl 0 rfl) ?_
  exact W.iret hx hb hr (fun t ht hW => ⟨⟨_, (), rfl, rfl, (by rw [ht]; exact hP), va_K.moved hW.alike hK, hD⟩, hS.F ht⟩) hS.2.2 dX0_replaceClaim_26

abbrev rmX0_replaceAdmitted : Room := ({ frames := 1, cells := 0, slots := 0, locals := 21 } : Room)
set_option maxHeartbeats 4000000 in
set_option maxRecDepth 100000 in
theorem c_X0_replaceAdmitted (ll : Launch) (D : va_G) (a : Nat → Nat) (cI cJ : ClassId) (sz : Nat) (p : Nat → Int32) (nu de eq : Nat → Int64) (am nx oA oD oE oP cR aR hR cl ad gw pr : Nat → Int32) (n : Int32) (c d : Nat) (x : Int32) (hc : c < 6) (hd : d < 6) : Met ll yX0_replaceAdmitted wsX0_replaceAdmitted rmX0_replaceAdmitted (va_Pc [.ref (a 3), .int (nI (c)), .int (nI (d)), .int (x)] (PW D (tyG cI cJ) (GW a cI cJ p nu de eq am nx oA oD oE oP cR aR hR cl ad gw pr n) sz)) (va_Qi (fun (rr : Int32) (u : Unit) => rr = ad (6 * c + d)) (fun (u : Unit) t => AW D (tyG cI cJ) (va_A (GW a cI cJ p nu de eq am nx oA oD oE oP cR aR hR cl ad gw pr n) sz) (GW a cI cJ p nu de eq am nx oA oD oE oP cR aR hR cl (upd ad (6 * c + d) x) gw pr n) t) (va_A (GW a cI cJ p nu de eq am nx oA oD oE oP cR aR hR cl ad gw pr n) sz)) 0 0 (va_A (GW a cI cJ p nu de eq am nx oA oD oE oP cR aR hR cl ad gw pr n) sz) := by
  refine Met.ofW (cc := cX0_replaceAdmitted) (maxL := 6) (ret := (some .int)) (by decide) rfl ?_
  intro pp ee ss mm ar bel mth cd s₁ B hml hv
  obtain ⟨rfl, hsz, hP, hK, hD0, hE⟩ := hv
  have hx := B.exec
  have hb := B.bytes
  have hr := B.returns
  have hts := atoms_spec (ws := wsX0_replaceAdmitted) B.pre
  have hown : ss.vm.findClass RX0 = some mm.cls := findClass_of_methodNamed B.named
  have hlocks := B.notSynchronized
  subst hsz
  have hD := hD0.self (sz := ss.heap.size)
  generalize hAe : va_A (GW a cI cJ p nu de eq am nx oA oD oE oP cR aR hR cl ad gw pr n) ss.heap.size = A at hD ⊢
  have hA : ∀ q : Nat, ss.heap.size ≤ q → A q := fun q h => by rw [← hAe]; exact Or.inr h
  have hS : va_S A ss.heap ss.heap [] := va_S.rf
  have hin : ∀ w ∈ wsX00, w.before ([.ref (a 3), .int (nI (c)), .int (nI (d)), .int (x)] : List Value).toArray ss = true := fun w h => hts w ((by decide +kernel : ∀ w ∈ wsX00, w ∈ wsX0_replaceAdmitted) w h)
  have hl := lv_entry [.ref (a 3), .int (nI (c)), .int (nI (d)), .int (x)] (n := 6) (Nat.le_of_ble_eq_true rfl)
  rw [lg_entry_eq]
  generalize (lg_sl [.ref (a 3), .int (nI (c)), .int (nI (d)), .int (x)] ++ List.replicate (6 - (lg_sl [.ref (a 3), .int (nI (c)), .int (nI (d)), .int (x)]).length) Slot.unset).toArray = ls at hl ⊢
  have hl : lv_has ls 6 [(0, .ref (a 3)), (1, .int (nI (c))), (2, .int (nI (d))), (3, .int (x))] := hl
  refine lv_iload_n hx hb dX0_replaceAdmitted_0 rfl (lv_at hl 1 rfl) ?_
  refine lv_iload_n hx hb dX0_replaceAdmitted_1 rfl (lv_at hl 2 rfl) ?_
  refine b_csi (v := nI (6 * c + d)) ((va_runSN (As := [.int (nI (c)), .int (nI (d))]) (rest := []) ⟨hx, hb, hml, hown, hts⟩ (c_X3_pair ll c d ) ⟨va_cnB 2 hts gX0_replaceAdmitted_X3_pair_n18 rfl rfl rfl (hE.nest 8 rfl) (hts (.initialized RX3) (by decide +kernel)) (by decide +kernel) ⟨Nat.le_of_ble_eq_true rfl, Nat.le_of_ble_eq_true rfl⟩, hts (.static yX3_pair) (by decide +kernel), trivial⟩ ⟨PT.blind, PT.to⟩ rfl rfl hl.1 rfl (lv_room (Nat.le_of_ble_eq_true rfl)) dX0_replaceAdmitted_2 ⟨Nat.le_of_ble_eq_true rfl, Nat.le_of_ble_eq_true rfl⟩).run) ?_
  refine lv_istore (lv' := [(4, .int (nI (6 * c + d))), (0, .ref (a 3)), (1, .int (nI (c))), (2, .int (nI (d))), (3, .int (x))]) hx hb dX0_replaceAdmitted_5 hl (by decide) rfl (fun ls hl => ?_)
  refine lv_aload_n hx hb dX0_replaceAdmitted_7 rfl (lv_at hl 1 rfl) ?_
  refine va_get (D := D) (ci := 0) (v := .ref (a 20)) (C := RX0) (T := TX0) (N := 2) (Ts := wsX00) hx hb hin (fun _ h9 => h9) hown hK hP 3 rfl rfl 1 (by decide) (hts (.fieldLink RX0 15 "Groupbooks$Balances" "admissions" "[I") (by decide +kernel)) (fun _ h9 => h9) rfl dX0_replaceAdmitted_8 ?_
  refine lv_iload hx hb dX0_replaceAdmitted_11 (lv_at hl 0 rfl) ?_
  refine b_iald hx hb hK hP 20 0 (f := ad) rfl rfl (j := 6 * c + d) (by omega) (by decide) dX0_replaceAdmitted_13 ?_
  refine lv_istore (lv' := [(5, .int (ad (6 * c + d))), (4, .int (nI (6 * c + d))), (0, .ref (a 3)), (1, .int (nI (c))), (2, .int (nI (d))), (3, .int (x))]) hx hb dX0_replaceAdmitted_14 hl (by decide) rfl (fun ls hl => ?_)
  refine lv_aload_n hx hb dX0_replaceAdmitted_16 rfl (lv_at hl 2 rfl) ?_
  refine va_get (D := D) (ci := 0) (v := .ref (a 20)) (C := RX0) (T := TX0) (N := 2) (Ts := wsX00) hx hb hin (fun _ h9 => h9) hown hK hP 3 rfl rfl 1 (by decide) (hts (.fieldLink RX0 15 "Groupbooks$Balances" "admissions" "[I") (by decide +kernel)) (fun _ h9 => h9) rfl dX0_replaceAdmitted_17 ?_
  refine lv_iload hx hb dX0_replaceAdmitted_20 (lv_at hl 1 rfl) ?_
  refine lv_iload_n hx hb dX0_replaceAdmitted_22 rfl (lv_at hl 5 rfl) ?_
  refine b_iast (w' := GW a cI cJ p nu de eq am nx oA oD oE oP cR aR hR cl (upd ad (6 * c + d) (x)) gw pr n) hx hb hK hP hD hS 20 0 (f := ad) rfl rfl (j := 6 * c + d) (by omega) (by decide) rfl dX0_replaceAdmitted_23 (fun H locs hP hD hS => ?_)
  refine lv_iload hx hb dX0_replaceAdmitted_24 (lv_at hl 0 rfl) ?_
  exact W.iret hx hb hr (fun t ht hW => ⟨⟨_, (), rfl, rfl, (by rw [ht]; exact hP), va_K.moved hW.alike hK, hD⟩, hS.F ht⟩) hS.2.2 dX0_replaceAdmitted_26

abbrev rmX0_disputed : Room := ({ frames := 1, cells := 0, slots := 0, locals := 21 } : Room)
set_option maxHeartbeats 4000000 in
set_option maxRecDepth 100000 in
theorem c_X0_disputed (ll : Launch) (D : va_G) (a : Nat → Nat) (cI cJ : ClassId) (p : Nat → Int32) (nu de eq : Nat → Int64) (am nx oA oD oE oP cR aR hR cl ad gw pr : Nat → Int32) (n : Int32) (c d : Nat) (hc : c < 6) (hd : d < 6) : Met ll yX0_disputed wsX0_disputed rmX0_disputed (va_Pc [.ref (a 3), .int (nI (c)), .int (nI (d))] (PR D (tyG cI cJ) (GW a cI cJ p nu de eq am nx oA oD oE oP cR aR hR cl ad gw pr n))) (vp_Si (fun rr => rr = cl (6 * c + d) - ad (6 * c + d))) 0 0 (fun _ => False) := by
  refine Met.ofW (cc := cX0_disputed) (maxL := 4) (ret := (some .int)) (by decide) rfl ?_
  intro pp ee ss mm ar bel mth cd s₁ B hml hv
  obtain ⟨rfl, hP, hK, hE⟩ := hv
  have hx := B.exec
  have hb := B.bytes
  have hr := B.returns
  have hts := atoms_spec (ws := wsX0_disputed) B.pre
  have hown : ss.vm.findClass RX0 = some mm.cls := findClass_of_methodNamed B.named
  have hlocks := B.notSynchronized
  have hin : ∀ w ∈ wsX00, w.before ([.ref (a 3), .int (nI (c)), .int (nI (d))] : List Value).toArray ss = true := fun w h => hts w ((by decide +kernel : ∀ w ∈ wsX00, w ∈ wsX0_disputed) w h)
  have hl := lv_entry [.ref (a 3), .int (nI (c)), .int (nI (d))] (n := 4) (Nat.le_of_ble_eq_true rfl)
  rw [lg_entry_eq]
  generalize (lg_sl [.ref (a 3), .int (nI (c)), .int (nI (d))] ++ List.replicate (4 - (lg_sl [.ref (a 3), .int (nI (c)), .int (nI (d))]).length) Slot.unset).toArray = ls at hl ⊢
  have hl : lv_has ls 4 [(0, .ref (a 3)), (1, .int (nI (c))), (2, .int (nI (d)))] := hl
  refine lv_iload_n hx hb dX0_disputed_0 rfl (lv_at hl 1 rfl) ?_
  refine lv_iload_n hx hb dX0_disputed_1 rfl (lv_at hl 2 rfl) ?_
  refine b_csi (v := nI (6 * c + d)) ((va_runSN (As := [.int (nI (c)), .int (nI (d))]) (rest := []) ⟨hx, hb, hml, hown, hts⟩ (c_X3_pair ll c d ) ⟨va_cnB 2 hts gX0_disputed_X3_pair_n18 rfl rfl rfl (hE.nest 8 rfl) (hts (.initialized RX3) (by decide +kernel)) (by decide +kernel) ⟨Nat.le_of_ble_eq_true rfl, Nat.le_of_ble_eq_true rfl⟩, hts (.static yX3_pair) (by decide +kernel), trivial⟩ ⟨PT.blind, PT.to⟩ rfl rfl hl.1 rfl (lv_room (Nat.le_of_ble_eq_true rfl)) dX0_disputed_2 ⟨Nat.le_of_ble_eq_true rfl, Nat.le_of_ble_eq_true rfl⟩).run) ?_
  refine lv_istore_n (lv' := [(3, .int (nI (6 * c + d))), (0, .ref (a 3)), (1, .int (nI (c))), (2, .int (nI (d)))]) hx hb dX0_disputed_5 rfl hl (by decide) rfl (fun ls hl => ?_)
  refine lv_aload_n hx hb dX0_disputed_6 rfl (lv_at hl 1 rfl) ?_
  refine va_get (D := D) (ci := 0) (v := .ref (a 19)) (C := RX0) (T := TX0) (N := 2) (Ts := wsX00) hx hb hin (fun _ h9 => h9) hown hK hP 3 rfl rfl 0 (by decide) (hts (.fieldLink RX0 9 "Groupbooks$Balances" "claims" "[I") (by decide +kernel)) (fun _ h9 => h9) rfl dX0_disputed_7 ?_
  refine lv_iload_n hx hb dX0_disputed_10 rfl (lv_at hl 0 rfl) ?_
  refine b_iald hx hb hK hP 19 0 (f := cl) rfl rfl (j := 6 * c + d) (by omega) (by decide) dX0_disputed_11 ?_
  refine lv_aload_n hx hb dX0_disputed_12 rfl (lv_at hl 1 rfl) ?_
  refine va_get (D := D) (ci := 0) (v := .ref (a 20)) (C := RX0) (T := TX0) (N := 2) (Ts := wsX00) hx hb hin (fun _ h9 => h9) hown hK hP 3 rfl rfl 1 (by decide) (hts (.fieldLink RX0 15 "Groupbooks$Balances" "admissions" "[I") (by decide +kernel)) (fun _ h9 => h9) rfl dX0_disputed_13 ?_
  refine lv_iload_n hx hb dX0_disputed_16 rfl (lv_at hl 0 rfl) ?_
  refine b_iald hx hb hK hP 20 0 (f := ad) rfl rfl (j := 6 * c + d) (by omega) (by decide) dX0_disputed_17 ?_
  refine lv_isub hx hb dX0_disputed_18 ?_
  exact W.iret hx hb hr (fun t ht _ => ⟨_, rfl, rfl, ht⟩) (fun _ h => nomatch h) dX0_disputed_19

abbrev rmX0_agreedAmong : Room := ({ frames := 1, cells := 0, slots := 0, locals := 40 } : Room)
set_option maxHeartbeats 4000000 in
set_option maxRecDepth 100000 in
theorem c_X0_agreedAmong (ll : Launch) (D : va_G) (a : Nat → Nat) (cI cJ : ClassId) (p : Nat → Int32) (nu de eq : Nat → Int64) (am nx oA oD oE oP cR aR hR cl ad gw pr : Nat → Int32) (n : Int32) (M : Nat) (hM : M < 2 ^ 31) : Met ll yX0_agreedAmong wsX0_agreedAmong rmX0_agreedAmong (va_Pc [.ref (a 3), .int (nI (M))] (PR D (tyG cI cJ) (GW a cI cJ p nu de eq am nx oA oD oE oP cR aR hR cl ad gw pr n))) (vp_Si (fun rr => rr = agO cl ad M 6)) 0 0 (fun _ => False) := by
  refine Met.ofW (cc := cX0_agreedAmong) (maxL := 6) (ret := (some .int)) (by decide) rfl ?_
  intro pp ee ss mm ar bel mth cd s₁ B hml hv
  obtain ⟨rfl, hP, hK, hE⟩ := hv
  have hx := B.exec
  have hb := B.bytes
  have hr := B.returns
  have hts := atoms_spec (ws := wsX0_agreedAmong) B.pre
  have hown : ss.vm.findClass RX0 = some mm.cls := findClass_of_methodNamed B.named
  have hlocks := B.notSynchronized
  have hin : ∀ w ∈ wsX00, w.before ([.ref (a 3), .int (nI (M))] : List Value).toArray ss = true := fun w h => hts w ((by decide +kernel : ∀ w ∈ wsX00, w ∈ wsX0_agreedAmong) w h)
  have hl := lv_entry [.ref (a 3), .int (nI (M))] (n := 6) (Nat.le_of_ble_eq_true rfl)
  rw [lg_entry_eq]
  generalize (lg_sl [.ref (a 3), .int (nI (M))] ++ List.replicate (6 - (lg_sl [.ref (a 3), .int (nI (M))]).length) Slot.unset).toArray = ls at hl ⊢
  have hl : lv_has ls 6 [(0, .ref (a 3)), (1, .int (nI (M)))] := hl
  generalize hZ : MQ bel _ _ ss _ _ _ = Z
  refine lv_iconst (v := 0) hx hb dX0_agreedAmong_0 (by decide) ?_
  refine lv_istore_n (lv' := [(2, .int (0)), (0, .ref (a 3)), (1, .int (nI (M)))]) hx hb dX0_agreedAmong_1 rfl hl (by decide) rfl (fun ls hl => ?_)
  refine lv_iconst (v := 0) hx hb dX0_agreedAmong_2 (by decide) ?_
  refine lv_istore_n (lv' := [(3, .int (0)), (2, .int (0)), (0, .ref (a 3)), (1, .int (nI (M)))]) hx hb dX0_agreedAmong_3 rfl hl (by decide) rfl (fun ls hl => ?_)
  have L1 : ∀ (n1 i1 : Nat), i1 + n1 = 6 → ∀ (ls : Array Slot), lv_has ls 6 [(3, .int (nI (i1))), (2, .int (agO cl ad M (i1))), (0, .ref (a 3)), (1, .int (nI (M)))] → W pp ll ee rmX0_agreedAmong ss mm (([.ref (a 3), .int (nI (M))] : List Value).toArray) bel mth cd ss.heap [] 0 0 Z (F0 mm 4 ls []) := by
    intro n1
    induction n1 with
    | zero =>
      intro i1 hk1  ls hl
      have hk1b : i1 = 6 := by omega
      obtain rfl := hk1b
      refine lv_iload_n hx hb dX0_agreedAmong_4 rfl (lv_at hl 0 rfl) ?_
      refine lv_bipush (v := 6) hx hb dX0_agreedAmong_5 (by decide) ?_
      refine lv_icmp_ge (tgt := 77) hx hb dX0_agreedAmong_7 (by decide) (fun c_2 => ?_) (fun c_2 => ?_)
      · have n_2 : (6) ≤ (6) := (nI_leI (a := 6) (b := 6) (by omega) (by omega)).mp c_2
        refine lv_iload_n hx hb dX0_agreedAmong_77 rfl (lv_at hl 1 rfl) ?_
        subst hZ; exact W.iret hx hb hr (fun t ht _ => ⟨_, rfl, (by first | rfl | assumption), ht⟩) (fun _ h => nomatch h) dX0_agreedAmong_78
      · have n_2 : ¬ ((6) ≤ (6)) := fun h => c_2 ((nI_leI (a := 6) (b := 6) (by omega) (by omega)).mpr h)
        exfalso; omega
    | succ n1 ih1 =>
      intro i1 hk1  ls hl
      have hk1b : i1 < 6 := by omega
      refine lv_iload_n hx hb dX0_agreedAmong_4 rfl (lv_at hl 0 rfl) ?_
      refine lv_bipush (v := 6) hx hb dX0_agreedAmong_5 (by decide) ?_
      refine lv_icmp_ge (tgt := 77) hx hb dX0_agreedAmong_7 (by decide) (fun c_3 => ?_) (fun c_3 => ?_)
      · have n_3 : (6) ≤ (i1) := (nI_leI (a := 6) (b := i1) (by omega) (by omega)).mp c_3
        exfalso; omega
      · have n_3 : ¬ ((6) ≤ (i1)) := fun h => c_3 ((nI_leI (a := 6) (b := i1) (by omega) (by omega)).mpr h)
        refine lv_iconst (v := 0) hx hb dX0_agreedAmong_10 (by decide) ?_
        refine lv_istore (lv' := [(4, .int (0)), (3, .int (nI (i1))), (2, .int (agO cl ad M (i1))), (0, .ref (a 3)), (1, .int (nI (M)))]) hx hb dX0_agreedAmong_11 hl (by decide) rfl (fun ls hl => ?_)
        have L4 : ∀ (n4 j4 : Nat), j4 + n4 = 6 → ∀ (ls : Array Slot), lv_has ls 6 [(4, .int (nI (j4))), (3, .int (nI (i1))), (2, .int (agI cl ad M i1 (agO cl ad M i1) (j4))), (0, .ref (a 3)), (1, .int (nI (M)))] → W pp ll ee rmX0_agreedAmong ss mm (([.ref (a 3), .int (nI (M))] : List Value).toArray) bel mth cd ss.heap [] 0 0 Z (F0 mm 13 ls []) := by
          intro n4
          induction n4 with
          | zero =>
            intro j4 hk4  ls hl
            have hk4b : j4 = 6 := by omega
            obtain rfl := hk4b
            refine lv_iload hx hb dX0_agreedAmong_13 (lv_at hl 0 rfl) ?_
            refine lv_bipush (v := 6) hx hb dX0_agreedAmong_15 (by decide) ?_
            refine lv_icmp_ge (tgt := 71) hx hb dX0_agreedAmong_17 (by decide) (fun c_5 => ?_) (fun c_5 => ?_)
            · have n_5 : (6) ≤ (6) := (nI_leI (a := 6) (b := 6) (by omega) (by omega)).mp c_5
              refine lv_iinc (v := nI (i1 + 1)) (lv' := [(3, .int (nI (i1 + 1))), (4, .int (nI (6))), (2, .int (agI cl ad M i1 (agO cl ad M i1) (6))), (0, .ref (a 3)), (1, .int (nI (M)))]) hx hb dX0_agreedAmong_71 hl (k := 1) rfl (nI_1 (i1)) (by decide) rfl (fun ls hl => ?_)
              refine lv_goto (tgt := 4) hx hb dX0_agreedAmong_74 (by decide) ?_
              have e_6 : agO cl ad M (i1 + 1) = agI cl ad M i1 (agO cl ad M i1) (6) := by first | rfl | exact if_pos (by assumption) | exact if_neg (by assumption) | (simp only [n_3, n_5, Bool.false_eq_true, ↓reduceIte])
              exact ih1 (i1 + 1) (by omega) ls (by rw [e_6]; exact lv_sub hl [0, 2, 3, 4] rfl)
            · have n_5 : ¬ ((6) ≤ (6)) := fun h => c_5 ((nI_leI (a := 6) (b := 6) (by omega) (by omega)).mpr h)
              exfalso; omega
          | succ n4 ih4 =>
            intro j4 hk4  ls hl
            have hk4b : j4 < 6 := by omega
            refine lv_iload hx hb dX0_agreedAmong_13 (lv_at hl 0 rfl) ?_
            refine lv_bipush (v := 6) hx hb dX0_agreedAmong_15 (by decide) ?_
            refine lv_icmp_ge (tgt := 71) hx hb dX0_agreedAmong_17 (by decide) (fun c_7 => ?_) (fun c_7 => ?_)
            · have n_7 : (6) ≤ (j4) := (nI_leI (a := 6) (b := j4) (by omega) (by omega)).mp c_7
              exfalso; omega
            · have n_7 : ¬ ((6) ≤ (j4)) := fun h => c_7 ((nI_leI (a := 6) (b := j4) (by omega) (by omega)).mpr h)
              refine lv_iload_n hx hb dX0_agreedAmong_20 rfl (lv_at hl 4 rfl) ?_
              refine lv_iload_n hx hb dX0_agreedAmong_21 rfl (lv_at hl 1 rfl) ?_
              refine b_csi (v := bI (mB M i1)) ((va_runSN (As := [.int (nI (M)), .int (nI (i1))]) (rest := []) ⟨hx, hb, hml, hown, hts⟩ (c_X3_isMember ll M i1 (by omega) (by omega)) ⟨va_cnB 2 hts gX0_agreedAmong_X3_isMember_n22 rfl rfl rfl (hE.nest 7 rfl) (hts (.initialized RX3) (by decide +kernel)) (by decide +kernel) ⟨Nat.le_of_ble_eq_true rfl, Nat.le_of_ble_eq_true rfl⟩, hts (.static yX3_isMember) (by decide +kernel), trivial⟩ ⟨PT.blind, PT.to⟩ rfl rfl hl.1 rfl (lv_room (Nat.le_of_ble_eq_true rfl)) dX0_agreedAmong_22 ⟨Nat.le_of_ble_eq_true rfl, Nat.le_of_ble_eq_true rfl⟩).run) ?_
              refine lv_if_eq (tgt := 65) hx hb dX0_agreedAmong_25 (by decide) (fun c_8 => ?_) (fun c_8 => ?_)
              · have n_8 : ¬ (mB M i1) = true := bI0 c_8
                refine lv_iinc (v := nI (j4 + 1)) (lv' := [(4, .int (nI (j4 + 1))), (3, .int (nI (i1))), (2, .int (agI cl ad M i1 (agO cl ad M i1) (j4))), (0, .ref (a 3)), (1, .int (nI (M)))]) hx hb dX0_agreedAmong_65 hl (k := 0) rfl (nI_1 (j4)) (by decide) rfl (fun ls hl => ?_)
                refine lv_goto (tgt := 13) hx hb dX0_agreedAmong_68 (by decide) ?_
                have e_9 : agI cl ad M i1 (agO cl ad M i1) (j4 + 1) = agI cl ad M i1 (agO cl ad M i1) (j4) := by first | rfl | exact if_pos (by assumption) | exact if_neg (by assumption) | (simp only [agI, n_3, n_7, n_8, Bool.false_eq_true, ↓reduceIte])
                exact ih4 (j4 + 1) (by omega) ls (by rw [e_9]; exact lv_sub hl [0, 1, 2, 3, 4] rfl)
              · have n_8 : (mB M i1) = true := bI1 c_8
                refine lv_iload_n hx hb dX0_agreedAmong_28 rfl (lv_at hl 4 rfl) ?_
                refine lv_iload hx hb dX0_agreedAmong_29 (lv_at hl 0 rfl) ?_
                refine b_csi (v := bI (mB M j4)) ((va_runSN (As := [.int (nI (M)), .int (nI (j4))]) (rest := []) ⟨hx, hb, hml, hown, hts⟩ (c_X3_isMember ll M j4 (by omega) (by omega)) ⟨va_cnB 2 hts gX0_agreedAmong_X3_isMember_n22 rfl rfl rfl (hE.nest 7 rfl) (hts (.initialized RX3) (by decide +kernel)) (by decide +kernel) ⟨Nat.le_of_ble_eq_true rfl, Nat.le_of_ble_eq_true rfl⟩, hts (.static yX3_isMember) (by decide +kernel), trivial⟩ ⟨PT.blind, PT.to⟩ rfl rfl hl.1 rfl (lv_room (Nat.le_of_ble_eq_true rfl)) dX0_agreedAmong_31 ⟨Nat.le_of_ble_eq_true rfl, Nat.le_of_ble_eq_true rfl⟩).run) ?_
                refine lv_if_eq (tgt := 65) hx hb dX0_agreedAmong_34 (by decide) (fun c_10 => ?_) (fun c_10 => ?_)
                · have n_10 : ¬ (mB M j4) = true := bI0 c_10
                  refine lv_iinc (v := nI (j4 + 1)) (lv' := [(4, .int (nI (j4 + 1))), (3, .int (nI (i1))), (2, .int (agI cl ad M i1 (agO cl ad M i1) (j4))), (0, .ref (a 3)), (1, .int (nI (M)))]) hx hb dX0_agreedAmong_65 hl (k := 0) rfl (nI_1 (j4)) (by decide) rfl (fun ls hl => ?_)
                  refine lv_goto (tgt := 13) hx hb dX0_agreedAmong_68 (by decide) ?_
                  have e_11 : agI cl ad M i1 (agO cl ad M i1) (j4 + 1) = agI cl ad M i1 (agO cl ad M i1) (j4) := by first | rfl | exact if_pos (by assumption) | exact if_neg (by assumption) | (simp only [agI, n_3, n_7, n_8, n_10, Bool.false_eq_true, ↓reduceIte])
                  exact ih4 (j4 + 1) (by omega) ls (by rw [e_11]; exact lv_sub hl [0, 1, 2, 3, 4] rfl)
                · have n_10 : (mB M j4) = true := bI1 c_10
                  refine lv_iload_n hx hb dX0_agreedAmong_37 rfl (lv_at hl 1 rfl) ?_
                  refine lv_iload hx hb dX0_agreedAmong_38 (lv_at hl 0 rfl) ?_
                  refine b_csi (v := nI (6 * i1 + j4)) ((va_runSN (As := [.int (nI (i1)), .int (nI (j4))]) (rest := []) ⟨hx, hb, hml, hown, hts⟩ (c_X3_pair ll i1 j4 ) ⟨va_cnB 2 hts gX0_agreedAmong_X3_pair_n18 rfl rfl rfl (hE.nest 8 rfl) (hts (.initialized RX3) (by decide +kernel)) (by decide +kernel) ⟨Nat.le_of_ble_eq_true rfl, Nat.le_of_ble_eq_true rfl⟩, hts (.static yX3_pair) (by decide +kernel), trivial⟩ ⟨PT.blind, PT.to⟩ rfl rfl hl.1 rfl (lv_room (Nat.le_of_ble_eq_true rfl)) dX0_agreedAmong_40 ⟨Nat.le_of_ble_eq_true rfl, Nat.le_of_ble_eq_true rfl⟩).run) ?_
                  refine lv_istore (lv' := [(5, .int (nI (6 * i1 + j4))), (4, .int (nI (j4))), (3, .int (nI (i1))), (2, .int (agI cl ad M i1 (agO cl ad M i1) (j4))), (0, .ref (a 3)), (1, .int (nI (M)))]) hx hb dX0_agreedAmong_43 hl (by decide) rfl (fun ls hl => ?_)
                  refine lv_iload_n hx hb dX0_agreedAmong_45 rfl (lv_at hl 3 rfl) ?_
                  refine lv_aload_n hx hb dX0_agreedAmong_46 rfl (lv_at hl 4 rfl) ?_
                  refine va_get (D := D) (ci := 0) (v := .ref (a 19)) (C := RX0) (T := TX0) (N := 2) (Ts := wsX00) hx hb hin (fun _ h9 => h9) hown hK hP 3 rfl rfl 0 (by decide) (hts (.fieldLink RX0 9 "Groupbooks$Balances" "claims" "[I") (by decide +kernel)) (fun _ h9 => h9) rfl dX0_agreedAmong_47 ?_
                  refine lv_iload hx hb dX0_agreedAmong_50 (lv_at hl 0 rfl) ?_
                  refine b_iald hx hb hK hP 19 0 (f := cl) rfl rfl (j := 6 * i1 + j4) (by omega) (by decide) dX0_agreedAmong_52 ?_
                  refine lv_aload_n hx hb dX0_agreedAmong_53 rfl (lv_at hl 4 rfl) ?_
                  refine va_get (D := D) (ci := 0) (v := .ref (a 20)) (C := RX0) (T := TX0) (N := 2) (Ts := wsX00) hx hb hin (fun _ h9 => h9) hown hK hP 3 rfl rfl 1 (by decide) (hts (.fieldLink RX0 15 "Groupbooks$Balances" "admissions" "[I") (by decide +kernel)) (fun _ h9 => h9) rfl dX0_agreedAmong_54 ?_
                  refine lv_iload hx hb dX0_agreedAmong_57 (lv_at hl 0 rfl) ?_
                  refine b_iald hx hb hK hP 20 0 (f := ad) rfl rfl (j := 6 * i1 + j4) (by omega) (by decide) dX0_agreedAmong_59 ?_
                  refine va_mmin hx hb (hml.trans hl.1.symm) hown (hts (.methodLink RX0 26 Lib.Math.min.name) (by decide +kernel)) (hts (.static Lib.Math.min.name) (by decide +kernel)) (hts (.initialized "java/lang/Math") (by decide +kernel)) (hts (.code Lib.Math.min.name Lib.Math.min.code 2 (some .int)) (by decide +kernel)) (Nat.le_of_ble_eq_true rfl) (Nat.le_of_ble_eq_true rfl) (Nat.le_of_ble_eq_true rfl) (Nat.le_of_ble_eq_true rfl) dX0_agreedAmong_60 ?_
                  refine lv_iadd hx hb dX0_agreedAmong_63 ?_
                  refine lv_istore_n (lv' := [(2, .int ((agI cl ad M i1 (agO cl ad M i1) (j4)) + (if ad (6 * i1 + j4) < cl (6 * i1 + j4) then ad (6 * i1 + j4) else cl (6 * i1 + j4)))), (5, .int (nI (6 * i1 + j4))), (4, .int (nI (j4))), (3, .int (nI (i1))), (0, .ref (a 3)), (1, .int (nI (M)))]) hx hb dX0_agreedAmong_64 rfl hl (by decide) rfl (fun ls hl => ?_)
                  refine lv_iinc (v := nI (j4 + 1)) (lv' := [(4, .int (nI (j4 + 1))), (2, .int ((agI cl ad M i1 (agO cl ad M i1) (j4)) + (if ad (6 * i1 + j4) < cl (6 * i1 + j4) then ad (6 * i1 + j4) else cl (6 * i1 + j4)))), (5, .int (nI (6 * i1 + j4))), (3, .int (nI (i1))), (0, .ref (a 3)), (1, .int (nI (M)))]) hx hb dX0_agreedAmong_65 hl (k := 2) rfl (nI_1 (j4)) (by decide) rfl (fun ls hl => ?_)
                  refine lv_goto (tgt := 13) hx hb dX0_agreedAmong_68 (by decide) ?_
                  have e_12 : agI cl ad M i1 (agO cl ad M i1) (j4 + 1) = (agI cl ad M i1 (agO cl ad M i1) (j4)) + (if ad (6 * i1 + j4) < cl (6 * i1 + j4) then ad (6 * i1 + j4) else cl (6 * i1 + j4)) := by first | rfl | exact if_pos (by assumption) | exact if_neg (by assumption) | (simp only [agI, n_3, n_7, n_8, n_10, Bool.false_eq_true, ↓reduceIte])
                  exact ih4 (j4 + 1) (by omega) ls (by rw [e_12]; exact lv_sub hl [0, 3, 1, 4, 5] rfl)
        exact L4 (6) 0 (by omega) ls (lv_sub hl [0, 1, 2, 3, 4] rfl)
  exact L1 (6) 0 (by omega) ls (lv_sub hl [0, 1, 2, 3] rfl)

abbrev rmX1_enter : Room := ({ frames := 0, cells := 0, slots := 0, locals := 0 } : Room)
set_option maxHeartbeats 4000000 in
set_option maxRecDepth 100000 in
theorem c_X1_enter (ll : Launch) (D : va_G) (a : Nat → Nat) (cI cJ : ClassId) (sz : Nat) (p : Nat → Int32) (nu de eq : Nat → Int64) (am nx oA oD oE oP cR aR hR cl ad gw pr : Nat → Int32) (n : Int32) (c : Nat) (x1 x2 x3 x4 : Int32) (hc : c < 6) : Met ll yX1_enter wsX1_enter rmX1_enter (va_Pc [.ref (a 2), .int (nI (c)), .int (x1), .int (x2), .int (x3), .int (x4)] (PW D (tyG cI cJ) (GW a cI cJ p nu de eq am nx oA oD oE oP cR aR hR cl ad gw pr n) sz)) (va_Qv (fun (u : Unit) => True) (fun (u : Unit) t => AW D (tyG cI cJ) (va_A (GW a cI cJ p nu de eq am nx oA oD oE oP cR aR hR cl ad gw pr n) sz) (GW a cI cJ p nu de eq am nx (upd oA c x1) (upd oD c x2) (upd oE c x3) (upd oP c x4) cR aR hR cl ad gw pr n) t) (va_A (GW a cI cJ p nu de eq am nx oA oD oE oP cR aR hR cl ad gw pr n) sz)) 0 0 (va_A (GW a cI cJ p nu de eq am nx oA oD oE oP cR aR hR cl ad gw pr n) sz) := by
  refine Met.ofW (cc := cX1_enter) (maxL := 6) (ret := none) (by decide) rfl ?_
  intro pp ee ss mm ar bel mth cd s₁ B hml hv
  obtain ⟨rfl, hsz, hP, hK, hD0, hE⟩ := hv
  have hx := B.exec
  have hb := B.bytes
  have hr := B.returns
  have hts := atoms_spec (ws := wsX1_enter) B.pre
  have hown : ss.vm.findClass RX1 = some mm.cls := findClass_of_methodNamed B.named
  have hlocks := B.notSynchronized
  subst hsz
  have hD := hD0.self (sz := ss.heap.size)
  generalize hAe : va_A (GW a cI cJ p nu de eq am nx oA oD oE oP cR aR hR cl ad gw pr n) ss.heap.size = A at hD ⊢
  have hA : ∀ q : Nat, ss.heap.size ≤ q → A q := fun q h => by rw [← hAe]; exact Or.inr h
  have hS : va_S A ss.heap ss.heap [] := va_S.rf
  have hin : ∀ w ∈ wsX10, w.before ([.ref (a 2), .int (nI (c)), .int (x1), .int (x2), .int (x3), .int (x4)] : List Value).toArray ss = true := fun w h => hts w ((by decide +kernel : ∀ w ∈ wsX10, w ∈ wsX1_enter) w h)
  have hl := lv_entry [.ref (a 2), .int (nI (c)), .int (x1), .int (x2), .int (x3), .int (x4)] (n := 6) (Nat.le_of_ble_eq_true rfl)
  rw [lg_entry_eq]
  generalize (lg_sl [.ref (a 2), .int (nI (c)), .int (x1), .int (x2), .int (x3), .int (x4)] ++ List.replicate (6 - (lg_sl [.ref (a 2), .int (nI (c)), .int (x1), .int (x2), .int (x3), .int (x4)]).length) Slot.unset).toArray = ls at hl ⊢
  have hl : lv_has ls 6 [(0, .ref (a 2)), (1, .int (nI (c))), (2, .int (x1)), (3, .int (x2)), (4, .int (x3)), (5, .int (x4))] := hl
  refine lv_aload_n hx hb dX1_enter_0 rfl (lv_at hl 0 rfl) ?_
  refine va_get (D := D) (ci := 1) (v := .ref (a 12)) (C := RX1) (T := TX1) (N := 7) (Ts := wsX10) hx hb hin (fun _ h9 => h9) hown hK hP 2 rfl rfl 0 (by decide) (hts (.fieldLink RX1 9 "Groupbooks$Books" "ownAssets" "[I") (by decide +kernel)) (fun _ h9 => h9) rfl dX1_enter_1 ?_
  refine lv_iload_n hx hb dX1_enter_4 rfl (lv_at hl 1 rfl) ?_
  refine lv_iload_n hx hb dX1_enter_5 rfl (lv_at hl 2 rfl) ?_
  refine b_iast (w' := GW a cI cJ p nu de eq am nx (upd oA (c) (x1)) oD oE oP cR aR hR cl ad gw pr n) hx hb hK hP hD hS 12 0 (f := oA) rfl rfl (j := c) (by omega) (by decide) rfl dX1_enter_6 (fun H locs hP hD hS => ?_)
  refine lv_aload_n hx hb dX1_enter_7 rfl (lv_at hl 0 rfl) ?_
  refine va_get (D := D) (ci := 1) (v := .ref (a 13)) (C := RX1) (T := TX1) (N := 7) (Ts := wsX10) hx hb hin (fun _ h9 => h9) hown hK hP 2 rfl rfl 1 (by decide) (hts (.fieldLink RX1 15 "Groupbooks$Books" "ownDebts" "[I") (by decide +kernel)) (fun _ h9 => h9) rfl dX1_enter_8 ?_
  refine lv_iload_n hx hb dX1_enter_11 rfl (lv_at hl 1 rfl) ?_
  refine lv_iload_n hx hb dX1_enter_12 rfl (lv_at hl 3 rfl) ?_
  refine b_iast (w' := GW a cI cJ p nu de eq am nx (upd oA (c) (x1)) (upd oD (c) (x2)) oE oP cR aR hR cl ad gw pr n) hx hb hK hP hD hS 13 0 (f := oD) rfl rfl (j := c) (by omega) (by decide) rfl dX1_enter_13 (fun H locs hP hD hS => ?_)
  refine lv_aload_n hx hb dX1_enter_14 rfl (lv_at hl 0 rfl) ?_
  refine va_get (D := D) (ci := 1) (v := .ref (a 14)) (C := RX1) (T := TX1) (N := 7) (Ts := wsX10) hx hb hin (fun _ h9 => h9) hown hK hP 2 rfl rfl 2 (by decide) (hts (.fieldLink RX1 18 "Groupbooks$Books" "ownEquities" "[I") (by decide +kernel)) (fun _ h9 => h9) rfl dX1_enter_15 ?_
  refine lv_iload_n hx hb dX1_enter_18 rfl (lv_at hl 1 rfl) ?_
  refine lv_iload hx hb dX1_enter_19 (lv_at hl 4 rfl) ?_
  refine b_iast (w' := GW a cI cJ p nu de eq am nx (upd oA (c) (x1)) (upd oD (c) (x2)) (upd oE (c) (x3)) oP cR aR hR cl ad gw pr n) hx hb hK hP hD hS 14 0 (f := oE) rfl rfl (j := c) (by omega) (by decide) rfl dX1_enter_21 (fun H locs hP hD hS => ?_)
  refine lv_aload_n hx hb dX1_enter_22 rfl (lv_at hl 0 rfl) ?_
  refine va_get (D := D) (ci := 1) (v := .ref (a 15)) (C := RX1) (T := TX1) (N := 7) (Ts := wsX10) hx hb hin (fun _ h9 => h9) hown hK hP 2 rfl rfl 3 (by decide) (hts (.fieldLink RX1 21 "Groupbooks$Books" "ownProfits" "[I") (by decide +kernel)) (fun _ h9 => h9) rfl dX1_enter_23 ?_
  refine lv_iload_n hx hb dX1_enter_26 rfl (lv_at hl 1 rfl) ?_
  refine lv_iload hx hb dX1_enter_27 (lv_at hl 5 rfl) ?_
  refine b_iast (w' := GW a cI cJ p nu de eq am nx (upd oA (c) (x1)) (upd oD (c) (x2)) (upd oE (c) (x3)) (upd oP (c) (x4)) cR aR hR cl ad gw pr n) hx hb hK hP hD hS 15 0 (f := oP) rfl rfl (j := c) (by omega) (by decide) rfl dX1_enter_29 (fun H locs hP hD hS => ?_)
  exact W.vret hx hb hr (fun t ht hW => ⟨⟨(), rfl, trivial, (by rw [ht]; exact hP), va_K.moved hW.alike hK, hD⟩, hS.F ht⟩) hS.2.2 dX1_enter_30

abbrev rmX1_enterRates : Room := ({ frames := 0, cells := 0, slots := 0, locals := 0 } : Room)
set_option maxHeartbeats 4000000 in
set_option maxRecDepth 100000 in
theorem c_X1_enterRates (ll : Launch) (D : va_G) (a : Nat → Nat) (cI cJ : ClassId) (sz : Nat) (p : Nat → Int32) (nu de eq : Nat → Int64) (am nx oA oD oE oP cR aR hR cl ad gw pr : Nat → Int32) (n : Int32) (c : Nat) (x1 x2 x3 : Int32) (hc : c < 6) : Met ll yX1_enterRates wsX1_enterRates rmX1_enterRates (va_Pc [.ref (a 2), .int (nI (c)), .int (x1), .int (x2), .int (x3)] (PW D (tyG cI cJ) (GW a cI cJ p nu de eq am nx oA oD oE oP cR aR hR cl ad gw pr n) sz)) (va_Qv (fun (u : Unit) => True) (fun (u : Unit) t => AW D (tyG cI cJ) (va_A (GW a cI cJ p nu de eq am nx oA oD oE oP cR aR hR cl ad gw pr n) sz) (GW a cI cJ p nu de eq am nx oA oD oE oP (upd cR c x1) (upd aR c x2) (upd hR c x3) cl ad gw pr n) t) (va_A (GW a cI cJ p nu de eq am nx oA oD oE oP cR aR hR cl ad gw pr n) sz)) 0 0 (va_A (GW a cI cJ p nu de eq am nx oA oD oE oP cR aR hR cl ad gw pr n) sz) := by
  refine Met.ofW (cc := cX1_enterRates) (maxL := 5) (ret := none) (by decide) rfl ?_
  intro pp ee ss mm ar bel mth cd s₁ B hml hv
  obtain ⟨rfl, hsz, hP, hK, hD0, hE⟩ := hv
  have hx := B.exec
  have hb := B.bytes
  have hr := B.returns
  have hts := atoms_spec (ws := wsX1_enterRates) B.pre
  have hown : ss.vm.findClass RX1 = some mm.cls := findClass_of_methodNamed B.named
  have hlocks := B.notSynchronized
  subst hsz
  have hD := hD0.self (sz := ss.heap.size)
  generalize hAe : va_A (GW a cI cJ p nu de eq am nx oA oD oE oP cR aR hR cl ad gw pr n) ss.heap.size = A at hD ⊢
  have hA : ∀ q : Nat, ss.heap.size ≤ q → A q := fun q h => by rw [← hAe]; exact Or.inr h
  have hS : va_S A ss.heap ss.heap [] := va_S.rf
  have hin : ∀ w ∈ wsX10, w.before ([.ref (a 2), .int (nI (c)), .int (x1), .int (x2), .int (x3)] : List Value).toArray ss = true := fun w h => hts w ((by decide +kernel : ∀ w ∈ wsX10, w ∈ wsX1_enterRates) w h)
  have hl := lv_entry [.ref (a 2), .int (nI (c)), .int (x1), .int (x2), .int (x3)] (n := 5) (Nat.le_of_ble_eq_true rfl)
  rw [lg_entry_eq]
  generalize (lg_sl [.ref (a 2), .int (nI (c)), .int (x1), .int (x2), .int (x3)] ++ List.replicate (5 - (lg_sl [.ref (a 2), .int (nI (c)), .int (x1), .int (x2), .int (x3)]).length) Slot.unset).toArray = ls at hl ⊢
  have hl : lv_has ls 5 [(0, .ref (a 2)), (1, .int (nI (c))), (2, .int (x1)), (3, .int (x2)), (4, .int (x3))] := hl
  refine lv_aload_n hx hb dX1_enterRates_0 rfl (lv_at hl 0 rfl) ?_
  refine va_get (D := D) (ci := 1) (v := .ref (a 16)) (C := RX1) (T := TX1) (N := 7) (Ts := wsX10) hx hb hin (fun _ h9 => h9) hown hK hP 2 rfl rfl 4 (by decide) (hts (.fieldLink RX1 24 "Groupbooks$Books" "closingRates" "[I") (by decide +kernel)) (fun _ h9 => h9) rfl dX1_enterRates_1 ?_
  refine lv_iload_n hx hb dX1_enterRates_4 rfl (lv_at hl 1 rfl) ?_
  refine lv_iload_n hx hb dX1_enterRates_5 rfl (lv_at hl 2 rfl) ?_
  refine b_iast (w' := GW a cI cJ p nu de eq am nx oA oD oE oP (upd cR (c) (x1)) aR hR cl ad gw pr n) hx hb hK hP hD hS 16 0 (f := cR) rfl rfl (j := c) (by omega) (by decide) rfl dX1_enterRates_6 (fun H locs hP hD hS => ?_)
  refine lv_aload_n hx hb dX1_enterRates_7 rfl (lv_at hl 0 rfl) ?_
  refine va_get (D := D) (ci := 1) (v := .ref (a 17)) (C := RX1) (T := TX1) (N := 7) (Ts := wsX10) hx hb hin (fun _ h9 => h9) hown hK hP 2 rfl rfl 5 (by decide) (hts (.fieldLink RX1 27 "Groupbooks$Books" "averageRates" "[I") (by decide +kernel)) (fun _ h9 => h9) rfl dX1_enterRates_8 ?_
  refine lv_iload_n hx hb dX1_enterRates_11 rfl (lv_at hl 1 rfl) ?_
  refine lv_iload_n hx hb dX1_enterRates_12 rfl (lv_at hl 3 rfl) ?_
  refine b_iast (w' := GW a cI cJ p nu de eq am nx oA oD oE oP (upd cR (c) (x1)) (upd aR (c) (x2)) hR cl ad gw pr n) hx hb hK hP hD hS 17 0 (f := aR) rfl rfl (j := c) (by omega) (by decide) rfl dX1_enterRates_13 (fun H locs hP hD hS => ?_)
  refine lv_aload_n hx hb dX1_enterRates_14 rfl (lv_at hl 0 rfl) ?_
  refine va_get (D := D) (ci := 1) (v := .ref (a 18)) (C := RX1) (T := TX1) (N := 7) (Ts := wsX10) hx hb hin (fun _ h9 => h9) hown hK hP 2 rfl rfl 6 (by decide) (hts (.fieldLink RX1 30 "Groupbooks$Books" "historicalRates" "[I") (by decide +kernel)) (fun _ h9 => h9) rfl dX1_enterRates_15 ?_
  refine lv_iload_n hx hb dX1_enterRates_18 rfl (lv_at hl 1 rfl) ?_
  refine lv_iload hx hb dX1_enterRates_19 (lv_at hl 4 rfl) ?_
  refine b_iast (w' := GW a cI cJ p nu de eq am nx oA oD oE oP (upd cR (c) (x1)) (upd aR (c) (x2)) (upd hR (c) (x3)) cl ad gw pr n) hx hb hK hP hD hS 18 0 (f := hR) rfl rfl (j := c) (by omega) (by decide) rfl dX1_enterRates_21 (fun H locs hP hD hS => ?_)
  exact W.vret hx hb hr (fun t ht hW => ⟨⟨(), rfl, trivial, (by rw [ht]; exact hP), va_K.moved hW.alike hK, hD⟩, hS.F ht⟩) hS.2.2 dX1_enterRates_22

abbrev rmX1_assetsOf : Room := ({ frames := 2, cells := 0, slots := 0, locals := 43 } : Room)
set_option maxHeartbeats 4000000 in
set_option maxRecDepth 100000 in
theorem c_X1_assetsOf (ll : Launch) (D : va_G) (a : Nat → Nat) (cI cJ : ClassId) (p : Nat → Int32) (nu de eq : Nat → Int64) (am nx oA oD oE oP cR aR hR cl ad gw pr : Nat → Int32) (n : Int32) (c : Nat) (hc : c < 6) : Met ll yX1_assetsOf wsX1_assetsOf rmX1_assetsOf (va_Pc [.ref (a 2), .int (nI (c))] (PR D (tyG cI cJ) (GW a cI cJ p nu de eq am nx oA oD oE oP cR aR hR cl ad gw pr n))) (vp_Si (fun rr => rr = tr (oA c) (cR c))) 0 0 (fun _ => False) := by
  refine Met.ofW (cc := cX1_assetsOf) (maxL := 2) (ret := (some .int)) (by decide) rfl ?_
  intro pp ee ss mm ar bel mth cd s₁ B hml hv
  obtain ⟨rfl, hP, hK, hE⟩ := hv
  have hx := B.exec
  have hb := B.bytes
  have hr := B.returns
  have hts := atoms_spec (ws := wsX1_assetsOf) B.pre
  have hown : ss.vm.findClass RX1 = some mm.cls := findClass_of_methodNamed B.named
  have hlocks := B.notSynchronized
  have hin : ∀ w ∈ wsX10, w.before ([.ref (a 2), .int (nI (c))] : List Value).toArray ss = true := fun w h => hts w ((by decide +kernel : ∀ w ∈ wsX10, w ∈ wsX1_assetsOf) w h)
  have hl := lv_entry [.ref (a 2), .int (nI (c))] (n := 2) (Nat.le_of_ble_eq_true rfl)
  rw [lg_entry_eq]
  generalize (lg_sl [.ref (a 2), .int (nI (c))] ++ List.replicate (2 - (lg_sl [.ref (a 2), .int (nI (c))]).length) Slot.unset).toArray = ls at hl ⊢
  have hl : lv_has ls 2 [(0, .ref (a 2)), (1, .int (nI (c)))] := hl
  refine lv_aload_n hx hb dX1_assetsOf_0 rfl (lv_at hl 0 rfl) ?_
  refine va_get (D := D) (ci := 1) (v := .ref (a 12)) (C := RX1) (T := TX1) (N := 7) (Ts := wsX10) hx hb hin (fun _ h9 => h9) hown hK hP 2 rfl rfl 0 (by decide) (hts (.fieldLink RX1 9 "Groupbooks$Books" "ownAssets" "[I") (by decide +kernel)) (fun _ h9 => h9) rfl dX1_assetsOf_1 ?_
  refine lv_iload_n hx hb dX1_assetsOf_4 rfl (lv_at hl 1 rfl) ?_
  refine b_iald hx hb hK hP 12 0 (f := oA) rfl rfl (j := c) (by omega) (by decide) dX1_assetsOf_5 ?_
  refine lv_aload_n hx hb dX1_assetsOf_6 rfl (lv_at hl 0 rfl) ?_
  refine va_get (D := D) (ci := 1) (v := .ref (a 16)) (C := RX1) (T := TX1) (N := 7) (Ts := wsX10) hx hb hin (fun _ h9 => h9) hown hK hP 2 rfl rfl 4 (by decide) (hts (.fieldLink RX1 24 "Groupbooks$Books" "closingRates" "[I") (by decide +kernel)) (fun _ h9 => h9) rfl dX1_assetsOf_7 ?_
  refine lv_iload_n hx hb dX1_assetsOf_10 rfl (lv_at hl 1 rfl) ?_
  refine b_iald hx hb hK hP 16 0 (f := cR) rfl rfl (j := c) (by omega) (by decide) dX1_assetsOf_11 ?_
  refine b_csi (v := tr (oA (c)) (cR (c))) (W.runS (As := [.int (oA (c)), .int (cR (c))]) (rest := []) ⟨hx, hb, hml, hown, hts⟩ (c_X1_translate ll (oA (c)) (cR (c)) ) (va_cwS 2 hts gX1_assetsOf_X1_translate rfl rfl rfl (by decide +kernel) ⟨Nat.le_of_ble_eq_true rfl, Nat.le_of_ble_eq_true rfl⟩) ⟨PT.blind, PT.to⟩ rfl rfl hl.1 rfl (lv_room (Nat.le_of_ble_eq_true rfl)) dX1_assetsOf_12 ⟨Nat.le_of_ble_eq_true rfl, Nat.le_of_ble_eq_true rfl⟩) ?_
  exact W.iret hx hb hr (fun t ht _ => ⟨_, rfl, rfl, ht⟩) (fun _ h => nomatch h) dX1_assetsOf_15

abbrev rmX1_debtsOf : Room := ({ frames := 2, cells := 0, slots := 0, locals := 43 } : Room)
set_option maxHeartbeats 4000000 in
set_option maxRecDepth 100000 in
theorem c_X1_debtsOf (ll : Launch) (D : va_G) (a : Nat → Nat) (cI cJ : ClassId) (p : Nat → Int32) (nu de eq : Nat → Int64) (am nx oA oD oE oP cR aR hR cl ad gw pr : Nat → Int32) (n : Int32) (c : Nat) (hc : c < 6) : Met ll yX1_debtsOf wsX1_debtsOf rmX1_debtsOf (va_Pc [.ref (a 2), .int (nI (c))] (PR D (tyG cI cJ) (GW a cI cJ p nu de eq am nx oA oD oE oP cR aR hR cl ad gw pr n))) (vp_Si (fun rr => rr = tr (oD c) (cR c))) 0 0 (fun _ => False) := by
  refine Met.ofW (cc := cX1_debtsOf) (maxL := 2) (ret := (some .int)) (by decide) rfl ?_
  intro pp ee ss mm ar bel mth cd s₁ B hml hv
  obtain ⟨rfl, hP, hK, hE⟩ := hv
  have hx := B.exec
  have hb := B.bytes
  have hr := B.returns
  have hts := atoms_spec (ws := wsX1_debtsOf) B.pre
  have hown : ss.vm.findClass RX1 = some mm.cls := findClass_of_methodNamed B.named
  have hlocks := B.notSynchronized
  have hin : ∀ w ∈ wsX10, w.before ([.ref (a 2), .int (nI (c))] : List Value).toArray ss = true := fun w h => hts w ((by decide +kernel : ∀ w ∈ wsX10, w ∈ wsX1_debtsOf) w h)
  have hl := lv_entry [.ref (a 2), .int (nI (c))] (n := 2) (Nat.le_of_ble_eq_true rfl)
  rw [lg_entry_eq]
  generalize (lg_sl [.ref (a 2), .int (nI (c))] ++ List.replicate (2 - (lg_sl [.ref (a 2), .int (nI (c))]).length) Slot.unset).toArray = ls at hl ⊢
  have hl : lv_has ls 2 [(0, .ref (a 2)), (1, .int (nI (c)))] := hl
  refine lv_aload_n hx hb dX1_debtsOf_0 rfl (lv_at hl 0 rfl) ?_
  refine va_get (D := D) (ci := 1) (v := .ref (a 13)) (C := RX1) (T := TX1) (N := 7) (Ts := wsX10) hx hb hin (fun _ h9 => h9) hown hK hP 2 rfl rfl 1 (by decide) (hts (.fieldLink RX1 15 "Groupbooks$Books" "ownDebts" "[I") (by decide +kernel)) (fun _ h9 => h9) rfl dX1_debtsOf_1 ?_
  refine lv_iload_n hx hb dX1_debtsOf_4 rfl (lv_at hl 1 rfl) ?_
  refine b_iald hx hb hK hP 13 0 (f := oD) rfl rfl (j := c) (by omega) (by decide) dX1_debtsOf_5 ?_
  refine lv_aload_n hx hb dX1_debtsOf_6 rfl (lv_at hl 0 rfl) ?_
  refine va_get (D := D) (ci := 1) (v := .ref (a 16)) (C := RX1) (T := TX1) (N := 7) (Ts := wsX10) hx hb hin (fun _ h9 => h9) hown hK hP 2 rfl rfl 4 (by decide) (hts (.fieldLink RX1 24 "Groupbooks$Books" "closingRates" "[I") (by decide +kernel)) (fun _ h9 => h9) rfl dX1_debtsOf_7 ?_
  refine lv_iload_n hx hb dX1_debtsOf_10 rfl (lv_at hl 1 rfl) ?_
  refine b_iald hx hb hK hP 16 0 (f := cR) rfl rfl (j := c) (by omega) (by decide) dX1_debtsOf_11 ?_
  refine b_csi (v := tr (oD (c)) (cR (c))) (W.runS (As := [.int (oD (c)), .int (cR (c))]) (rest := []) ⟨hx, hb, hml, hown, hts⟩ (c_X1_translate ll (oD (c)) (cR (c)) ) (va_cwS 2 hts gX1_debtsOf_X1_translate rfl rfl rfl (by decide +kernel) ⟨Nat.le_of_ble_eq_true rfl, Nat.le_of_ble_eq_true rfl⟩) ⟨PT.blind, PT.to⟩ rfl rfl hl.1 rfl (lv_room (Nat.le_of_ble_eq_true rfl)) dX1_debtsOf_12 ⟨Nat.le_of_ble_eq_true rfl, Nat.le_of_ble_eq_true rfl⟩) ?_
  exact W.iret hx hb hr (fun t ht _ => ⟨_, rfl, rfl, ht⟩) (fun _ h => nomatch h) dX1_debtsOf_15

abbrev rmX1_equityOf : Room := ({ frames := 2, cells := 0, slots := 0, locals := 43 } : Room)
set_option maxHeartbeats 4000000 in
set_option maxRecDepth 100000 in
theorem c_X1_equityOf (ll : Launch) (D : va_G) (a : Nat → Nat) (cI cJ : ClassId) (p : Nat → Int32) (nu de eq : Nat → Int64) (am nx oA oD oE oP cR aR hR cl ad gw pr : Nat → Int32) (n : Int32) (c : Nat) (hc : c < 6) : Met ll yX1_equityOf wsX1_equityOf rmX1_equityOf (va_Pc [.ref (a 2), .int (nI (c))] (PR D (tyG cI cJ) (GW a cI cJ p nu de eq am nx oA oD oE oP cR aR hR cl ad gw pr n))) (vp_Si (fun rr => rr = tr (oE c) (hR c))) 0 0 (fun _ => False) := by
  refine Met.ofW (cc := cX1_equityOf) (maxL := 2) (ret := (some .int)) (by decide) rfl ?_
  intro pp ee ss mm ar bel mth cd s₁ B hml hv
  obtain ⟨rfl, hP, hK, hE⟩ := hv
  have hx := B.exec
  have hb := B.bytes
  have hr := B.returns
  have hts := atoms_spec (ws := wsX1_equityOf) B.pre
  have hown : ss.vm.findClass RX1 = some mm.cls := findClass_of_methodNamed B.named
  have hlocks := B.notSynchronized
  have hin : ∀ w ∈ wsX10, w.before ([.ref (a 2), .int (nI (c))] : List Value).toArray ss = true := fun w h => hts w ((by decide +kernel : ∀ w ∈ wsX10, w ∈ wsX1_equityOf) w h)
  have hl := lv_entry [.ref (a 2), .int (nI (c))] (n := 2) (Nat.le_of_ble_eq_true rfl)
  rw [lg_entry_eq]
  generalize (lg_sl [.ref (a 2), .int (nI (c))] ++ List.replicate (2 - (lg_sl [.ref (a 2), .int (nI (c))]).length) Slot.unset).toArray = ls at hl ⊢
  have hl : lv_has ls 2 [(0, .ref (a 2)), (1, .int (nI (c)))] := hl
  refine lv_aload_n hx hb dX1_equityOf_0 rfl (lv_at hl 0 rfl) ?_
  refine va_get (D := D) (ci := 1) (v := .ref (a 14)) (C := RX1) (T := TX1) (N := 7) (Ts := wsX10) hx hb hin (fun _ h9 => h9) hown hK hP 2 rfl rfl 2 (by decide) (hts (.fieldLink RX1 18 "Groupbooks$Books" "ownEquities" "[I") (by decide +kernel)) (fun _ h9 => h9) rfl dX1_equityOf_1 ?_
  refine lv_iload_n hx hb dX1_equityOf_4 rfl (lv_at hl 1 rfl) ?_
  refine b_iald hx hb hK hP 14 0 (f := oE) rfl rfl (j := c) (by omega) (by decide) dX1_equityOf_5 ?_
  refine lv_aload_n hx hb dX1_equityOf_6 rfl (lv_at hl 0 rfl) ?_
  refine va_get (D := D) (ci := 1) (v := .ref (a 18)) (C := RX1) (T := TX1) (N := 7) (Ts := wsX10) hx hb hin (fun _ h9 => h9) hown hK hP 2 rfl rfl 6 (by decide) (hts (.fieldLink RX1 30 "Groupbooks$Books" "historicalRates" "[I") (by decide +kernel)) (fun _ h9 => h9) rfl dX1_equityOf_7 ?_
  refine lv_iload_n hx hb dX1_equityOf_10 rfl (lv_at hl 1 rfl) ?_
  refine b_iald hx hb hK hP 18 0 (f := hR) rfl rfl (j := c) (by omega) (by decide) dX1_equityOf_11 ?_
  refine b_csi (v := tr (oE (c)) (hR (c))) (W.runS (As := [.int (oE (c)), .int (hR (c))]) (rest := []) ⟨hx, hb, hml, hown, hts⟩ (c_X1_translate ll (oE (c)) (hR (c)) ) (va_cwS 2 hts gX1_equityOf_X1_translate rfl rfl rfl (by decide +kernel) ⟨Nat.le_of_ble_eq_true rfl, Nat.le_of_ble_eq_true rfl⟩) ⟨PT.blind, PT.to⟩ rfl rfl hl.1 rfl (lv_room (Nat.le_of_ble_eq_true rfl)) dX1_equityOf_12 ⟨Nat.le_of_ble_eq_true rfl, Nat.le_of_ble_eq_true rfl⟩) ?_
  exact W.iret hx hb hr (fun t ht _ => ⟨_, rfl, rfl, ht⟩) (fun _ h => nomatch h) dX1_equityOf_15

abbrev rmX1_profitOf : Room := ({ frames := 2, cells := 0, slots := 0, locals := 43 } : Room)
set_option maxHeartbeats 4000000 in
set_option maxRecDepth 100000 in
theorem c_X1_profitOf (ll : Launch) (D : va_G) (a : Nat → Nat) (cI cJ : ClassId) (p : Nat → Int32) (nu de eq : Nat → Int64) (am nx oA oD oE oP cR aR hR cl ad gw pr : Nat → Int32) (n : Int32) (c : Nat) (hc : c < 6) : Met ll yX1_profitOf wsX1_profitOf rmX1_profitOf (va_Pc [.ref (a 2), .int (nI (c))] (PR D (tyG cI cJ) (GW a cI cJ p nu de eq am nx oA oD oE oP cR aR hR cl ad gw pr n))) (vp_Si (fun rr => rr = tr (oP c) (aR c))) 0 0 (fun _ => False) := by
  refine Met.ofW (cc := cX1_profitOf) (maxL := 2) (ret := (some .int)) (by decide) rfl ?_
  intro pp ee ss mm ar bel mth cd s₁ B hml hv
  obtain ⟨rfl, hP, hK, hE⟩ := hv
  have hx := B.exec
  have hb := B.bytes
  have hr := B.returns
  have hts := atoms_spec (ws := wsX1_profitOf) B.pre
  have hown : ss.vm.findClass RX1 = some mm.cls := findClass_of_methodNamed B.named
  have hlocks := B.notSynchronized
  have hin : ∀ w ∈ wsX10, w.before ([.ref (a 2), .int (nI (c))] : List Value).toArray ss = true := fun w h => hts w ((by decide +kernel : ∀ w ∈ wsX10, w ∈ wsX1_profitOf) w h)
  have hl := lv_entry [.ref (a 2), .int (nI (c))] (n := 2) (Nat.le_of_ble_eq_true rfl)
  rw [lg_entry_eq]
  generalize (lg_sl [.ref (a 2), .int (nI (c))] ++ List.replicate (2 - (lg_sl [.ref (a 2), .int (nI (c))]).length) Slot.unset).toArray = ls at hl ⊢
  have hl : lv_has ls 2 [(0, .ref (a 2)), (1, .int (nI (c)))] := hl
  refine lv_aload_n hx hb dX1_profitOf_0 rfl (lv_at hl 0 rfl) ?_
  refine va_get (D := D) (ci := 1) (v := .ref (a 15)) (C := RX1) (T := TX1) (N := 7) (Ts := wsX10) hx hb hin (fun _ h9 => h9) hown hK hP 2 rfl rfl 3 (by decide) (hts (.fieldLink RX1 21 "Groupbooks$Books" "ownProfits" "[I") (by decide +kernel)) (fun _ h9 => h9) rfl dX1_profitOf_1 ?_
  refine lv_iload_n hx hb dX1_profitOf_4 rfl (lv_at hl 1 rfl) ?_
  refine b_iald hx hb hK hP 15 0 (f := oP) rfl rfl (j := c) (by omega) (by decide) dX1_profitOf_5 ?_
  refine lv_aload_n hx hb dX1_profitOf_6 rfl (lv_at hl 0 rfl) ?_
  refine va_get (D := D) (ci := 1) (v := .ref (a 17)) (C := RX1) (T := TX1) (N := 7) (Ts := wsX10) hx hb hin (fun _ h9 => h9) hown hK hP 2 rfl rfl 5 (by decide) (hts (.fieldLink RX1 27 "Groupbooks$Books" "averageRates" "[I") (by decide +kernel)) (fun _ h9 => h9) rfl dX1_profitOf_7 ?_
  refine lv_iload_n hx hb dX1_profitOf_10 rfl (lv_at hl 1 rfl) ?_
  refine b_iald hx hb hK hP 17 0 (f := aR) rfl rfl (j := c) (by omega) (by decide) dX1_profitOf_11 ?_
  refine b_csi (v := tr (oP (c)) (aR (c))) (W.runS (As := [.int (oP (c)), .int (aR (c))]) (rest := []) ⟨hx, hb, hml, hown, hts⟩ (c_X1_translate ll (oP (c)) (aR (c)) ) (va_cwS 2 hts gX1_profitOf_X1_translate rfl rfl rfl (by decide +kernel) ⟨Nat.le_of_ble_eq_true rfl, Nat.le_of_ble_eq_true rfl⟩) ⟨PT.blind, PT.to⟩ rfl rfl hl.1 rfl (lv_room (Nat.le_of_ble_eq_true rfl)) dX1_profitOf_12 ⟨Nat.le_of_ble_eq_true rfl, Nat.le_of_ble_eq_true rfl⟩) ?_
  exact W.iret hx hb hr (fun t ht _ => ⟨_, rfl, rfl, ht⟩) (fun _ h => nomatch h) dX1_profitOf_15

abbrev rmX1_netOf : Room := ({ frames := 3, cells := 0, slots := 0, locals := 64 } : Room)
set_option maxHeartbeats 4000000 in
set_option maxRecDepth 100000 in
theorem c_X1_netOf (ll : Launch) (D : va_G) (a : Nat → Nat) (cI cJ : ClassId) (p : Nat → Int32) (nu de eq : Nat → Int64) (am nx oA oD oE oP cR aR hR cl ad gw pr : Nat → Int32) (n : Int32) (c : Nat) (hc : c < 6) : Met ll yX1_netOf wsX1_netOf rmX1_netOf (va_Pc [.ref (a 2), .int (nI (c))] (PR D (tyG cI cJ) (GW a cI cJ p nu de eq am nx oA oD oE oP cR aR hR cl ad gw pr n))) (vp_Si (fun rr => rr = tr (oA c) (cR c) - tr (oD c) (cR c))) 0 0 (fun _ => False) := by
  refine Met.ofW (cc := cX1_netOf) (maxL := 2) (ret := (some .int)) (by decide) rfl ?_
  intro pp ee ss mm ar bel mth cd s₁ B hml hv
  obtain ⟨rfl, hP, hK, hE⟩ := hv
  have hx := B.exec
  have hb := B.bytes
  have hr := B.returns
  have hts := atoms_spec (ws := wsX1_netOf) B.pre
  have hown : ss.vm.findClass RX1 = some mm.cls := findClass_of_methodNamed B.named
  have hlocks := B.notSynchronized
  have hin : ∀ w ∈ wsX10, w.before ([.ref (a 2), .int (nI (c))] : List Value).toArray ss = true := fun w h => hts w ((by decide +kernel : ∀ w ∈ wsX10, w ∈ wsX1_netOf) w h)
  have hl := lv_entry [.ref (a 2), .int (nI (c))] (n := 2) (Nat.le_of_ble_eq_true rfl)
  rw [lg_entry_eq]
  generalize (lg_sl [.ref (a 2), .int (nI (c))] ++ List.replicate (2 - (lg_sl [.ref (a 2), .int (nI (c))]).length) Slot.unset).toArray = ls at hl ⊢
  have hl : lv_has ls 2 [(0, .ref (a 2)), (1, .int (nI (c)))] := hl
  refine lv_aload_n hx hb dX1_netOf_0 rfl (lv_at hl 0 rfl) ?_
  refine lv_iload_n hx hb dX1_netOf_1 rfl (lv_at hl 1 rfl) ?_
  refine b_csi (v := tr (oA c) (cR c)) (W.runV (As := [.int (nI (c))]) (rest := []) ⟨hx, hb, hml, hown, hts⟩ (c_X1_assetsOf ll D a cI cJ p nu de eq am nx oA oD oE oP cR aR hR cl ad gw pr n c (by omega)) (cwV 1 hts gX1_netOf_X1_assetsOf rfl rfl rfl (by decide +kernel) ⟨Nat.le_of_ble_eq_true rfl, Nat.le_of_ble_eq_true rfl⟩) ⟨PR.blind, va_recv hK hP (ci := 1) (q0 := 2) rfl rfl, PR.go hP hK hE⟩ rfl rfl hl.1 rfl (lv_room (Nat.le_of_ble_eq_true rfl)) dX1_netOf_2 ⟨Nat.le_of_ble_eq_true rfl, Nat.le_of_ble_eq_true rfl⟩) ?_
  refine lv_aload_n hx hb dX1_netOf_5 rfl (lv_at hl 0 rfl) ?_
  refine lv_iload_n hx hb dX1_netOf_6 rfl (lv_at hl 1 rfl) ?_
  refine b_csi (v := tr (oD c) (cR c)) (W.runV (As := [.int (nI (c))]) (rest := [.int (tr (oA c) (cR c))]) ⟨hx, hb, hml, hown, hts⟩ (c_X1_debtsOf ll D a cI cJ p nu de eq am nx oA oD oE oP cR aR hR cl ad gw pr n c (by omega)) (cwV 1 hts gX1_netOf_X1_debtsOf rfl rfl rfl (by decide +kernel) ⟨Nat.le_of_ble_eq_true rfl, Nat.le_of_ble_eq_true rfl⟩) ⟨PR.blind, va_recv hK hP (ci := 1) (q0 := 2) rfl rfl, PR.go hP hK hE⟩ rfl rfl hl.1 rfl (lv_room (Nat.le_of_ble_eq_true rfl)) dX1_netOf_7 ⟨Nat.le_of_ble_eq_true rfl, Nat.le_of_ble_eq_true rfl⟩) ?_
  refine lv_isub hx hb dX1_netOf_10 ?_
  exact W.iret hx hb hr (fun t ht _ => ⟨_, rfl, rfl, ht⟩) (fun _ h => nomatch h) dX1_netOf_11

abbrev rmX1_carryResults : Room := ({ frames := 0, cells := 0, slots := 0, locals := 0 } : Room)
set_option maxHeartbeats 4000000 in
set_option maxRecDepth 100000 in
theorem c_X1_carryResults (ll : Launch) (D : va_G) (a : Nat → Nat) (cI cJ : ClassId) (sz : Nat) (p : Nat → Int32) (nu de eq : Nat → Int64) (am nx oA oD oE oP cR aR hR cl ad gw pr : Nat → Int32) (n : Int32)   : Met ll yX1_carryResults wsX1_carryResults rmX1_carryResults (va_Pc [.ref (a 2)] (PW D (tyG cI cJ) (GW a cI cJ p nu de eq am nx oA oD oE oP cR aR hR cl ad gw pr n) sz)) (va_Qv (fun (u : Unit) => True) (fun (u : Unit) t => AW D (tyG cI cJ) (va_A (GW a cI cJ p nu de eq am nx oA oD oE oP cR aR hR cl ad gw pr n) sz) (GW a cI cJ p nu de eq am nx oA oD (cE oE oP 6) (cP oP 6) cR aR hR cl ad gw pr n) t) (va_A (GW a cI cJ p nu de eq am nx oA oD oE oP cR aR hR cl ad gw pr n) sz)) 0 0 (va_A (GW a cI cJ p nu de eq am nx oA oD oE oP cR aR hR cl ad gw pr n) sz) := by
  refine Met.ofW (cc := cX1_carryResults) (maxL := 2) (ret := none) (by decide) rfl ?_
  intro pp ee ss mm ar bel mth cd s₁ B hml hv
  obtain ⟨rfl, hsz, hP, hK, hD0, hE⟩ := hv
  have hx := B.exec
  have hb := B.bytes
  have hr := B.returns
  have hts := atoms_spec (ws := wsX1_carryResults) B.pre
  have hown : ss.vm.findClass RX1 = some mm.cls := findClass_of_methodNamed B.named
  have hlocks := B.notSynchronized
  subst hsz
  have hD := hD0.self (sz := ss.heap.size)
  generalize hAe : va_A (GW a cI cJ p nu de eq am nx oA oD oE oP cR aR hR cl ad gw pr n) ss.heap.size = A at hD ⊢
  have hA : ∀ q : Nat, ss.heap.size ≤ q → A q := fun q h => by rw [← hAe]; exact Or.inr h
  have hS : va_S A ss.heap ss.heap [] := va_S.rf
  have hin : ∀ w ∈ wsX10, w.before ([.ref (a 2)] : List Value).toArray ss = true := fun w h => hts w ((by decide +kernel : ∀ w ∈ wsX10, w ∈ wsX1_carryResults) w h)
  have hl := lv_entry [.ref (a 2)] (n := 2) (Nat.le_of_ble_eq_true rfl)
  rw [lg_entry_eq]
  generalize (lg_sl [.ref (a 2)] ++ List.replicate (2 - (lg_sl [.ref (a 2)]).length) Slot.unset).toArray = ls at hl ⊢
  have hl : lv_has ls 2 [(0, .ref (a 2))] := hl
  generalize hZ : MQ bel _ _ ss _ _ _ = Z
  refine lv_iconst (v := 0) hx hb dX1_carryResults_0 (by decide) ?_
  refine lv_istore_n (lv' := [(1, .int (0)), (0, .ref (a 2))]) hx hb dX1_carryResults_1 rfl hl (by decide) rfl (fun ls hl => ?_)
  have L1 : ∀ (n1 k1 : Nat), k1 + n1 = 6 → ∀ (H : Heap) (locs : List Loc) (ls : Array Slot), va_P D vwCl (GW a cI cJ p nu de eq am nx oA oD (cE oE oP (k1)) (cP oP (k1)) cR aR hR cl ad gw pr n) H → va_D A (GW a cI cJ p nu de eq am nx oA oD (cE oE oP (k1)) (cP oP (k1)) cR aR hR cl ad gw pr n) → va_S A ss.heap H locs → lv_has ls 2 [(1, .int (nI (k1))), (0, .ref (a 2))] → W pp ll ee rmX1_carryResults ss mm (([.ref (a 2)] : List Value).toArray) bel mth cd H locs 0 0 Z (F0 mm 2 ls []) := by
    intro n1
    induction n1 with
    | zero =>
      intro k1 hk1  H locs ls hP hD hS hl
      have hk1b : k1 = 6 := by omega
      obtain rfl := hk1b
      refine lv_iload_n hx hb dX1_carryResults_2 rfl (lv_at hl 0 rfl) ?_
      refine lv_bipush (v := 6) hx hb dX1_carryResults_3 (by decide) ?_
      refine lv_icmp_ge (tgt := 36) hx hb dX1_carryResults_5 (by decide) (fun c_2 => ?_) (fun c_2 => ?_)
      · have n_2 : (6) ≤ (6) := (nI_leI (a := 6) (b := 6) (by omega) (by omega)).mp c_2
        subst hZ; exact W.vret hx hb hr (fun t ht hW => ⟨⟨(), rfl, trivial, (by rw [ht]; exact hP), va_K.moved hW.alike hK, hD⟩, hS.F ht⟩) hS.2.2 dX1_carryResults_36
      · have n_2 : ¬ ((6) ≤ (6)) := fun h => c_2 ((nI_leI (a := 6) (b := 6) (by omega) (by omega)).mpr h)
        exfalso; omega
    | succ n1 ih1 =>
      intro k1 hk1  H locs ls hP hD hS hl
      have hk1b : k1 < 6 := by omega
      refine lv_iload_n hx hb dX1_carryResults_2 rfl (lv_at hl 0 rfl) ?_
      refine lv_bipush (v := 6) hx hb dX1_carryResults_3 (by decide) ?_
      refine lv_icmp_ge (tgt := 36) hx hb dX1_carryResults_5 (by decide) (fun c_3 => ?_) (fun c_3 => ?_)
      · have n_3 : (6) ≤ (k1) := (nI_leI (a := 6) (b := k1) (by omega) (by omega)).mp c_3
        exfalso; omega
      · have n_3 : ¬ ((6) ≤ (k1)) := fun h => c_3 ((nI_leI (a := 6) (b := k1) (by omega) (by omega)).mpr h)
        refine lv_aload_n hx hb dX1_carryResults_8 rfl (lv_at hl 1 rfl) ?_
        refine va_get (D := D) (ci := 1) (v := .ref (a 14)) (C := RX1) (T := TX1) (N := 7) (Ts := wsX10) hx hb hin (fun _ h9 => h9) hown hK hP 2 rfl rfl 2 (by decide) (hts (.fieldLink RX1 18 "Groupbooks$Books" "ownEquities" "[I") (by decide +kernel)) (fun _ h9 => h9) rfl dX1_carryResults_9 ?_
        refine lv_iload_n hx hb dX1_carryResults_12 rfl (lv_at hl 0 rfl) ?_
        refine lv_dup2_11 hx hb dX1_carryResults_13 rfl rfl ?_
        refine b_iald hx hb hK hP 14 0 (f := (cE oE oP (k1))) rfl rfl (j := k1) (by omega) (by decide) dX1_carryResults_14 ?_
        refine lv_aload_n hx hb dX1_carryResults_15 rfl (lv_at hl 1 rfl) ?_
        refine va_get (D := D) (ci := 1) (v := .ref (a 15)) (C := RX1) (T := TX1) (N := 7) (Ts := wsX10) hx hb hin (fun _ h9 => h9) hown hK hP 2 rfl rfl 3 (by decide) (hts (.fieldLink RX1 21 "Groupbooks$Books" "ownProfits" "[I") (by decide +kernel)) (fun _ h9 => h9) rfl dX1_carryResults_16 ?_
        refine lv_iload_n hx hb dX1_carryResults_19 rfl (lv_at hl 0 rfl) ?_
        refine b_iald hx hb hK hP 15 0 (f := (cP oP (k1))) rfl rfl (j := k1) (by omega) (by decide) dX1_carryResults_20 ?_
        refine lv_iadd hx hb dX1_carryResults_21 ?_
        refine b_iast (w' := GW a cI cJ p nu de eq am nx oA oD (upd (cE oE oP (k1)) (k1) (((cE oE oP (k1)) (k1)) + ((cP oP (k1)) (k1)))) (cP oP (k1)) cR aR hR cl ad gw pr n) hx hb hK hP hD hS 14 0 (f := (cE oE oP (k1))) rfl rfl (j := k1) (by omega) (by decide) rfl dX1_carryResults_22 (fun H locs hP hD hS => ?_)
        refine lv_aload_n hx hb dX1_carryResults_23 rfl (lv_at hl 1 rfl) ?_
        refine va_get (D := D) (ci := 1) (v := .ref (a 15)) (C := RX1) (T := TX1) (N := 7) (Ts := wsX10) hx hb hin (fun _ h9 => h9) hown hK hP 2 rfl rfl 3 (by decide) (hts (.fieldLink RX1 21 "Groupbooks$Books" "ownProfits" "[I") (by decide +kernel)) (fun _ h9 => h9) rfl dX1_carryResults_24 ?_
        refine lv_iload_n hx hb dX1_carryResults_27 rfl (lv_at hl 0 rfl) ?_
        refine lv_iconst (v := 0) hx hb dX1_carryResults_28 (by decide) ?_
        refine b_iast (w' := GW a cI cJ p nu de eq am nx oA oD (upd (cE oE oP (k1)) (k1) (((cE oE oP (k1)) (k1)) + ((cP oP (k1)) (k1)))) (upd (cP oP (k1)) (k1) (0)) cR aR hR cl ad gw pr n) hx hb hK hP hD hS 15 0 (f := (cP oP (k1))) rfl rfl (j := k1) (by omega) (by decide) rfl dX1_carryResults_29 (fun H locs hP hD hS => ?_)
        refine lv_iinc (v := nI (k1 + 1)) (lv' := [(1, .int (nI (k1 + 1))), (0, .ref (a 2))]) hx hb dX1_carryResults_30 hl (k := 0) rfl (nI_1 (k1)) (by decide) rfl (fun ls hl => ?_)
        refine lv_goto (tgt := 2) hx hb dX1_carryResults_33 (by decide) ?_
        have e_4 : cE oE oP (k1 + 1) = upd (cE oE oP (k1)) (k1) (((cE oE oP (k1)) (k1)) + ((cP oP (k1)) (k1))) := by first | rfl | exact if_pos (by assumption) | exact if_neg (by assumption) | (simp only [n_3, Bool.false_eq_true, ↓reduceIte])
        have e_5 : cP oP (k1 + 1) = upd (cP oP (k1)) (k1) (0) := by first | rfl | exact if_pos (by assumption) | exact if_neg (by assumption) | (simp only [n_3, Bool.false_eq_true, ↓reduceIte])
        exact ih1 (k1 + 1) (by omega) _ _ ls (by rw [e_4, e_5]; exact hP) (by rw [e_4, e_5]; exact hD) hS (lv_sub hl [0, 1] rfl)
  exact L1 (6) 0 (by omega) _ _ ls hP hD hS (lv_sub hl [0, 1] rfl)
end
section
def ceK (eq : Nat → Int64) (r c : Nat) (pv dv : Int64) : Nat → Nat → Int64
  | 0 => eq
  | k + 1 => vp_updL (ceK eq r c pv dv k) (6 * r + k) ((ceK eq r c pv dv k (6 * r + k) * pv - eq (6 * r + c) * ceK eq r c pv dv k (6 * c + k)) / dv)
def ce (eq : Nat → Int64) (r c : Nat) (pv dv : Int64) : Nat → Int64 := if dv ≤ 0 then eq else ceK eq r c pv dv 6
def ccK (eq : Nat → Int64) (c : Nat) (pv dv : Int64) : Nat → Nat → Int64
  | 0 => eq
  | k + 1 => if k + 1 = c then ccK eq c pv dv k else ce (ccK eq c pv dv k) (k + 1) c pv dv
def weI (p : Nat → Int32) (c : Nat) (e : Nat → Int64) : Nat → Nat → Int64
  | 0 => e
  | j + 1 => vp_updL (weI p c e j) (6 * c + (j + 1)) (if j + 1 = c then 100 else (-(p (6 * (j + 1) + c))).toInt64)
def weO (p : Nat → Int32) (eq : Nat → Int64) : Nat → Nat → Int64
  | 0 => eq
  | i + 1 => weI p (i + 1) (vp_updL (weO p eq i) (6 * (i + 1) + 0) (p (6 * 0 + (i + 1))).toInt64) 5
def ds (e0 : Nat → Int64) : Nat → (Nat → Int64) × Int64
  | 0 => (e0, 1)
  | k + 1 => (ccK (ds e0 k).1 (k + 1) ((ds e0 k).1 (6 * (k + 1) + (k + 1))) (ds e0 k).2 5, (ds e0 k).1 (6 * (k + 1) + (k + 1)))
def pvt (e0 : Nat → Int64) (k : Nat) : Int64 := (ds e0 k).1 (6 * (k + 1) + (k + 1))
def cdF : Nat → Int64 → Int64 → Int64 | 0, x, _ => x | n + 1, x, y => if y = 0 then x else cdF n y (x - x / y * y)
def ksN (eq : Nat → Int64) (dn : Int64) (nu : Nat → Int64) : Nat → Nat → Int64
  | 0 => nu
  | k + 1 => if cdF 100 dn (eq (6 * (k + 1) + 0)) ≤ 0 then ksN eq dn nu k else vp_updL (ksN eq dn nu k) (k + 1) (eq (6 * (k + 1) + 0) / cdF 100 dn (eq (6 * (k + 1) + 0)))
def ksD (eq : Nat → Int64) (dn : Int64) (de : Nat → Int64) : Nat → Nat → Int64
  | 0 => de
  | k + 1 => if cdF 100 dn (eq (6 * (k + 1) + 0)) ≤ 0 then ksD eq dn de k else vp_updL (ksD eq dn de k) (k + 1) (dn / cdF 100 dn (eq (6 * (k + 1) + 0)))
def plN (p am nx : Nat → Int32) : Nat → Nat → Int32
  | 0 => nx
  | k + 1 => upd (plN p am nx k) (k + 1) (sI (fun o => p (6 * o + (k + 1)) * am o) 6 / 100)
def plA (am nx : Nat → Int32) : Nat → Nat → Int32 | 0 => am | k + 1 => upd (plA am nx k) (k + 1) (nx (k + 1))
def miA (am : Nat → Int32) : Nat → Nat → Int32 | 0 => am | k + 1 => upd (miA am k) k (if k = 0 then 1000000 else 0)
def mr (p am nx : Nat → Int32) : Nat → (Nat → Int32) × (Nat → Int32)
  | 0 => (miA am 6, nx)
  | j + 1 => (plA (mr p am nx j).1 (plN p (mr p am nx j).1 (mr p am nx j).2 5) 5, plN p (mr p am nx j).1 (mr p am nx j).2 5)
def tkOK (p : Nat → Int32) (eq : Nat → Int64) (o c : Nat) (x : Int32) : Prop := ¬ 100 < sI (fun o => p (6 * o + c)) 6 - p (6 * o + c) + x ∧ ∀ k, k < 5 → 0 < pvt (weO (upd p (6 * o + c) x) eq 5) k
theorem upd_back (p : Nat → Int32) (i : Nat) (x : Int32) : upd (upd p i x) i (p i) = p := by
  funext j
  by_cases h : j = i
  · subst h; simp [upd]
  · simp [upd, h]
end
section
abbrev rmX2_clearEntry : Room := ({ frames := 1, cells := 0, slots := 0, locals := 21 } : Room)
set_option maxHeartbeats 4000000 in
set_option maxRecDepth 100000 in
theorem c_X2_clearEntry (ll : Launch) (D : va_G) (a : Nat → Nat) (cI cJ : ClassId) (sz : Nat) (p : Nat → Int32) (nu de eq : Nat → Int64) (am nx oA oD oE oP cR aR hR cl ad gw pr : Nat → Int32) (n : Int32) (r c : Nat) (pv dv : Int64) (hr : r < 6) (hc : c < 6) : Met ll yX2_clearEntry wsX2_clearEntry rmX2_clearEntry (va_Pc [.ref (a 1), .int (nI (r)), .int (nI (c)), .long (pv), .long (dv)] (PW D (tyG cI cJ) (GW a cI cJ p nu de eq am nx oA oD oE oP cR aR hR cl ad gw pr n) sz)) (va_Qv (fun (u : Unit) => True) (fun (u : Unit) t => AW D (tyG cI cJ) (va_A (GW a cI cJ p nu de eq am nx oA oD oE oP cR aR hR cl ad gw pr n) sz) (GW a cI cJ p nu de (ce eq r c pv dv) am nx oA oD oE oP cR aR hR cl ad gw pr n) t) (va_A (GW a cI cJ p nu de eq am nx oA oD oE oP cR aR hR cl ad gw pr n) sz)) 0 0 (va_A (GW a cI cJ p nu de eq am nx oA oD oE oP cR aR hR cl ad gw pr n) sz) := by
  refine Met.ofW (cc := cX2_clearEntry) (maxL := 13) (ret := none) (by decide) rfl ?_
  intro pp ee ss mm ar bel mth cd s₁ B hml hv
  obtain ⟨rfl, hsz, hP, hK, hD0, hE⟩ := hv
  have hx := B.exec
  have hb := B.bytes
  have hr := B.returns
  have hts := atoms_spec (ws := wsX2_clearEntry) B.pre
  have hown : ss.vm.findClass RX2 = some mm.cls := findClass_of_methodNamed B.named
  have hlocks := B.notSynchronized
  subst hsz
  have hD := hD0.self (sz := ss.heap.size)
  generalize hAe : va_A (GW a cI cJ p nu de eq am nx oA oD oE oP cR aR hR cl ad gw pr n) ss.heap.size = A at hD ⊢
  have hA : ∀ q : Nat, ss.heap.size ≤ q → A q := fun q h => by rw [← hAe]; exact Or.inr h
  have hS : va_S A ss.heap ss.heap [] := va_S.rf
  have hin : ∀ w ∈ wsX20, w.before ([.ref (a 1), .int (nI (r)), .int (nI (c)), .long (pv), .long (dv)] : List Value).toArray ss = true := fun w h => hts w ((by decide +kernel : ∀ w ∈ wsX20, w ∈ wsX2_clearEntry) w h)
  have hl := lv_entry [.ref (a 1), .int (nI (r)), .int (nI (c)), .long (pv), .long (dv)] (n := 13) (Nat.le_of_ble_eq_true rfl)
  rw [lg_entry_eq]
  generalize (lg_sl [.ref (a 1), .int (nI (r)), .int (nI (c)), .long (pv), .long (dv)] ++ List.replicate (13 - (lg_sl [.ref (a 1), .int (nI (r)), .int (nI (c)), .long (pv), .long (dv)]).length) Slot.unset).toArray = ls at hl ⊢
  have hl : lv_has ls 13 [(0, .ref (a 1)), (1, .int (nI (r))), (2, .int (nI (c))), (3, .long (pv)), (5, .long (dv))] := hl
  generalize hZ : MQ bel _ _ ss _ _ _ = Z
  refine lv_aload_n hx hb dX2_clearEntry_0 rfl (lv_at hl 0 rfl) ?_
  refine va_get (D := D) (ci := 2) (v := .ref (a 9)) (C := RX2) (T := TX2) (N := 6) (Ts := wsX20) hx hb hin (fun _ h9 => h9) hown hK hP 1 rfl rfl 3 (by decide) (hts (.fieldLink RX2 22 "Groupbooks$Holdings" "equations" "[J") (by decide +kernel)) (fun _ h9 => h9) rfl dX2_clearEntry_1 ?_
  refine lv_iload_n hx hb dX2_clearEntry_4 rfl (lv_at hl 1 rfl) ?_
  refine lv_iload_n hx hb dX2_clearEntry_5 rfl (lv_at hl 2 rfl) ?_
  refine b_csi (v := nI (6 * r + c)) ((va_runSN (As := [.int (nI (r)), .int (nI (c))]) (rest := [.ref (a 9)]) ⟨hx, hb, hml, hown, hts⟩ (c_X3_pair ll r c ) ⟨va_cnB 2 hts gX2_clearEntry_X3_pair_n31 rfl rfl rfl (hE.nest 5 rfl) (hts (.initialized RX3) (by decide +kernel)) (by decide +kernel) ⟨Nat.le_of_ble_eq_true rfl, Nat.le_of_ble_eq_true rfl⟩, hts (.static yX3_pair) (by decide +kernel), trivial⟩ ⟨PT.blind, PT.to⟩ rfl rfl hl.1 rfl (lv_room (Nat.le_of_ble_eq_true rfl)) dX2_clearEntry_6 ⟨Nat.le_of_ble_eq_true rfl, Nat.le_of_ble_eq_true rfl⟩).run) ?_
  refine b_lald hx hb hK hP 9 1 (f := eq) rfl rfl (j := 6 * r + c) (by omega) (by decide) dX2_clearEntry_9 ?_
  refine lv_lstore (lv' := [(7, .long (eq (6 * r + c))), (0, .ref (a 1)), (1, .int (nI (r))), (2, .int (nI (c))), (3, .long (pv)), (5, .long (dv))]) hx hb dX2_clearEntry_10 hl (by decide) rfl (fun ls hl => ?_)
  refine lv_lload hx hb dX2_clearEntry_12 (lv_at hl 5 rfl) ?_
  refine lv_lconst (v := 0) hx hb dX2_clearEntry_14 (by decide) ?_
  refine W.lcmp hx hb dX2_clearEntry_15 ?_
  refine lv_if_le (tgt := 81) hx hb dX2_clearEntry_16 (by decide) (fun c_1 => ?_) (fun c_1 => ?_)
  · have n_1 : dv ≤ 0 := (lg_cmp_le _ _).mp c_1
    have e_2 : ce eq r c pv dv = eq := by first | rfl | exact if_pos (by assumption) | exact if_neg (by assumption) | (simp only [ce, n_1, Bool.false_eq_true, ↓reduceIte])
    subst hZ; exact W.vret hx hb hr (fun t ht hW => ⟨⟨(), rfl, trivial, (by rw [ht]; exact (by rw [e_2]; exact hP)), va_K.moved hW.alike hK, (by rw [e_2]; exact hD)⟩, hS.F ht⟩) hS.2.2 dX2_clearEntry_81
  · have n_1 : ¬ (dv ≤ 0) := fun h => c_1 ((lg_cmp_le _ _).mpr h)
    refine lv_iconst (v := 0) hx hb dX2_clearEntry_19 (by decide) ?_
    refine lv_istore (lv' := [(9, .int (0)), (7, .long (eq (6 * r + c))), (0, .ref (a 1)), (1, .int (nI (r))), (2, .int (nI (c))), (3, .long (pv)), (5, .long (dv))]) hx hb dX2_clearEntry_20 hl (by decide) rfl (fun ls hl => ?_)
    have L3 : ∀ (n3 k3 : Nat), k3 + n3 = 6 → ∀ (H : Heap) (locs : List Loc) (ls : Array Slot), va_P D vwCl (GW a cI cJ p nu de (ceK eq r c pv dv (k3)) am nx oA oD oE oP cR aR hR cl ad gw pr n) H → va_D A (GW a cI cJ p nu de (ceK eq r c pv dv (k3)) am nx oA oD oE oP cR aR hR cl ad gw pr n) → va_S A ss.heap H locs → lv_has ls 13 [(9, .int (nI (k3))), (7, .long (eq (6 * r + c))), (0, .ref (a 1)), (1, .int (nI (r))), (2, .int (nI (c))), (3, .long (pv)), (5, .long (dv))] → W pp ll ee rmX2_clearEntry ss mm (([.ref (a 1), .int (nI (r)), .int (nI (c)), .long (pv), .long (dv)] : List Value).toArray) bel mth cd H locs 0 0 Z (F0 mm 22 ls []) := by
      intro n3
      induction n3 with
      | zero =>
        intro k3 hk3  H locs ls hP hD hS hl
        have hk3b : 6 = k3 := by omega
        subst hk3b
        refine lv_iload hx hb dX2_clearEntry_22 (lv_at hl 0 rfl) ?_
        refine lv_bipush (v := 6) hx hb dX2_clearEntry_24 (by decide) ?_
        refine lv_icmp_ge (tgt := 81) hx hb dX2_clearEntry_26 (by decide) (fun c_4 => ?_) (fun c_4 => ?_)
        · have n_4 : (6) ≤ (6) := (nI_leI (a := 6) (b := 6) (by omega) (by omega)).mp c_4
          have e_5 : ce eq r c pv dv = ceK eq r c pv dv (6) := by first | rfl | exact if_pos (by assumption) | exact if_neg (by assumption) | (simp only [ce, n_1, n_4, Bool.false_eq_true, ↓reduceIte])
          subst hZ; exact W.vret hx hb hr (fun t ht hW => ⟨⟨(), rfl, trivial, (by rw [ht]; exact (by rw [e_5]; exact hP)), va_K.moved hW.alike hK, (by rw [e_5]; exact hD)⟩, hS.F ht⟩) hS.2.2 dX2_clearEntry_81
        · have n_4 : ¬ ((6) ≤ (6)) := fun h => c_4 ((nI_leI (a := 6) (b := 6) (by omega) (by omega)).mpr h)
          exfalso; omega
      | succ n3 ih3 =>
        intro k3 hk3  H locs ls hP hD hS hl
        have hk3b : k3 < 6 := by omega
        refine lv_iload hx hb dX2_clearEntry_22 (lv_at hl 0 rfl) ?_
        refine lv_bipush (v := 6) hx hb dX2_clearEntry_24 (by decide) ?_
        refine lv_icmp_ge (tgt := 81) hx hb dX2_clearEntry_26 (by decide) (fun c_6 => ?_) (fun c_6 => ?_)
        · have n_6 : (6) ≤ (k3) := (nI_leI (a := 6) (b := k3) (by omega) (by omega)).mp c_6
          exfalso; omega
        · have n_6 : ¬ ((6) ≤ (k3)) := fun h => c_6 ((nI_leI (a := 6) (b := k3) (by omega) (by omega)).mpr h)
          refine lv_lload hx hb dX2_clearEntry_29 (lv_at hl 1 rfl) ?_
          refine lv_aload_n hx hb dX2_clearEntry_31 rfl (lv_at hl 2 rfl) ?_
          refine va_get (D := D) (ci := 2) (v := .ref (a 9)) (C := RX2) (T := TX2) (N := 6) (Ts := wsX20) hx hb hin (fun _ h9 => h9) hown hK hP 1 rfl rfl 3 (by decide) (hts (.fieldLink RX2 22 "Groupbooks$Holdings" "equations" "[J") (by decide +kernel)) (fun _ h9 => h9) rfl dX2_clearEntry_32 ?_
          refine lv_iload_n hx hb dX2_clearEntry_35 rfl (lv_at hl 4 rfl) ?_
          refine lv_iload hx hb dX2_clearEntry_36 (lv_at hl 0 rfl) ?_
          refine b_csi (v := nI (6 * c + k3)) ((va_runSN (As := [.int (nI (c)), .int (nI (k3))]) (rest := [.ref (a 9), .long (eq (6 * r + c))]) ⟨hx, hb, hml, hown, hts⟩ (c_X3_pair ll c k3 ) ⟨va_cnB 2 hts gX2_clearEntry_X3_pair_n31 rfl rfl rfl (hE.nest 5 rfl) (hts (.initialized RX3) (by decide +kernel)) (by decide +kernel) ⟨Nat.le_of_ble_eq_true rfl, Nat.le_of_ble_eq_true rfl⟩, hts (.static yX3_pair) (by decide +kernel), trivial⟩ ⟨PT.blind, PT.to⟩ rfl rfl hl.1 rfl (lv_room (Nat.le_of_ble_eq_true rfl)) dX2_clearEntry_38 ⟨Nat.le_of_ble_eq_true rfl, Nat.le_of_ble_eq_true rfl⟩).run) ?_
          refine b_lald hx hb hK hP 9 1 (f := (ceK eq r c pv dv (k3))) rfl rfl (j := 6 * c + k3) (by omega) (by decide) dX2_clearEntry_41 ?_
          refine lv_lmul hx hb dX2_clearEntry_42 ?_
          refine lv_lstore (lv' := [(10, .long ((eq (6 * r + c)) * ((ceK eq r c pv dv (k3)) (6 * c + k3)))), (9, .int (nI (k3))), (7, .long (eq (6 * r + c))), (0, .ref (a 1)), (1, .int (nI (r))), (2, .int (nI (c))), (3, .long (pv)), (5, .long (dv))]) hx hb dX2_clearEntry_43 hl (by decide) rfl (fun ls hl => ?_)
          refine lv_iload_n hx hb dX2_clearEntry_45 rfl (lv_at hl 4 rfl) ?_
          refine lv_iload hx hb dX2_clearEntry_46 (lv_at hl 1 rfl) ?_
          refine b_csi (v := nI (6 * r + k3)) ((va_runSN (As := [.int (nI (r)), .int (nI (k3))]) (rest := []) ⟨hx, hb, hml, hown, hts⟩ (c_X3_pair ll r k3 ) ⟨va_cnB 2 hts gX2_clearEntry_X3_pair_n31 rfl rfl rfl (hE.nest 5 rfl) (hts (.initialized RX3) (by decide +kernel)) (by decide +kernel) ⟨Nat.le_of_ble_eq_true rfl, Nat.le_of_ble_eq_true rfl⟩, hts (.static yX3_pair) (by decide +kernel), trivial⟩ ⟨PT.blind, PT.to⟩ rfl rfl hl.1 rfl (lv_room (Nat.le_of_ble_eq_true rfl)) dX2_clearEntry_48 ⟨Nat.le_of_ble_eq_true rfl, Nat.le_of_ble_eq_true rfl⟩).run) ?_
          refine lv_istore (lv' := [(12, .int (nI (6 * r + k3))), (10, .long ((eq (6 * r + c)) * ((ceK eq r c pv dv (k3)) (6 * c + k3)))), (9, .int (nI (k3))), (7, .long (eq (6 * r + c))), (0, .ref (a 1)), (1, .int (nI (r))), (2, .int (nI (c))), (3, .long (pv)), (5, .long (dv))]) hx hb dX2_clearEntry_51 hl (by decide) rfl (fun ls hl => ?_)
          refine lv_aload_n hx hb dX2_clearEntry_53 rfl (lv_at hl 4 rfl) ?_
          refine va_get (D := D) (ci := 2) (v := .ref (a 9)) (C := RX2) (T := TX2) (N := 6) (Ts := wsX20) hx hb hin (fun _ h9 => h9) hown hK hP 1 rfl rfl 3 (by decide) (hts (.fieldLink RX2 22 "Groupbooks$Holdings" "equations" "[J") (by decide +kernel)) (fun _ h9 => h9) rfl dX2_clearEntry_54 ?_
          refine lv_iload hx hb dX2_clearEntry_57 (lv_at hl 0 rfl) ?_
          refine lv_aload_n hx hb dX2_clearEntry_59 rfl (lv_at hl 4 rfl) ?_
          refine va_get (D := D) (ci := 2) (v := .ref (a 9)) (C := RX2) (T := TX2) (N := 6) (Ts := wsX20) hx hb hin (fun _ h9 => h9) hown hK hP 1 rfl rfl 3 (by decide) (hts (.fieldLink RX2 22 "Groupbooks$Holdings" "equations" "[J") (by decide +kernel)) (fun _ h9 => h9) rfl dX2_clearEntry_60 ?_
          refine lv_iload hx hb dX2_clearEntry_63 (lv_at hl 0 rfl) ?_
          refine b_lald hx hb hK hP 9 1 (f := (ceK eq r c pv dv (k3))) rfl rfl (j := 6 * r + k3) (by omega) (by decide) dX2_clearEntry_65 ?_
          refine lv_lload_n hx hb dX2_clearEntry_66 rfl (lv_at hl 7 rfl) ?_
          refine lv_lmul hx hb dX2_clearEntry_67 ?_
          refine lv_lload hx hb dX2_clearEntry_68 (lv_at hl 1 rfl) ?_
          refine lv_lsub hx hb dX2_clearEntry_70 ?_
          refine lv_lload hx hb dX2_clearEntry_71 (lv_at hl 8 rfl) ?_
          refine lv_ldiv hx hb dX2_clearEntry_73 (ne_of_nle n_1) ?_
          refine b_last (w' := GW a cI cJ p nu de (vp_updL (ceK eq r c pv dv (k3)) (6 * r + k3) (((((ceK eq r c pv dv (k3)) (6 * r + k3)) * (pv)) - ((eq (6 * r + c)) * ((ceK eq r c pv dv (k3)) (6 * c + k3)))) / (dv))) am nx oA oD oE oP cR aR hR cl ad gw pr n) hx hb hK hP hD hS 9 1 (f := (ceK eq r c pv dv (k3))) rfl rfl (j := 6 * r + k3) (by omega) (by decide) rfl dX2_clearEntry_74 (fun H locs hP hD hS => ?_)
          refine lv_iinc (v := nI (k3 + 1)) (lv' := [(9, .int (nI (k3 + 1))), (12, .int (nI (6 * r + k3))), (10, .long ((eq (6 * r + c)) * ((ceK eq r c pv dv (k3)) (6 * c + k3)))), (7, .long (eq (6 * r + c))), (0, .ref (a 1)), (1, .int (nI (r))), (2, .int (nI (c))), (3, .long (pv)), (5, .long (dv))]) hx hb dX2_clearEntry_75 hl (k := 2) rfl (nI_1 (k3)) (by decide) rfl (fun ls hl => ?_)
          refine lv_goto (tgt := 22) hx hb dX2_clearEntry_78 (by decide) ?_
          have e_7 : ceK eq r c pv dv (k3 + 1) = vp_updL (ceK eq r c pv dv (k3)) (6 * r + k3) (((((ceK eq r c pv dv (k3)) (6 * r + k3)) * (pv)) - ((eq (6 * r + c)) * ((ceK eq r c pv dv (k3)) (6 * c + k3)))) / (dv)) := by first | rfl | exact if_pos (by assumption) | exact if_neg (by assumption) | (simp only [n_1, n_6, Bool.false_eq_true, ↓reduceIte])
          exact ih3 (k3 + 1) (by omega) _ _ ls (by rw [e_7]; exact hP) (by rw [e_7]; exact hD) hS (lv_sub hl [0, 3, 4, 5, 6, 7, 8] rfl)
    exact L3 (6) 0 (by omega) _ _ ls hP hD hS (lv_sub hl [0, 1, 2, 3, 4, 5, 6] rfl)

abbrev rmX2_clearColumn : Room := ({ frames := 2, cells := 0, slots := 0, locals := 53 } : Room)
set_option maxHeartbeats 4000000 in
set_option maxRecDepth 100000 in
theorem c_X2_clearColumn (ll : Launch) (D : va_G) (a : Nat → Nat) (cI cJ : ClassId) (sz : Nat) (p : Nat → Int32) (nu de eq : Nat → Int64) (am nx oA oD oE oP cR aR hR cl ad gw pr : Nat → Int32) (n : Int32) (c : Nat) (pv dv : Int64) (hc : c < 6) : Met ll yX2_clearColumn wsX2_clearColumn rmX2_clearColumn (va_Pc [.ref (a 1), .int (nI (c)), .long (pv), .long (dv)] (PW D (tyG cI cJ) (GW a cI cJ p nu de eq am nx oA oD oE oP cR aR hR cl ad gw pr n) sz)) (va_Qv (fun (u : Unit) => True) (fun (u : Unit) t => AW D (tyG cI cJ) (va_A (GW a cI cJ p nu de eq am nx oA oD oE oP cR aR hR cl ad gw pr n) sz) (GW a cI cJ p nu de (ccK eq c pv dv 5) am nx oA oD oE oP cR aR hR cl ad gw pr n) t) (va_A (GW a cI cJ p nu de eq am nx oA oD oE oP cR aR hR cl ad gw pr n) sz)) 0 0 (va_A (GW a cI cJ p nu de eq am nx oA oD oE oP cR aR hR cl ad gw pr n) sz) := by
  refine Met.ofW (cc := cX2_clearColumn) (maxL := 7) (ret := none) (by decide) rfl ?_
  intro pp ee ss mm ar bel mth cd s₁ B hml hv
  obtain ⟨rfl, hsz, hP, hK, hD0, hE⟩ := hv
  have hx := B.exec
  have hb := B.bytes
  have hr := B.returns
  have hts := atoms_spec (ws := wsX2_clearColumn) B.pre
  have hown : ss.vm.findClass RX2 = some mm.cls := findClass_of_methodNamed B.named
  have hlocks := B.notSynchronized
  subst hsz
  have hD := hD0.self (sz := ss.heap.size)
  generalize hAe : va_A (GW a cI cJ p nu de eq am nx oA oD oE oP cR aR hR cl ad gw pr n) ss.heap.size = A at hD ⊢
  have hA : ∀ q : Nat, ss.heap.size ≤ q → A q := fun q h => by rw [← hAe]; exact Or.inr h
  have hS : va_S A ss.heap ss.heap [] := va_S.rf
  have hin : ∀ w ∈ wsX20, w.before ([.ref (a 1), .int (nI (c)), .long (pv), .long (dv)] : List Value).toArray ss = true := fun w h => hts w ((by decide +kernel : ∀ w ∈ wsX20, w ∈ wsX2_clearColumn) w h)
  have hl := lv_entry [.ref (a 1), .int (nI (c)), .long (pv), .long (dv)] (n := 7) (Nat.le_of_ble_eq_true rfl)
  rw [lg_entry_eq]
  generalize (lg_sl [.ref (a 1), .int (nI (c)), .long (pv), .long (dv)] ++ List.replicate (7 - (lg_sl [.ref (a 1), .int (nI (c)), .long (pv), .long (dv)]).length) Slot.unset).toArray = ls at hl ⊢
  have hl : lv_has ls 7 [(0, .ref (a 1)), (1, .int (nI (c))), (2, .long (pv)), (4, .long (dv))] := hl
  generalize hZ : MQ bel _ _ ss _ _ _ = Z
  refine lv_iconst (v := 1) hx hb dX2_clearColumn_0 (by decide) ?_
  refine lv_istore (lv' := [(6, .int (1)), (0, .ref (a 1)), (1, .int (nI (c))), (2, .long (pv)), (4, .long (dv))]) hx hb dX2_clearColumn_1 hl (by decide) rfl (fun ls hl => ?_)
  have L1 : ∀ (n1 k1 : Nat), k1 + n1 = 5 → ∀ (H : Heap) (locs : List Loc) (ls : Array Slot), va_P D vwCl (GW a cI cJ p nu de (ccK eq c pv dv (k1)) am nx oA oD oE oP cR aR hR cl ad gw pr n) H → va_D A (GW a cI cJ p nu de (ccK eq c pv dv (k1)) am nx oA oD oE oP cR aR hR cl ad gw pr n) → va_S A ss.heap H locs → lv_has ls 7 [(6, .int (nI (k1 + 1))), (0, .ref (a 1)), (1, .int (nI (c))), (2, .long (pv)), (4, .long (dv))] → W pp ll ee rmX2_clearColumn ss mm (([.ref (a 1), .int (nI (c)), .long (pv), .long (dv)] : List Value).toArray) bel mth cd H locs 0 0 Z (F0 mm 3 ls []) := by
    intro n1
    induction n1 with
    | zero =>
      intro k1 hk1  H locs ls hP hD hS hl
      have hk1b : 5 = k1 := by omega
      subst hk1b
      refine lv_iload hx hb dX2_clearColumn_3 (lv_at hl 0 rfl) ?_
      refine lv_bipush (v := 6) hx hb dX2_clearColumn_5 (by decide) ?_
      refine lv_icmp_ge (tgt := 32) hx hb dX2_clearColumn_7 (by decide) (fun c_2 => ?_) (fun c_2 => ?_)
      · have n_2 : (6) ≤ (5 + 1) := (nI_leI (a := 6) (b := 5 + 1) (by omega) (by omega)).mp c_2
        have e_3 : ccK eq c pv dv 5 = ccK eq c pv dv (5) := by first | rfl | exact if_pos (by assumption) | exact if_neg (by assumption) | (simp only [n_2, Bool.false_eq_true, ↓reduceIte])
        subst hZ; exact W.vret hx hb hr (fun t ht hW => ⟨⟨(), rfl, trivial, (by rw [ht]; exact (by rw [e_3]; exact hP)), va_K.moved hW.alike hK, (by rw [e_3]; exact hD)⟩, hS.F ht⟩) hS.2.2 dX2_clearColumn_32
      · have n_2 : ¬ ((6) ≤ (5 + 1)) := fun h => c_2 ((nI_leI (a := 6) (b := 5 + 1) (by omega) (by omega)).mpr h)
        exfalso; omega
    | succ n1 ih1 =>
      intro k1 hk1  H locs ls hP hD hS hl
      have hk1b : k1 < 5 := by omega
      refine lv_iload hx hb dX2_clearColumn_3 (lv_at hl 0 rfl) ?_
      refine lv_bipush (v := 6) hx hb dX2_clearColumn_5 (by decide) ?_
      refine lv_icmp_ge (tgt := 32) hx hb dX2_clearColumn_7 (by decide) (fun c_4 => ?_) (fun c_4 => ?_)
      · have n_4 : (6) ≤ (k1 + 1) := (nI_leI (a := 6) (b := k1 + 1) (by omega) (by omega)).mp c_4
        exfalso; omega
      · have n_4 : ¬ ((6) ≤ (k1 + 1)) := fun h => c_4 ((nI_leI (a := 6) (b := k1 + 1) (by omega) (by omega)).mpr h)
        refine lv_iload hx hb dX2_clearColumn_10 (lv_at hl 0 rfl) ?_
        refine lv_iload_n hx hb dX2_clearColumn_12 rfl (lv_at hl 2 rfl) ?_
        refine lv_icmp_eq (tgt := 26) hx hb dX2_clearColumn_13 (by decide) (fun c_5 => ?_) (fun c_5 => ?_)
        · have n_5 : (k1 + 1) = (c) := (nI_eq (a := k1 + 1) (b := c) (by omega) (by omega)).mp c_5
          refine lv_iinc (v := nI (k1 + 1 + 1)) (lv' := [(6, .int (nI (k1 + 1 + 1))), (0, .ref (a 1)), (1, .int (nI (c))), (2, .long (pv)), (4, .long (dv))]) hx hb dX2_clearColumn_26 hl (k := 0) rfl (nI_1 (k1 + 1)) (by decide) rfl (fun ls hl => ?_)
          refine lv_goto (tgt := 3) hx hb dX2_clearColumn_29 (by decide) ?_
          have e_6 : ccK eq c pv dv (k1 + 1) = ccK eq c pv dv (k1) := by first | rfl | exact if_pos (by assumption) | exact if_neg (by assumption) | (simp only [n_4, n_5, Bool.false_eq_true, ↓reduceIte])
          exact ih1 (k1 + 1) (by omega) _ _ ls (by rw [e_6]; exact hP) (by rw [e_6]; exact hD) hS (lv_sub hl [0, 1, 2, 3, 4] rfl)
        · have n_5 : ¬ ((k1 + 1) = (c)) := fun h => c_5 ((nI_eq (a := k1 + 1) (b := c) (by omega) (by omega)).mpr h)
          refine lv_aload_n hx hb dX2_clearColumn_16 rfl (lv_at hl 1 rfl) ?_
          refine lv_iload hx hb dX2_clearColumn_17 (lv_at hl 0 rfl) ?_
          refine lv_iload_n hx hb dX2_clearColumn_19 rfl (lv_at hl 2 rfl) ?_
          refine lv_lload_n hx hb dX2_clearColumn_20 rfl (lv_at hl 3 rfl) ?_
          refine lv_lload hx hb dX2_clearColumn_21 (lv_at hl 4 rfl) ?_
          refine b_callv0 (S := Unit) (w' := fun u => GW a cI cJ p nu de (ce (ccK eq c pv dv (k1)) (k1 + 1) c pv dv) am nx oA oD oE oP cR aR hR cl ad gw pr n) hP hD hS hA (va_runV (As := [.int (nI (k1 + 1)), .int (nI (c)), .long (pv), .long (dv)]) (rest := []) ⟨hx, hb, hml, hown, hts⟩ (c_X2_clearEntry ll D a cI cJ H.size p nu de (ccK eq c pv dv (k1)) am nx oA oD oE oP cR aR hR cl ad gw pr n (k1 + 1) c pv dv (by omega) (by omega)) (cwV 4 hts gX2_clearColumn_X2_clearEntry rfl rfl rfl (by decide +kernel) ⟨Nat.le_of_ble_eq_true rfl, Nat.le_of_ble_eq_true rfl⟩) ⟨PW.blind, va_recv hK hP (ci := 2) (q0 := 1) rfl rfl, PW.go hP hK hD hE⟩ rfl rfl hl.1 rfl (lv_room (Nat.le_of_ble_eq_true rfl)) dX2_clearColumn_23 ⟨Nat.le_of_ble_eq_true rfl, Nat.le_of_ble_eq_true rfl⟩) (fun u H locs h_7 hP hD hS => ?_)
          refine lv_iinc (v := nI (k1 + 1 + 1)) (lv' := [(6, .int (nI (k1 + 1 + 1))), (0, .ref (a 1)), (1, .int (nI (c))), (2, .long (pv)), (4, .long (dv))]) hx hb dX2_clearColumn_26 hl (k := 0) rfl (nI_1 (k1 + 1)) (by decide) rfl (fun ls hl => ?_)
          refine lv_goto (tgt := 3) hx hb dX2_clearColumn_29 (by decide) ?_
          have e_8 : ccK eq c pv dv (k1 + 1) = ce (ccK eq c pv dv (k1)) (k1 + 1) c pv dv := by first | rfl | exact if_pos (by assumption) | exact if_neg (by assumption) | (simp only [n_4, n_5, Bool.false_eq_true, ↓reduceIte])
          exact ih1 (k1 + 1) (by omega) _ _ ls (by rw [e_8]; exact hP) (by rw [e_8]; exact hD) hS (lv_sub hl [0, 1, 2, 3, 4] rfl)
  exact L1 (5) 0 (by omega) _ _ ls hP hD hS (lv_sub hl [0, 1, 2, 3, 4] rfl)

abbrev rmX2_writeEquations : Room := ({ frames := 1, cells := 0, slots := 0, locals := 21 } : Room)
set_option maxHeartbeats 4000000 in
set_option maxRecDepth 100000 in
theorem c_X2_writeEquations (ll : Launch) (D : va_G) (a : Nat → Nat) (cI cJ : ClassId) (sz : Nat) (p : Nat → Int32) (nu de eq : Nat → Int64) (am nx oA oD oE oP cR aR hR cl ad gw pr : Nat → Int32) (n : Int32)   : Met ll yX2_writeEquations wsX2_writeEquations rmX2_writeEquations (va_Pc [.ref (a 1)] (PW D (tyG cI cJ) (GW a cI cJ p nu de eq am nx oA oD oE oP cR aR hR cl ad gw pr n) sz)) (va_Qv (fun (u : Unit) => True) (fun (u : Unit) t => AW D (tyG cI cJ) (va_A (GW a cI cJ p nu de eq am nx oA oD oE oP cR aR hR cl ad gw pr n) sz) (GW a cI cJ p nu de (weO p eq 5) am nx oA oD oE oP cR aR hR cl ad gw pr n) t) (va_A (GW a cI cJ p nu de eq am nx oA oD oE oP cR aR hR cl ad gw pr n) sz)) 0 0 (va_A (GW a cI cJ p nu de eq am nx oA oD oE oP cR aR hR cl ad gw pr n) sz) := by
  refine Met.ofW (cc := cX2_writeEquations) (maxL := 3) (ret := none) (by decide) rfl ?_
  intro pp ee ss mm ar bel mth cd s₁ B hml hv
  obtain ⟨rfl, hsz, hP, hK, hD0, hE⟩ := hv
  have hx := B.exec
  have hb := B.bytes
  have hr := B.returns
  have hts := atoms_spec (ws := wsX2_writeEquations) B.pre
  have hown : ss.vm.findClass RX2 = some mm.cls := findClass_of_methodNamed B.named
  have hlocks := B.notSynchronized
  subst hsz
  have hD := hD0.self (sz := ss.heap.size)
  generalize hAe : va_A (GW a cI cJ p nu de eq am nx oA oD oE oP cR aR hR cl ad gw pr n) ss.heap.size = A at hD ⊢
  have hA : ∀ q : Nat, ss.heap.size ≤ q → A q := fun q h => by rw [← hAe]; exact Or.inr h
  have hS : va_S A ss.heap ss.heap [] := va_S.rf
  have hin : ∀ w ∈ wsX20, w.before ([.ref (a 1)] : List Value).toArray ss = true := fun w h => hts w ((by decide +kernel : ∀ w ∈ wsX20, w ∈ wsX2_writeEquations) w h)
  have hl := lv_entry [.ref (a 1)] (n := 3) (Nat.le_of_ble_eq_true rfl)
  rw [lg_entry_eq]
  generalize (lg_sl [.ref (a 1)] ++ List.replicate (3 - (lg_sl [.ref (a 1)]).length) Slot.unset).toArray = ls at hl ⊢
  have hl : lv_has ls 3 [(0, .ref (a 1))] := hl
  generalize hZ : MQ bel _ _ ss _ _ _ = Z
  refine lv_iconst (v := 1) hx hb dX2_writeEquations_0 (by decide) ?_
  refine lv_istore_n (lv' := [(1, .int (1)), (0, .ref (a 1))]) hx hb dX2_writeEquations_1 rfl hl (by decide) rfl (fun ls hl => ?_)
  have L1 : ∀ (n1 i1 : Nat), i1 + n1 = 5 → ∀ (H : Heap) (locs : List Loc) (ls : Array Slot), va_P D vwCl (GW a cI cJ p nu de (weO p eq (i1)) am nx oA oD oE oP cR aR hR cl ad gw pr n) H → va_D A (GW a cI cJ p nu de (weO p eq (i1)) am nx oA oD oE oP cR aR hR cl ad gw pr n) → va_S A ss.heap H locs → lv_has ls 3 [(1, .int (nI (i1 + 1))), (0, .ref (a 1))] → W pp ll ee rmX2_writeEquations ss mm (([.ref (a 1)] : List Value).toArray) bel mth cd H locs 0 0 Z (F0 mm 2 ls []) := by
    intro n1
    induction n1 with
    | zero =>
      intro i1 hk1  H locs ls hP hD hS hl
      have hk1b : 5 = i1 := by omega
      subst hk1b
      refine lv_iload_n hx hb dX2_writeEquations_2 rfl (lv_at hl 0 rfl) ?_
      refine lv_bipush (v := 6) hx hb dX2_writeEquations_3 (by decide) ?_
      refine lv_icmp_ge (tgt := 82) hx hb dX2_writeEquations_5 (by decide) (fun c_2 => ?_) (fun c_2 => ?_)
      · have n_2 : (6) ≤ (5 + 1) := (nI_leI (a := 6) (b := 5 + 1) (by omega) (by omega)).mp c_2
        have e_3 : weO p eq 5 = weO p eq (5) := by first | rfl | exact if_pos (by assumption) | exact if_neg (by assumption) | (simp only [n_2, Bool.false_eq_true, ↓reduceIte])
        subst hZ; exact W.vret hx hb hr (fun t ht hW => ⟨⟨(), rfl, trivial, (by rw [ht]; exact (by rw [e_3]; exact hP)), va_K.moved hW.alike hK, (by rw [e_3]; exact hD)⟩, hS.F ht⟩) hS.2.2 dX2_writeEquations_82
      · have n_2 : ¬ ((6) ≤ (5 + 1)) := fun h => c_2 ((nI_leI (a := 6) (b := 5 + 1) (by omega) (by omega)).mpr h)
        exfalso; omega
    | succ n1 ih1 =>
      intro i1 hk1  H locs ls hP hD hS hl
      have hk1b : i1 < 5 := by omega
      refine lv_iload_n hx hb dX2_writeEquations_2 rfl (lv_at hl 0 rfl) ?_
      refine lv_bipush (v := 6) hx hb dX2_writeEquations_3 (by decide) ?_
      refine lv_icmp_ge (tgt := 82) hx hb dX2_writeEquations_5 (by decide) (fun c_4 => ?_) (fun c_4 => ?_)
      · have n_4 : (6) ≤ (i1 + 1) := (nI_leI (a := 6) (b := i1 + 1) (by omega) (by omega)).mp c_4
        exfalso; omega
      · have n_4 : ¬ ((6) ≤ (i1 + 1)) := fun h => c_4 ((nI_leI (a := 6) (b := i1 + 1) (by omega) (by omega)).mpr h)
        refine lv_aload_n hx hb dX2_writeEquations_8 rfl (lv_at hl 1 rfl) ?_
        refine va_get (D := D) (ci := 2) (v := .ref (a 9)) (C := RX2) (T := TX2) (N := 6) (Ts := wsX20) hx hb hin (fun _ h9 => h9) hown hK hP 1 rfl rfl 3 (by decide) (hts (.fieldLink RX2 22 "Groupbooks$Holdings" "equations" "[J") (by decide +kernel)) (fun _ h9 => h9) rfl dX2_writeEquations_9 ?_
        refine lv_iload_n hx hb dX2_writeEquations_12 rfl (lv_at hl 0 rfl) ?_
        refine lv_iconst (v := 0) hx hb dX2_writeEquations_13 (by decide) ?_
        refine b_csi (v := nI (6 * (i1 + 1) + 0)) ((va_runSN (As := [.int (nI (i1 + 1)), .int (0)]) (rest := [.ref (a 9)]) ⟨hx, hb, hml, hown, hts⟩ (c_X3_pair ll (i1 + 1) 0 ) ⟨va_cnB 2 hts gX2_writeEquations_X3_pair_n31 rfl rfl rfl (hE.nest 5 rfl) (hts (.initialized RX3) (by decide +kernel)) (by decide +kernel) ⟨Nat.le_of_ble_eq_true rfl, Nat.le_of_ble_eq_true rfl⟩, hts (.static yX3_pair) (by decide +kernel), trivial⟩ ⟨PT.blind, PT.to⟩ rfl rfl hl.1 rfl (lv_room (Nat.le_of_ble_eq_true rfl)) dX2_writeEquations_14 ⟨Nat.le_of_ble_eq_true rfl, Nat.le_of_ble_eq_true rfl⟩).run) ?_
        refine lv_aload_n hx hb dX2_writeEquations_17 rfl (lv_at hl 1 rfl) ?_
        refine va_get (D := D) (ci := 2) (v := .ref (a 6)) (C := RX2) (T := TX2) (N := 6) (Ts := wsX20) hx hb hin (fun _ h9 => h9) hown hK hP 1 rfl rfl 0 (by decide) (hts (.fieldLink RX2 9 "Groupbooks$Holdings" "percents" "[I") (by decide +kernel)) (fun _ h9 => h9) rfl dX2_writeEquations_18 ?_
        refine lv_iconst (v := 0) hx hb dX2_writeEquations_21 (by decide) ?_
        refine lv_iload_n hx hb dX2_writeEquations_22 rfl (lv_at hl 0 rfl) ?_
        refine b_csi (v := nI (6 * 0 + (i1 + 1))) ((va_runSN (As := [.int (0), .int (nI (i1 + 1))]) (rest := [.ref (a 6), .int (nI (6 * (i1 + 1) + 0)), .ref (a 9)]) ⟨hx, hb, hml, hown, hts⟩ (c_X3_pair ll 0 (i1 + 1) ) ⟨va_cnB 2 hts gX2_writeEquations_X3_pair_n31 rfl rfl rfl (hE.nest 5 rfl) (hts (.initialized RX3) (by decide +kernel)) (by decide +kernel) ⟨Nat.le_of_ble_eq_true rfl, Nat.le_of_ble_eq_true rfl⟩, hts (.static yX3_pair) (by decide +kernel), trivial⟩ ⟨PT.blind, PT.to⟩ rfl rfl hl.1 rfl (lv_room (Nat.le_of_ble_eq_true rfl)) dX2_writeEquations_23 ⟨Nat.le_of_ble_eq_true rfl, Nat.le_of_ble_eq_true rfl⟩).run) ?_
        refine b_iald hx hb hK hP 6 0 (f := p) rfl rfl (j := 6 * 0 + (i1 + 1)) (by omega) (by decide) dX2_writeEquations_26 ?_
        refine lv_i2l (v := (p (6 * 0 + (i1 + 1))).toInt64) hx hb dX2_writeEquations_27 rfl ?_
        refine b_last (w' := GW a cI cJ p nu de (vp_updL (weO p eq (i1)) (6 * (i1 + 1) + 0) ((p (6 * 0 + (i1 + 1))).toInt64)) am nx oA oD oE oP cR aR hR cl ad gw pr n) hx hb hK hP hD hS 9 1 (f := (weO p eq (i1))) rfl rfl (j := 6 * (i1 + 1) + 0) (by omega) (by decide) rfl dX2_writeEquations_28 (fun H locs hP hD hS => ?_)
        refine lv_iconst (v := 1) hx hb dX2_writeEquations_29 (by decide) ?_
        refine lv_istore_n (lv' := [(2, .int (1)), (1, .int (nI (i1 + 1))), (0, .ref (a 1))]) hx hb dX2_writeEquations_30 rfl hl (by decide) rfl (fun ls hl => ?_)
        have L5 : ∀ (n5 j5 : Nat), j5 + n5 = 5 → ∀ (H : Heap) (locs : List Loc) (ls : Array Slot), va_P D vwCl (GW a cI cJ p nu de (weI p (i1 + 1) (vp_updL (weO p eq i1) (6 * (i1 + 1) + 0) (p (6 * 0 + (i1 + 1))).toInt64) (j5)) am nx oA oD oE oP cR aR hR cl ad gw pr n) H → va_D A (GW a cI cJ p nu de (weI p (i1 + 1) (vp_updL (weO p eq i1) (6 * (i1 + 1) + 0) (p (6 * 0 + (i1 + 1))).toInt64) (j5)) am nx oA oD oE oP cR aR hR cl ad gw pr n) → va_S A ss.heap H locs → lv_has ls 3 [(2, .int (nI (j5 + 1))), (1, .int (nI (i1 + 1))), (0, .ref (a 1))] → W pp ll ee rmX2_writeEquations ss mm (([.ref (a 1)] : List Value).toArray) bel mth cd H locs 0 0 Z (F0 mm 31 ls []) := by
          intro n5
          induction n5 with
          | zero =>
            intro j5 hk5  H locs ls hP hD hS hl
            have hk5b : 5 = j5 := by omega
            subst hk5b
            refine lv_iload_n hx hb dX2_writeEquations_31 rfl (lv_at hl 0 rfl) ?_
            refine lv_bipush (v := 6) hx hb dX2_writeEquations_32 (by decide) ?_
            refine lv_icmp_ge (tgt := 76) hx hb dX2_writeEquations_34 (by decide) (fun c_6 => ?_) (fun c_6 => ?_)
            · have n_6 : (6) ≤ (5 + 1) := (nI_leI (a := 6) (b := 5 + 1) (by omega) (by omega)).mp c_6
              refine lv_iinc (v := nI (i1 + 1 + 1)) (lv' := [(1, .int (nI (i1 + 1 + 1))), (2, .int (nI (5 + 1))), (0, .ref (a 1))]) hx hb dX2_writeEquations_76 hl (k := 1) rfl (nI_1 (i1 + 1)) (by decide) rfl (fun ls hl => ?_)
              refine lv_goto (tgt := 2) hx hb dX2_writeEquations_79 (by decide) ?_
              have e_7 : weO p eq (i1 + 1) = weI p (i1 + 1) (vp_updL (weO p eq i1) (6 * (i1 + 1) + 0) (p (6 * 0 + (i1 + 1))).toInt64) (5) := by first | rfl | exact if_pos (by assumption) | exact if_neg (by assumption) | (simp only [n_4, n_6, Bool.false_eq_true, ↓reduceIte])
              exact ih1 (i1 + 1) (by omega) _ _ ls (by rw [e_7]; exact hP) (by rw [e_7]; exact hD) hS (lv_sub hl [0, 2] rfl)
            · have n_6 : ¬ ((6) ≤ (5 + 1)) := fun h => c_6 ((nI_leI (a := 6) (b := 5 + 1) (by omega) (by omega)).mpr h)
              exfalso; omega
          | succ n5 ih5 =>
            intro j5 hk5  H locs ls hP hD hS hl
            have hk5b : j5 < 5 := by omega
            refine lv_iload_n hx hb dX2_writeEquations_31 rfl (lv_at hl 0 rfl) ?_
            refine lv_bipush (v := 6) hx hb dX2_writeEquations_32 (by decide) ?_
            refine lv_icmp_ge (tgt := 76) hx hb dX2_writeEquations_34 (by decide) (fun c_8 => ?_) (fun c_8 => ?_)
            · have n_8 : (6) ≤ (j5 + 1) := (nI_leI (a := 6) (b := j5 + 1) (by omega) (by omega)).mp c_8
              exfalso; omega
            · have n_8 : ¬ ((6) ≤ (j5 + 1)) := fun h => c_8 ((nI_leI (a := 6) (b := j5 + 1) (by omega) (by omega)).mpr h)
              refine lv_aload_n hx hb dX2_writeEquations_37 rfl (lv_at hl 2 rfl) ?_
              refine va_get (D := D) (ci := 2) (v := .ref (a 9)) (C := RX2) (T := TX2) (N := 6) (Ts := wsX20) hx hb hin (fun _ h9 => h9) hown hK hP 1 rfl rfl 3 (by decide) (hts (.fieldLink RX2 22 "Groupbooks$Holdings" "equations" "[J") (by decide +kernel)) (fun _ h9 => h9) rfl dX2_writeEquations_38 ?_
              refine lv_iload_n hx hb dX2_writeEquations_41 rfl (lv_at hl 1 rfl) ?_
              refine lv_iload_n hx hb dX2_writeEquations_42 rfl (lv_at hl 0 rfl) ?_
              refine b_csi (v := nI (6 * (i1 + 1) + (j5 + 1))) ((va_runSN (As := [.int (nI (i1 + 1)), .int (nI (j5 + 1))]) (rest := [.ref (a 9)]) ⟨hx, hb, hml, hown, hts⟩ (c_X3_pair ll (i1 + 1) (j5 + 1) ) ⟨va_cnB 2 hts gX2_writeEquations_X3_pair_n31 rfl rfl rfl (hE.nest 5 rfl) (hts (.initialized RX3) (by decide +kernel)) (by decide +kernel) ⟨Nat.le_of_ble_eq_true rfl, Nat.le_of_ble_eq_true rfl⟩, hts (.static yX3_pair) (by decide +kernel), trivial⟩ ⟨PT.blind, PT.to⟩ rfl rfl hl.1 rfl (lv_room (Nat.le_of_ble_eq_true rfl)) dX2_writeEquations_43 ⟨Nat.le_of_ble_eq_true rfl, Nat.le_of_ble_eq_true rfl⟩).run) ?_
              refine lv_iload_n hx hb dX2_writeEquations_46 rfl (lv_at hl 0 rfl) ?_
              refine lv_iload_n hx hb dX2_writeEquations_47 rfl (lv_at hl 1 rfl) ?_
              refine lv_icmp_ne (tgt := 57) hx hb dX2_writeEquations_48 (by decide) (fun c_9 => ?_) (fun c_9 => ?_)
              · have n_9 : ¬ ((j5 + 1) = (i1 + 1)) := fun h => c_9 ((nI_eq (a := j5 + 1) (b := i1 + 1) (by omega) (by omega)).mpr h)
                refine lv_aload_n hx hb dX2_writeEquations_57 rfl (lv_at hl 2 rfl) ?_
                refine va_get (D := D) (ci := 2) (v := .ref (a 6)) (C := RX2) (T := TX2) (N := 6) (Ts := wsX20) hx hb hin (fun _ h9 => h9) hown hK hP 1 rfl rfl 0 (by decide) (hts (.fieldLink RX2 9 "Groupbooks$Holdings" "percents" "[I") (by decide +kernel)) (fun _ h9 => h9) rfl dX2_writeEquations_58 ?_
                refine lv_iload_n hx hb dX2_writeEquations_61 rfl (lv_at hl 0 rfl) ?_
                refine lv_iload_n hx hb dX2_writeEquations_62 rfl (lv_at hl 1 rfl) ?_
                refine b_csi (v := nI (6 * (j5 + 1) + (i1 + 1))) ((va_runSN (As := [.int (nI (j5 + 1)), .int (nI (i1 + 1))]) (rest := [.ref (a 6), .int (nI (6 * (i1 + 1) + (j5 + 1))), .ref (a 9)]) ⟨hx, hb, hml, hown, hts⟩ (c_X3_pair ll (j5 + 1) (i1 + 1) ) ⟨va_cnB 2 hts gX2_writeEquations_X3_pair_n31 rfl rfl rfl (hE.nest 5 rfl) (hts (.initialized RX3) (by decide +kernel)) (by decide +kernel) ⟨Nat.le_of_ble_eq_true rfl, Nat.le_of_ble_eq_true rfl⟩, hts (.static yX3_pair) (by decide +kernel), trivial⟩ ⟨PT.blind, PT.to⟩ rfl rfl hl.1 rfl (lv_room (Nat.le_of_ble_eq_true rfl)) dX2_writeEquations_63 ⟨Nat.le_of_ble_eq_true rfl, Nat.le_of_ble_eq_true rfl⟩).run) ?_
                refine b_iald hx hb hK hP 6 0 (f := p) rfl rfl (j := 6 * (j5 + 1) + (i1 + 1)) (by omega) (by decide) dX2_writeEquations_66 ?_
                refine lv_ineg hx hb dX2_writeEquations_67 ?_
                refine lv_i2l (v := (-(p (6 * (j5 + 1) + (i1 + 1)))).toInt64) hx hb dX2_writeEquations_68 rfl ?_
                refine b_last (w' := GW a cI cJ p nu de (vp_updL (weI p (i1 + 1) (vp_updL (weO p eq i1) (6 * (i1 + 1) + 0) (p (6 * 0 + (i1 + 1))).toInt64) (j5)) (6 * (i1 + 1) + (j5 + 1)) ((-(p (6 * (j5 + 1) + (i1 + 1)))).toInt64)) am nx oA oD oE oP cR aR hR cl ad gw pr n) hx hb hK hP hD hS 9 1 (f := (weI p (i1 + 1) (vp_updL (weO p eq i1) (6 * (i1 + 1) + 0) (p (6 * 0 + (i1 + 1))).toInt64) (j5))) rfl rfl (j := 6 * (i1 + 1) + (j5 + 1)) (by omega) (by decide) rfl dX2_writeEquations_69 (fun H locs hP hD hS => ?_)
                refine lv_iinc (v := nI (j5 + 1 + 1)) (lv' := [(2, .int (nI (j5 + 1 + 1))), (1, .int (nI (i1 + 1))), (0, .ref (a 1))]) hx hb dX2_writeEquations_70 hl (k := 0) rfl (nI_1 (j5 + 1)) (by decide) rfl (fun ls hl => ?_)
                refine lv_goto (tgt := 31) hx hb dX2_writeEquations_73 (by decide) ?_
                have e_10 : weI p (i1 + 1) (vp_updL (weO p eq i1) (6 * (i1 + 1) + 0) (p (6 * 0 + (i1 + 1))).toInt64) (j5 + 1) = vp_updL (weI p (i1 + 1) (vp_updL (weO p eq i1) (6 * (i1 + 1) + 0) (p (6 * 0 + (i1 + 1))).toInt64) (j5)) (6 * (i1 + 1) + (j5 + 1)) ((-(p (6 * (j5 + 1) + (i1 + 1)))).toInt64) := by first | rfl | exact if_pos (by assumption) | exact if_neg (by assumption) | (simp only [weI, n_4, n_8, n_9, Bool.false_eq_true, ↓reduceIte])
                exact ih5 (j5 + 1) (by omega) _ _ ls (by rw [e_10]; exact hP) (by rw [e_10]; exact hD) hS (lv_sub hl [0, 1, 2] rfl)
              · have n_9 : (j5 + 1) = (i1 + 1) := (nI_eq (a := j5 + 1) (b := i1 + 1) (by omega) (by omega)).mp c_9
                refine lv_ldc2 (v := 100) hx hb hown (hts (.constantLong RX2 64 (100)) (by decide +kernel)) dX2_writeEquations_51 ?_
                refine lv_goto (tgt := 69) hx hb dX2_writeEquations_54 (by decide) ?_
                refine b_last (w' := GW a cI cJ p nu de (vp_updL (weI p (i1 + 1) (vp_updL (weO p eq i1) (6 * (i1 + 1) + 0) (p (6 * 0 + (i1 + 1))).toInt64) (j5)) (6 * (i1 + 1) + (j5 + 1)) ((100))) am nx oA oD oE oP cR aR hR cl ad gw pr n) hx hb hK hP hD hS 9 1 (f := (weI p (i1 + 1) (vp_updL (weO p eq i1) (6 * (i1 + 1) + 0) (p (6 * 0 + (i1 + 1))).toInt64) (j5))) rfl rfl (j := 6 * (i1 + 1) + (j5 + 1)) (by omega) (by decide) rfl dX2_writeEquations_69 (fun H locs hP hD hS => ?_)
                refine lv_iinc (v := nI (j5 + 1 + 1)) (lv' := [(2, .int (nI (j5 + 1 + 1))), (1, .int (nI (i1 + 1))), (0, .ref (a 1))]) hx hb dX2_writeEquations_70 hl (k := 0) rfl (nI_1 (j5 + 1)) (by decide) rfl (fun ls hl => ?_)
                refine lv_goto (tgt := 31) hx hb dX2_writeEquations_73 (by decide) ?_
                have e_11 : weI p (i1 + 1) (vp_updL (weO p eq i1) (6 * (i1 + 1) + 0) (p (6 * 0 + (i1 + 1))).toInt64) (j5 + 1) = vp_updL (weI p (i1 + 1) (vp_updL (weO p eq i1) (6 * (i1 + 1) + 0) (p (6 * 0 + (i1 + 1))).toInt64) (j5)) (6 * (i1 + 1) + (j5 + 1)) ((100)) := by first | rfl | exact if_pos (by assumption) | exact if_neg (by assumption) | (simp only [weI, n_4, n_8, n_9, Bool.false_eq_true, ↓reduceIte])
                exact ih5 (j5 + 1) (by omega) _ _ ls (by rw [e_11]; exact hP) (by rw [e_11]; exact hD) hS (lv_sub hl [0, 1, 2] rfl)
        exact L5 (5) 0 (by omega) _ _ ls hP hD hS (lv_sub hl [0, 1, 2] rfl)
  exact L1 (5) 0 (by omega) _ _ ls hP hD hS (lv_sub hl [0, 1] rfl)

abbrev rmX2_commonDivisor : Room := ({ frames := 0, cells := 0, slots := 0, locals := 0 } : Room)
set_option maxHeartbeats 4000000 in
set_option maxRecDepth 100000 in
theorem c_X2_commonDivisor (ll : Launch) (x y : Int64)  : Met ll yX2_commonDivisor wsX2_commonDivisor rmX2_commonDivisor (va_Pc [.long (x), .long (y)] (fun _ => True)) (vp_Sl (fun rr => rr = cdF 100 x y)) 0 0 (fun _ => False) := by
  refine Met.ofW (cc := cX2_commonDivisor) (maxL := 11) (ret := (some .long)) (by decide) rfl ?_
  intro pp ee ss mm ar bel mth cd s₁ B hml hv
  obtain ⟨rfl, -⟩ := hv
  have hx := B.exec
  have hb := B.bytes
  have hr := B.returns
  have hts := atoms_spec (ws := wsX2_commonDivisor) B.pre
  have hown : ss.vm.findClass RX2 = some mm.cls := findClass_of_methodNamed B.named
  have hlocks := B.notSynchronized
  have hl := lv_entry [.long (x), .long (y)] (n := 11) (Nat.le_of_ble_eq_true rfl)
  rw [lg_entry_eq]
  generalize (lg_sl [.long (x), .long (y)] ++ List.replicate (11 - (lg_sl [.long (x), .long (y)]).length) Slot.unset).toArray = ls at hl ⊢
  have hl : lv_has ls 11 [(0, .long (x)), (2, .long (y))] := hl
  generalize hZ : MQ bel _ _ ss _ _ _ = Z
  refine lv_lload_n hx hb dX2_commonDivisor_0 rfl (lv_at hl 0 rfl) ?_
  refine lv_lstore (lv' := [(4, .long (x)), (0, .long (x)), (2, .long (y))]) hx hb dX2_commonDivisor_1 hl (by decide) rfl (fun ls hl => ?_)
  refine lv_lload_n hx hb dX2_commonDivisor_3 rfl (lv_at hl 2 rfl) ?_
  refine lv_lstore (lv' := [(6, .long (y)), (4, .long (x)), (0, .long (x)), (2, .long (y))]) hx hb dX2_commonDivisor_4 hl (by decide) rfl (fun ls hl => ?_)
  refine lv_iconst (v := 0) hx hb dX2_commonDivisor_6 (by decide) ?_
  refine lv_istore (lv' := [(8, .int (0)), (6, .long (y)), (4, .long (x)), (0, .long (x)), (2, .long (y))]) hx hb dX2_commonDivisor_7 hl (by decide) rfl (fun ls hl => ?_)
  have L1 : ∀ (n1 k1 : Nat) (x1 : Int64) (y1 : Int64), k1 + n1 = 100 → cdF n1 x1 y1 = cdF 100 x y → ∀ (ls : Array Slot), lv_has ls 11 [(8, .int (nI (k1))), (6, .long (y1)), (4, .long (x1)), (0, .long (x)), (2, .long (y))] → W pp ll ee rmX2_commonDivisor ss mm (([.long (x), .long (y)] : List Value).toArray) bel mth cd ss.heap [] 0 0 Z (F0 mm 9 ls []) := by
    intro n1
    induction n1 with
    | zero =>
      intro k1 x1 y1 hk1 hy1_0 ls hl
      have hk1b : 100 = k1 := by omega
      refine lv_iload hx hb dX2_commonDivisor_9 (lv_at hl 0 rfl) ?_
      refine lv_bipush (v := 100) hx hb dX2_commonDivisor_11 (by decide) ?_
      refine lv_icmp_ge (tgt := 44) hx hb dX2_commonDivisor_13 (by decide) (fun c_2 => ?_) (fun c_2 => ?_)
      · have n_2 : (100) ≤ (k1) := (nI_leI (a := 100) (b := k1) (by omega) (by omega)).mp c_2
        refine lv_lload hx hb dX2_commonDivisor_44 (lv_at hl 2 rfl) ?_
        subst hZ; exact W.lret hx hb hr (fun t ht _ => ⟨_, rfl, (by first | exact hy1_0 | (rw [← hy1_0, cdF, if_pos (by assumption)])), ht⟩) (fun _ h => nomatch h) dX2_commonDivisor_46
      · have n_2 : ¬ ((100) ≤ (k1)) := fun h => c_2 ((nI_leI (a := 100) (b := k1) (by omega) (by omega)).mpr h)
        exfalso; omega
    | succ n1 ih1 =>
      intro k1 x1 y1 hk1 hy1_0 ls hl
      have hk1b : k1 < 100 := by omega
      refine lv_iload hx hb dX2_commonDivisor_9 (lv_at hl 0 rfl) ?_
      refine lv_bipush (v := 100) hx hb dX2_commonDivisor_11 (by decide) ?_
      refine lv_icmp_ge (tgt := 44) hx hb dX2_commonDivisor_13 (by decide) (fun c_3 => ?_) (fun c_3 => ?_)
      · have n_3 : (100) ≤ (k1) := (nI_leI (a := 100) (b := k1) (by omega) (by omega)).mp c_3
        exfalso; omega
      · have n_3 : ¬ ((100) ≤ (k1)) := fun h => c_3 ((nI_leI (a := 100) (b := k1) (by omega) (by omega)).mpr h)
        refine lv_lload hx hb dX2_commonDivisor_16 (lv_at hl 1 rfl) ?_
        refine lv_lconst (v := 0) hx hb dX2_commonDivisor_18 (by decide) ?_
        refine W.lcmp hx hb dX2_commonDivisor_19 ?_
        refine lv_if_eq (tgt := 44) hx hb dX2_commonDivisor_20 (by decide) (fun c_4 => ?_) (fun c_4 => ?_)
        · have n_4 : y1 = 0 := (lg_cmp_eq _ _).mp c_4
          refine lv_lload hx hb dX2_commonDivisor_44 (lv_at hl 2 rfl) ?_
          subst hZ; exact W.lret hx hb hr (fun t ht _ => ⟨_, rfl, (by first | exact hy1_0 | (rw [← hy1_0, cdF, if_pos (by assumption)])), ht⟩) (fun _ h => nomatch h) dX2_commonDivisor_46
        · have n_4 : ¬ (y1 = 0) := fun h => c_4 ((lg_cmp_eq _ _).mpr h)
          refine lv_lload hx hb dX2_commonDivisor_23 (lv_at hl 2 rfl) ?_
          refine lv_lload hx hb dX2_commonDivisor_25 (lv_at hl 1 rfl) ?_
          refine lv_lrem hx hb dX2_commonDivisor_27 n_4 ?_
          refine lv_lstore (lv' := [(9, .long ((x1) - (x1) / (y1) * (y1))), (8, .int (nI (k1))), (6, .long (y1)), (4, .long (x1)), (0, .long (x)), (2, .long (y))]) hx hb dX2_commonDivisor_28 hl (by decide) rfl (fun ls hl => ?_)
          refine lv_lload hx hb dX2_commonDivisor_30 (lv_at hl 2 rfl) ?_
          refine lv_lstore (lv' := [(4, .long (y1)), (9, .long ((x1) - (x1) / (y1) * (y1))), (8, .int (nI (k1))), (6, .long (y1)), (0, .long (x)), (2, .long (y))]) hx hb dX2_commonDivisor_32 hl (by decide) rfl (fun ls hl => ?_)
          refine lv_lload hx hb dX2_commonDivisor_34 (lv_at hl 1 rfl) ?_
          refine lv_lstore (lv' := [(6, .long ((x1) - (x1) / (y1) * (y1))), (4, .long (y1)), (9, .long ((x1) - (x1) / (y1) * (y1))), (8, .int (nI (k1))), (0, .long (x)), (2, .long (y))]) hx hb dX2_commonDivisor_36 hl (by decide) rfl (fun ls hl => ?_)
          refine lv_iinc (v := nI (k1 + 1)) (lv' := [(8, .int (nI (k1 + 1))), (6, .long ((x1) - (x1) / (y1) * (y1))), (4, .long (y1)), (9, .long ((x1) - (x1) / (y1) * (y1))), (0, .long (x)), (2, .long (y))]) hx hb dX2_commonDivisor_38 hl (k := 3) rfl (nI_1 (k1)) (by decide) rfl (fun ls hl => ?_)
          refine lv_goto (tgt := 9) hx hb dX2_commonDivisor_41 (by decide) ?_
          exact ih1 (k1 + 1) y1 ((x1) - (x1) / (y1) * (y1)) (by omega) (by have h9 := hy1_0; rw [cdF, if_neg n_4] at h9; exact h9) ls (lv_sub hl [0, 1, 2, 4, 5] rfl)
  exact L1 (100) 0 x y (by omega) rfl ls (lv_sub hl [0, 1, 2, 3, 4] rfl)

abbrev rmX2_keepShares : Room := ({ frames := 1, cells := 0, slots := 0, locals := 30 } : Room)
set_option maxHeartbeats 4000000 in
set_option maxRecDepth 100000 in
theorem c_X2_keepShares (ll : Launch) (D : va_G) (a : Nat → Nat) (cI cJ : ClassId) (sz : Nat) (p : Nat → Int32) (nu de eq : Nat → Int64) (am nx oA oD oE oP cR aR hR cl ad gw pr : Nat → Int32) (n : Int32) (dn : Int64)  : Met ll yX2_keepShares wsX2_keepShares rmX2_keepShares (va_Pc [.ref (a 1), .long (dn)] (PW D (tyG cI cJ) (GW a cI cJ p nu de eq am nx oA oD oE oP cR aR hR cl ad gw pr n) sz)) (va_Qv (fun (u : Unit) => True) (fun (u : Unit) t => AW D (tyG cI cJ) (va_A (GW a cI cJ p nu de eq am nx oA oD oE oP cR aR hR cl ad gw pr n) sz) (GW a cI cJ p (ksN eq dn nu 5) (ksD eq dn de 5) eq am nx oA oD oE oP cR aR hR cl ad gw pr n) t) (va_A (GW a cI cJ p nu de eq am nx oA oD oE oP cR aR hR cl ad gw pr n) sz)) 0 0 (va_A (GW a cI cJ p nu de eq am nx oA oD oE oP cR aR hR cl ad gw pr n) sz) := by
  refine Met.ofW (cc := cX2_keepShares) (maxL := 8) (ret := none) (by decide) rfl ?_
  intro pp ee ss mm ar bel mth cd s₁ B hml hv
  obtain ⟨rfl, hsz, hP, hK, hD0, hE⟩ := hv
  have hx := B.exec
  have hb := B.bytes
  have hr := B.returns
  have hts := atoms_spec (ws := wsX2_keepShares) B.pre
  have hown : ss.vm.findClass RX2 = some mm.cls := findClass_of_methodNamed B.named
  have hlocks := B.notSynchronized
  subst hsz
  have hD := hD0.self (sz := ss.heap.size)
  generalize hAe : va_A (GW a cI cJ p nu de eq am nx oA oD oE oP cR aR hR cl ad gw pr n) ss.heap.size = A at hD ⊢
  have hA : ∀ q : Nat, ss.heap.size ≤ q → A q := fun q h => by rw [← hAe]; exact Or.inr h
  have hS : va_S A ss.heap ss.heap [] := va_S.rf
  have hin : ∀ w ∈ wsX20, w.before ([.ref (a 1), .long (dn)] : List Value).toArray ss = true := fun w h => hts w ((by decide +kernel : ∀ w ∈ wsX20, w ∈ wsX2_keepShares) w h)
  have hl := lv_entry [.ref (a 1), .long (dn)] (n := 8) (Nat.le_of_ble_eq_true rfl)
  rw [lg_entry_eq]
  generalize (lg_sl [.ref (a 1), .long (dn)] ++ List.replicate (8 - (lg_sl [.ref (a 1), .long (dn)]).length) Slot.unset).toArray = ls at hl ⊢
  have hl : lv_has ls 8 [(0, .ref (a 1)), (1, .long (dn))] := hl
  generalize hZ : MQ bel _ _ ss _ _ _ = Z
  refine lv_iconst (v := 1) hx hb dX2_keepShares_0 (by decide) ?_
  refine lv_istore_n (lv' := [(3, .int (1)), (0, .ref (a 1)), (1, .long (dn))]) hx hb dX2_keepShares_1 rfl hl (by decide) rfl (fun ls hl => ?_)
  have L1 : ∀ (n1 k1 : Nat), k1 + n1 = 5 → ∀ (H : Heap) (locs : List Loc) (ls : Array Slot), va_P D vwCl (GW a cI cJ p (ksN eq dn nu (k1)) (ksD eq dn de (k1)) eq am nx oA oD oE oP cR aR hR cl ad gw pr n) H → va_D A (GW a cI cJ p (ksN eq dn nu (k1)) (ksD eq dn de (k1)) eq am nx oA oD oE oP cR aR hR cl ad gw pr n) → va_S A ss.heap H locs → lv_has ls 8 [(3, .int (nI (k1 + 1))), (0, .ref (a 1)), (1, .long (dn))] → W pp ll ee rmX2_keepShares ss mm (([.ref (a 1), .long (dn)] : List Value).toArray) bel mth cd H locs 0 0 Z (F0 mm 2 ls []) := by
    intro n1
    induction n1 with
    | zero =>
      intro k1 hk1  H locs ls hP hD hS hl
      have hk1b : 5 = k1 := by omega
      subst hk1b
      refine lv_iload_n hx hb dX2_keepShares_2 rfl (lv_at hl 0 rfl) ?_
      refine lv_bipush (v := 6) hx hb dX2_keepShares_3 (by decide) ?_
      refine lv_icmp_ge (tgt := 62) hx hb dX2_keepShares_5 (by decide) (fun c_2 => ?_) (fun c_2 => ?_)
      · have n_2 : (6) ≤ (5 + 1) := (nI_leI (a := 6) (b := 5 + 1) (by omega) (by omega)).mp c_2
        have e_3 : ksN eq dn nu 5 = ksN eq dn nu (5) := by first | rfl | exact if_pos (by assumption) | exact if_neg (by assumption) | (simp only [n_2, Bool.false_eq_true, ↓reduceIte])
        have e_4 : ksD eq dn de 5 = ksD eq dn de (5) := by first | rfl | exact if_pos (by assumption) | exact if_neg (by assumption) | (simp only [n_2, Bool.false_eq_true, ↓reduceIte])
        subst hZ; exact W.vret hx hb hr (fun t ht hW => ⟨⟨(), rfl, trivial, (by rw [ht]; exact (by rw [e_3, e_4]; exact hP)), va_K.moved hW.alike hK, (by rw [e_3, e_4]; exact hD)⟩, hS.F ht⟩) hS.2.2 dX2_keepShares_62
      · have n_2 : ¬ ((6) ≤ (5 + 1)) := fun h => c_2 ((nI_leI (a := 6) (b := 5 + 1) (by omega) (by omega)).mpr h)
        exfalso; omega
    | succ n1 ih1 =>
      intro k1 hk1  H locs ls hP hD hS hl
      have hk1b : k1 < 5 := by omega
      refine lv_iload_n hx hb dX2_keepShares_2 rfl (lv_at hl 0 rfl) ?_
      refine lv_bipush (v := 6) hx hb dX2_keepShares_3 (by decide) ?_
      refine lv_icmp_ge (tgt := 62) hx hb dX2_keepShares_5 (by decide) (fun c_5 => ?_) (fun c_5 => ?_)
      · have n_5 : (6) ≤ (k1 + 1) := (nI_leI (a := 6) (b := k1 + 1) (by omega) (by omega)).mp c_5
        exfalso; omega
      · have n_5 : ¬ ((6) ≤ (k1 + 1)) := fun h => c_5 ((nI_leI (a := 6) (b := k1 + 1) (by omega) (by omega)).mpr h)
        refine lv_aload_n hx hb dX2_keepShares_8 rfl (lv_at hl 1 rfl) ?_
        refine va_get (D := D) (ci := 2) (v := .ref (a 9)) (C := RX2) (T := TX2) (N := 6) (Ts := wsX20) hx hb hin (fun _ h9 => h9) hown hK hP 1 rfl rfl 3 (by decide) (hts (.fieldLink RX2 22 "Groupbooks$Holdings" "equations" "[J") (by decide +kernel)) (fun _ h9 => h9) rfl dX2_keepShares_9 ?_
        refine lv_iload_n hx hb dX2_keepShares_12 rfl (lv_at hl 0 rfl) ?_
        refine lv_iconst (v := 0) hx hb dX2_keepShares_13 (by decide) ?_
        refine b_csi (v := nI (6 * (k1 + 1) + 0)) ((va_runSN (As := [.int (nI (k1 + 1)), .int (0)]) (rest := [.ref (a 9)]) ⟨hx, hb, hml, hown, hts⟩ (c_X3_pair ll (k1 + 1) 0 ) ⟨va_cnB 2 hts gX2_keepShares_X3_pair_n31 rfl rfl rfl (hE.nest 5 rfl) (hts (.initialized RX3) (by decide +kernel)) (by decide +kernel) ⟨Nat.le_of_ble_eq_true rfl, Nat.le_of_ble_eq_true rfl⟩, hts (.static yX3_pair) (by decide +kernel), trivial⟩ ⟨PT.blind, PT.to⟩ rfl rfl hl.1 rfl (lv_room (Nat.le_of_ble_eq_true rfl)) dX2_keepShares_14 ⟨Nat.le_of_ble_eq_true rfl, Nat.le_of_ble_eq_true rfl⟩).run) ?_
        refine b_lald hx hb hK hP 9 1 (f := eq) rfl rfl (j := 6 * (k1 + 1) + 0) (by omega) (by decide) dX2_keepShares_17 ?_
        refine lv_lstore (lv' := [(4, .long (eq (6 * (k1 + 1) + 0))), (3, .int (nI (k1 + 1))), (0, .ref (a 1)), (1, .long (dn))]) hx hb dX2_keepShares_18 hl (by decide) rfl (fun ls hl => ?_)
        refine lv_lload_n hx hb dX2_keepShares_20 rfl (lv_at hl 3 rfl) ?_
        refine lv_lload hx hb dX2_keepShares_21 (lv_at hl 0 rfl) ?_
        refine b_csl (v := cdF 100 dn (eq (6 * (k1 + 1) + 0))) (W.runS (As := [.long (dn), .long (eq (6 * (k1 + 1) + 0))]) (rest := []) ⟨hx, hb, hml, hown, hts⟩ (c_X2_commonDivisor ll dn (eq (6 * (k1 + 1) + 0)) ) (va_cwS 2 hts gX2_keepShares_X2_commonDivisor rfl rfl rfl (by decide +kernel) ⟨Nat.le_of_ble_eq_true rfl, Nat.le_of_ble_eq_true rfl⟩) ⟨PT.blind, PT.to⟩ rfl rfl hl.1 rfl (lv_room (Nat.le_of_ble_eq_true rfl)) dX2_keepShares_23 ⟨Nat.le_of_ble_eq_true rfl, Nat.le_of_ble_eq_true rfl⟩) ?_
        refine lv_lstore (lv' := [(6, .long (cdF 100 dn (eq (6 * (k1 + 1) + 0)))), (4, .long (eq (6 * (k1 + 1) + 0))), (3, .int (nI (k1 + 1))), (0, .ref (a 1)), (1, .long (dn))]) hx hb dX2_keepShares_26 hl (by decide) rfl (fun ls hl => ?_)
        refine lv_lload hx hb dX2_keepShares_28 (lv_at hl 0 rfl) ?_
        refine lv_lconst (v := 0) hx hb dX2_keepShares_30 (by decide) ?_
        refine W.lcmp hx hb dX2_keepShares_31 ?_
        refine lv_if_le (tgt := 56) hx hb dX2_keepShares_32 (by decide) (fun c_6 => ?_) (fun c_6 => ?_)
        · have n_6 : cdF 100 dn (eq (6 * (k1 + 1) + 0)) ≤ 0 := (lg_cmp_le _ _).mp c_6
          refine lv_iinc (v := nI (k1 + 1 + 1)) (lv' := [(3, .int (nI (k1 + 1 + 1))), (6, .long (cdF 100 dn (eq (6 * (k1 + 1) + 0)))), (4, .long (eq (6 * (k1 + 1) + 0))), (0, .ref (a 1)), (1, .long (dn))]) hx hb dX2_keepShares_56 hl (k := 2) rfl (nI_1 (k1 + 1)) (by decide) rfl (fun ls hl => ?_)
          refine lv_goto (tgt := 2) hx hb dX2_keepShares_59 (by decide) ?_
          have e_7 : ksN eq dn nu (k1 + 1) = ksN eq dn nu (k1) := by first | rfl | exact if_pos (by assumption) | exact if_neg (by assumption) | (simp only [n_5, n_6, Bool.false_eq_true, ↓reduceIte])
          have e_8 : ksD eq dn de (k1 + 1) = ksD eq dn de (k1) := by first | rfl | exact if_pos (by assumption) | exact if_neg (by assumption) | (simp only [n_5, n_6, Bool.false_eq_true, ↓reduceIte])
          exact ih1 (k1 + 1) (by omega) _ _ ls (by rw [e_7, e_8]; exact hP) (by rw [e_7, e_8]; exact hD) hS (lv_sub hl [0, 3, 4] rfl)
        · have n_6 : ¬ (cdF 100 dn (eq (6 * (k1 + 1) + 0)) ≤ 0) := fun h => c_6 ((lg_cmp_le _ _).mpr h)
          refine lv_aload_n hx hb dX2_keepShares_35 rfl (lv_at hl 3 rfl) ?_
          refine va_get (D := D) (ci := 2) (v := .ref (a 7)) (C := RX2) (T := TX2) (N := 6) (Ts := wsX20) hx hb hin (fun _ h9 => h9) hown hK hP 1 rfl rfl 1 (by decide) (hts (.fieldLink RX2 15 "Groupbooks$Holdings" "numerators" "[J") (by decide +kernel)) (fun _ h9 => h9) rfl dX2_keepShares_36 ?_
          refine lv_iload_n hx hb dX2_keepShares_39 rfl (lv_at hl 2 rfl) ?_
          refine lv_lload hx hb dX2_keepShares_40 (lv_at hl 1 rfl) ?_
          refine lv_lload hx hb dX2_keepShares_42 (lv_at hl 0 rfl) ?_
          refine lv_ldiv hx hb dX2_keepShares_44 (ne_of_nle n_6) ?_
          refine b_last (w' := GW a cI cJ p (vp_updL (ksN eq dn nu (k1)) (k1 + 1) ((eq (6 * (k1 + 1) + 0)) / (cdF 100 dn (eq (6 * (k1 + 1) + 0))))) (ksD eq dn de (k1)) eq am nx oA oD oE oP cR aR hR cl ad gw pr n) hx hb hK hP hD hS 7 1 (f := (ksN eq dn nu (k1))) rfl rfl (j := k1 + 1) (by omega) (by decide) rfl dX2_keepShares_45 (fun H locs hP hD hS => ?_)
          refine lv_aload_n hx hb dX2_keepShares_46 rfl (lv_at hl 3 rfl) ?_
          refine va_get (D := D) (ci := 2) (v := .ref (a 8)) (C := RX2) (T := TX2) (N := 6) (Ts := wsX20) hx hb hin (fun _ h9 => h9) hown hK hP 1 rfl rfl 2 (by decide) (hts (.fieldLink RX2 19 "Groupbooks$Holdings" "denominators" "[J") (by decide +kernel)) (fun _ h9 => h9) rfl dX2_keepShares_47 ?_
          refine lv_iload_n hx hb dX2_keepShares_50 rfl (lv_at hl 2 rfl) ?_
          refine lv_lload_n hx hb dX2_keepShares_51 rfl (lv_at hl 4 rfl) ?_
          refine lv_lload hx hb dX2_keepShares_52 (lv_at hl 0 rfl) ?_
          refine lv_ldiv hx hb dX2_keepShares_54 (ne_of_nle n_6) ?_
          refine b_last (w' := GW a cI cJ p (vp_updL (ksN eq dn nu (k1)) (k1 + 1) ((eq (6 * (k1 + 1) + 0)) / (cdF 100 dn (eq (6 * (k1 + 1) + 0))))) (vp_updL (ksD eq dn de (k1)) (k1 + 1) ((dn) / (cdF 100 dn (eq (6 * (k1 + 1) + 0))))) eq am nx oA oD oE oP cR aR hR cl ad gw pr n) hx hb hK hP hD hS 8 1 (f := (ksD eq dn de (k1))) rfl rfl (j := k1 + 1) (by omega) (by decide) rfl dX2_keepShares_55 (fun H locs hP hD hS => ?_)
          refine lv_iinc (v := nI (k1 + 1 + 1)) (lv' := [(3, .int (nI (k1 + 1 + 1))), (6, .long (cdF 100 dn (eq (6 * (k1 + 1) + 0)))), (4, .long (eq (6 * (k1 + 1) + 0))), (0, .ref (a 1)), (1, .long (dn))]) hx hb dX2_keepShares_56 hl (k := 2) rfl (nI_1 (k1 + 1)) (by decide) rfl (fun ls hl => ?_)
          refine lv_goto (tgt := 2) hx hb dX2_keepShares_59 (by decide) ?_
          have e_9 : ksN eq dn nu (k1 + 1) = vp_updL (ksN eq dn nu (k1)) (k1 + 1) ((eq (6 * (k1 + 1) + 0)) / (cdF 100 dn (eq (6 * (k1 + 1) + 0)))) := by first | rfl | exact if_pos (by assumption) | exact if_neg (by assumption) | (simp only [n_5, n_6, Bool.false_eq_true, ↓reduceIte])
          have e_10 : ksD eq dn de (k1 + 1) = vp_updL (ksD eq dn de (k1)) (k1 + 1) ((dn) / (cdF 100 dn (eq (6 * (k1 + 1) + 0)))) := by first | rfl | exact if_pos (by assumption) | exact if_neg (by assumption) | (simp only [n_5, n_6, Bool.false_eq_true, ↓reduceIte])
          exact ih1 (k1 + 1) (by omega) _ _ ls (by rw [e_9, e_10]; exact hP) (by rw [e_9, e_10]; exact hD) hS (lv_sub hl [0, 3, 4] rfl)
  exact L1 (5) 0 (by omega) _ _ ls hP hD hS (lv_sub hl [0, 1, 2] rfl)
end
section
abbrev rmX2_determineShares : Room := ({ frames := 3, cells := 0, slots := 0, locals := 79 } : Room)
set_option maxHeartbeats 4000000 in
set_option maxRecDepth 100000 in
theorem c_X2_determineShares (ll : Launch) (D : va_G) (a : Nat → Nat) (cI cJ : ClassId) (sz : Nat) (p : Nat → Int32) (nu de eq : Nat → Int64) (am nx oA oD oE oP cR aR hR cl ad gw pr : Nat → Int32) (n : Int32)   : Met ll yX2_determineShares wsX2_determineShares rmX2_determineShares (va_Pc [.ref (a 1)] (PW D (tyG cI cJ) (GW a cI cJ p nu de eq am nx oA oD oE oP cR aR hR cl ad gw pr n) sz)) (va_Qi (fun (rr : Int32) (u : (Nat → Int64) × (Nat → Int64) × (Nat → Int64)) => (rr = 1 ∧ (∀ k, k < 5 → 0 < pvt (weO p eq 5) k) ∧ u.2.1 = ksN (ds (weO p eq 5) 5).1 (ds (weO p eq 5) 5).2 nu 5 ∧ u.2.2 = ksD (ds (weO p eq 5) 5).1 (ds (weO p eq 5) 5).2 de 5) ∨ (rr = 0 ∧ ¬ (∀ k, k < 5 → 0 < pvt (weO p eq 5) k) ∧ u.2.1 = nu ∧ u.2.2 = de)) (fun (u : (Nat → Int64) × (Nat → Int64) × (Nat → Int64)) t => AW D (tyG cI cJ) (va_A (GW a cI cJ p nu de eq am nx oA oD oE oP cR aR hR cl ad gw pr n) sz) (GW a cI cJ p (u.2.1) (u.2.2) (u.1) am nx oA oD oE oP cR aR hR cl ad gw pr n) t) (va_A (GW a cI cJ p nu de eq am nx oA oD oE oP cR aR hR cl ad gw pr n) sz)) 0 0 (va_A (GW a cI cJ p nu de eq am nx oA oD oE oP cR aR hR cl ad gw pr n) sz) := by
  refine Met.ofW (cc := cX2_determineShares) (maxL := 6) (ret := (some .boolean)) (by decide) rfl ?_
  intro pp ee ss mm ar bel mth cd s₁ B hml hv
  obtain ⟨rfl, hsz, hP, hK, hD0, hE⟩ := hv
  have hx := B.exec
  have hb := B.bytes
  have hr := B.returns
  have hts := atoms_spec (ws := wsX2_determineShares) B.pre
  have hown : ss.vm.findClass RX2 = some mm.cls := findClass_of_methodNamed B.named
  have hlocks := B.notSynchronized
  subst hsz
  have hD := hD0.self (sz := ss.heap.size)
  generalize hAe : va_A (GW a cI cJ p nu de eq am nx oA oD oE oP cR aR hR cl ad gw pr n) ss.heap.size = A at hD ⊢
  have hA : ∀ q : Nat, ss.heap.size ≤ q → A q := fun q h => by rw [← hAe]; exact Or.inr h
  have hS : va_S A ss.heap ss.heap [] := va_S.rf
  have hin : ∀ w ∈ wsX20, w.before ([.ref (a 1)] : List Value).toArray ss = true := fun w h => hts w ((by decide +kernel : ∀ w ∈ wsX20, w ∈ wsX2_determineShares) w h)
  have hl := lv_entry [.ref (a 1)] (n := 6) (Nat.le_of_ble_eq_true rfl)
  rw [lg_entry_eq]
  generalize (lg_sl [.ref (a 1)] ++ List.replicate (6 - (lg_sl [.ref (a 1)]).length) Slot.unset).toArray = ls at hl ⊢
  have hl : lv_has ls 6 [(0, .ref (a 1))] := hl
  generalize hZ : MQ bel _ _ ss _ _ _ = Z
  refine lv_aload_n hx hb dX2_determineShares_0 rfl (lv_at hl 0 rfl) ?_
  refine b_callv0 (S := Unit) (w' := fun u => GW a cI cJ p nu de (weO p eq 5) am nx oA oD oE oP cR aR hR cl ad gw pr n) hP hD hS hA (va_runV (As := []) (rest := []) ⟨hx, hb, hml, hown, hts⟩ (c_X2_writeEquations ll D a cI cJ _ p nu de eq am nx oA oD oE oP cR aR hR cl ad gw pr n  ) (cwV 0 hts gX2_determineShares_X2_writeEquations rfl rfl rfl (by decide +kernel) ⟨Nat.le_of_ble_eq_true rfl, Nat.le_of_ble_eq_true rfl⟩) ⟨PW.blind, va_recv hK hP (ci := 2) (q0 := 1) rfl rfl, PW.go hP hK hD hE⟩ rfl rfl hl.1 rfl (lv_room (Nat.le_of_ble_eq_true rfl)) dX2_determineShares_1 ⟨Nat.le_of_ble_eq_true rfl, Nat.le_of_ble_eq_true rfl⟩) (fun u H locs h_1 hP hD hS => ?_)
  refine lv_lconst (v := 1) hx hb dX2_determineShares_4 (by decide) ?_
  refine lv_lstore_n (lv' := [(1, .long (1)), (0, .ref (a 1))]) hx hb dX2_determineShares_5 rfl hl (by decide) rfl (fun ls hl => ?_)
  refine lv_iconst (v := 1) hx hb dX2_determineShares_6 (by decide) ?_
  refine lv_istore_n (lv' := [(3, .int (1)), (1, .long (1)), (0, .ref (a 1))]) hx hb dX2_determineShares_7 rfl hl (by decide) rfl (fun ls hl => ?_)
  have L1 : ∀ (n1 k1 : Nat), k1 + n1 = 5 → (∀ j, j < k1 → 0 < pvt (weO p eq 5) j) → ∀ (H : Heap) (locs : List Loc) (ls : Array Slot), va_P D vwCl (GW a cI cJ p nu de ((ds (weO p eq 5) (k1)).1) am nx oA oD oE oP cR aR hR cl ad gw pr n) H → va_D A (GW a cI cJ p nu de ((ds (weO p eq 5) (k1)).1) am nx oA oD oE oP cR aR hR cl ad gw pr n) → va_S A ss.heap H locs → lv_has ls 6 [(3, .int (nI (k1 + 1))), (1, .long ((ds (weO p eq 5) (k1)).2)), (0, .ref (a 1))] → W pp ll ee rmX2_determineShares ss mm (([.ref (a 1)] : List Value).toArray) bel mth cd H locs 0 0 Z (F0 mm 8 ls []) := by
    intro n1
    induction n1 with
    | zero =>
      intro k1 hk1 hy1_0 H locs ls hP hD hS hl
      have hk1b : 5 = k1 := by omega
      subst hk1b
      refine lv_iload_n hx hb dX2_determineShares_8 rfl (lv_at hl 0 rfl) ?_
      refine lv_bipush (v := 6) hx hb dX2_determineShares_9 (by decide) ?_
      refine lv_icmp_ge (tgt := 52) hx hb dX2_determineShares_11 (by decide) (fun c_2 => ?_) (fun c_2 => ?_)
      · have n_2 : (6) ≤ (5 + 1) := (nI_leI (a := 6) (b := 5 + 1) (by omega) (by omega)).mp c_2
        refine lv_aload_n hx hb dX2_determineShares_52 rfl (lv_at hl 2 rfl) ?_
        refine lv_lload_n hx hb dX2_determineShares_53 rfl (lv_at hl 1 rfl) ?_
        refine b_callv0 (S := Unit) (w' := fun u => GW a cI cJ p (ksN ((ds (weO p eq 5) (5)).1) ((ds (weO p eq 5) (5)).2) nu 5) (ksD ((ds (weO p eq 5) (5)).1) ((ds (weO p eq 5) (5)).2) de 5) ((ds (weO p eq 5) (5)).1) am nx oA oD oE oP cR aR hR cl ad gw pr n) hP hD hS hA (va_runV (As := [.long ((ds (weO p eq 5) (5)).2)]) (rest := []) ⟨hx, hb, hml, hown, hts⟩ (c_X2_keepShares ll D a cI cJ _ p nu de ((ds (weO p eq 5) (5)).1) am nx oA oD oE oP cR aR hR cl ad gw pr n ((ds (weO p eq 5) (5)).2) ) (cwV 1 hts gX2_determineShares_X2_keepShares rfl rfl rfl (by decide +kernel) ⟨Nat.le_of_ble_eq_true rfl, Nat.le_of_ble_eq_true rfl⟩) ⟨PW.blind, va_recv hK hP (ci := 2) (q0 := 1) rfl rfl, PW.go hP hK hD hE⟩ rfl rfl hl.1 rfl (lv_room (Nat.le_of_ble_eq_true rfl)) dX2_determineShares_54 ⟨Nat.le_of_ble_eq_true rfl, Nat.le_of_ble_eq_true rfl⟩) (fun u H locs h_3 hP hD hS => ?_)
        refine lv_iconst (v := 1) hx hb dX2_determineShares_57 (by decide) ?_
        subst hZ
        refine W.zret hx hb hr (by decide) (fun t ht hW => ?_) hS.2.2 dX2_determineShares_58
        refine ⟨⟨_, ((ds (weO p eq 5) (5)).1, ksN ((ds (weO p eq 5) (5)).1) ((ds (weO p eq 5) (5)).2) nu 5, ksD ((ds (weO p eq 5) (5)).1) ((ds (weO p eq 5) (5)).2) de 5), rfl, ?_, ?_, va_K.moved hW.alike hK, ?_⟩, hS.F ht⟩
        · try dsimp only
          exact (Or.inl ⟨rfl, hy1_0, rfl, rfl⟩)
        · rw [ht]
          try dsimp only
          exact hP
        · try dsimp only
          exact hD
      · have n_2 : ¬ ((6) ≤ (5 + 1)) := fun h => c_2 ((nI_leI (a := 6) (b := 5 + 1) (by omega) (by omega)).mpr h)
        exfalso; omega
    | succ n1 ih1 =>
      intro k1 hk1 hy1_0 H locs ls hP hD hS hl
      have hk1b : k1 < 5 := by omega
      refine lv_iload_n hx hb dX2_determineShares_8 rfl (lv_at hl 0 rfl) ?_
      refine lv_bipush (v := 6) hx hb dX2_determineShares_9 (by decide) ?_
      refine lv_icmp_ge (tgt := 52) hx hb dX2_determineShares_11 (by decide) (fun c_4 => ?_) (fun c_4 => ?_)
      · have n_4 : (6) ≤ (k1 + 1) := (nI_leI (a := 6) (b := k1 + 1) (by omega) (by omega)).mp c_4
        exfalso; omega
      · have n_4 : ¬ ((6) ≤ (k1 + 1)) := fun h => c_4 ((nI_leI (a := 6) (b := k1 + 1) (by omega) (by omega)).mpr h)
        refine lv_aload_n hx hb dX2_determineShares_14 rfl (lv_at hl 2 rfl) ?_
        refine va_get (D := D) (ci := 2) (v := .ref (a 9)) (C := RX2) (T := TX2) (N := 6) (Ts := wsX20) hx hb hin (fun _ h9 => h9) hown hK hP 1 rfl rfl 3 (by decide) (hts (.fieldLink RX2 22 "Groupbooks$Holdings" "equations" "[J") (by decide +kernel)) (fun _ h9 => h9) rfl dX2_determineShares_15 ?_
        refine lv_iload_n hx hb dX2_determineShares_18 rfl (lv_at hl 0 rfl) ?_
        refine lv_iload_n hx hb dX2_determineShares_19 rfl (lv_at hl 0 rfl) ?_
        refine b_csi (v := nI (6 * (k1 + 1) + (k1 + 1))) ((va_runSN (As := [.int (nI (k1 + 1)), .int (nI (k1 + 1))]) (rest := [.ref (a 9)]) ⟨hx, hb, hml, hown, hts⟩ (c_X3_pair ll (k1 + 1) (k1 + 1) ) ⟨va_cnB 2 hts gX2_determineShares_X3_pair_n31 rfl rfl rfl (hE.nest 5 rfl) (hts (.initialized RX3) (by decide +kernel)) (by decide +kernel) ⟨Nat.le_of_ble_eq_true rfl, Nat.le_of_ble_eq_true rfl⟩, hts (.static yX3_pair) (by decide +kernel), trivial⟩ ⟨PT.blind, PT.to⟩ rfl rfl hl.1 rfl (lv_room (Nat.le_of_ble_eq_true rfl)) dX2_determineShares_20 ⟨Nat.le_of_ble_eq_true rfl, Nat.le_of_ble_eq_true rfl⟩).run) ?_
        refine b_lald hx hb hK hP 9 1 (f := ((ds (weO p eq 5) (k1)).1)) rfl rfl (j := 6 * (k1 + 1) + (k1 + 1)) (by omega) (by decide) dX2_determineShares_23 ?_
        refine lv_lstore (lv' := [(4, .long (((ds (weO p eq 5) (k1)).1) (6 * (k1 + 1) + (k1 + 1)))), (3, .int (nI (k1 + 1))), (1, .long ((ds (weO p eq 5) (k1)).2)), (0, .ref (a 1))]) hx hb dX2_determineShares_24 hl (by decide) rfl (fun ls hl => ?_)
        refine lv_lload hx hb dX2_determineShares_26 (lv_at hl 0 rfl) ?_
        refine lv_lconst (v := 0) hx hb dX2_determineShares_28 (by decide) ?_
        refine W.lcmp hx hb dX2_determineShares_29 ?_
        refine lv_if_gt (tgt := 35) hx hb dX2_determineShares_30 (by decide) (fun c_5 => ?_) (fun c_5 => ?_)
        · have n_5 : 0 < ((ds (weO p eq 5) (k1)).1) (6 * (k1 + 1) + (k1 + 1)) := (lg_cmp_gt _ _).mp c_5
          refine lv_aload_n hx hb dX2_determineShares_35 rfl (lv_at hl 3 rfl) ?_
          refine lv_iload_n hx hb dX2_determineShares_36 rfl (lv_at hl 1 rfl) ?_
          refine lv_lload hx hb dX2_determineShares_37 (lv_at hl 0 rfl) ?_
          refine lv_lload_n hx hb dX2_determineShares_39 rfl (lv_at hl 2 rfl) ?_
          refine b_callv0 (S := Unit) (w' := fun u => GW a cI cJ p nu de (ccK ((ds (weO p eq 5) (k1)).1) (k1 + 1) (((ds (weO p eq 5) (k1)).1) (6 * (k1 + 1) + (k1 + 1))) ((ds (weO p eq 5) (k1)).2) 5) am nx oA oD oE oP cR aR hR cl ad gw pr n) hP hD hS hA (va_runV (As := [.int (nI (k1 + 1)), .long (((ds (weO p eq 5) (k1)).1) (6 * (k1 + 1) + (k1 + 1))), .long ((ds (weO p eq 5) (k1)).2)]) (rest := []) ⟨hx, hb, hml, hown, hts⟩ (c_X2_clearColumn ll D a cI cJ _ p nu de ((ds (weO p eq 5) (k1)).1) am nx oA oD oE oP cR aR hR cl ad gw pr n (k1 + 1) (((ds (weO p eq 5) (k1)).1) (6 * (k1 + 1) + (k1 + 1))) ((ds (weO p eq 5) (k1)).2) (by omega)) (cwV 3 hts gX2_determineShares_X2_clearColumn rfl rfl rfl (by decide +kernel) ⟨Nat.le_of_ble_eq_true rfl, Nat.le_of_ble_eq_true rfl⟩) ⟨PW.blind, va_recv hK hP (ci := 2) (q0 := 1) rfl rfl, PW.go hP hK hD hE⟩ rfl rfl hl.1 rfl (lv_room (Nat.le_of_ble_eq_true rfl)) dX2_determineShares_40 ⟨Nat.le_of_ble_eq_true rfl, Nat.le_of_ble_eq_true rfl⟩) (fun u H locs h_6 hP hD hS => ?_)
          refine lv_lload hx hb dX2_determineShares_43 (lv_at hl 0 rfl) ?_
          refine lv_lstore_n (lv' := [(1, .long (((ds (weO p eq 5) (k1)).1) (6 * (k1 + 1) + (k1 + 1)))), (4, .long (((ds (weO p eq 5) (k1)).1) (6 * (k1 + 1) + (k1 + 1)))), (3, .int (nI (k1 + 1))), (0, .ref (a 1))]) hx hb dX2_determineShares_45 rfl hl (by decide) rfl (fun ls hl => ?_)
          refine lv_iinc (v := nI (k1 + 1 + 1)) (lv' := [(3, .int (nI (k1 + 1 + 1))), (1, .long (((ds (weO p eq 5) (k1)).1) (6 * (k1 + 1) + (k1 + 1)))), (4, .long (((ds (weO p eq 5) (k1)).1) (6 * (k1 + 1) + (k1 + 1)))), (0, .ref (a 1))]) hx hb dX2_determineShares_46 hl (k := 2) rfl (nI_1 (k1 + 1)) (by decide) rfl (fun ls hl => ?_)
          refine lv_goto (tgt := 8) hx hb dX2_determineShares_49 (by decide) ?_
          have e_7 : (ds (weO p eq 5) (k1 + 1)).2 = ((ds (weO p eq 5) (k1)).1) (6 * (k1 + 1) + (k1 + 1)) := by first | rfl | exact if_pos (by assumption) | exact if_neg (by assumption) | (simp only [n_4, n_5, Bool.false_eq_true, ↓reduceIte])
          have e_8 : (ds (weO p eq 5) (k1 + 1)).1 = ccK ((ds (weO p eq 5) (k1)).1) (k1 + 1) (((ds (weO p eq 5) (k1)).1) (6 * (k1 + 1) + (k1 + 1))) ((ds (weO p eq 5) (k1)).2) 5 := by first | rfl | exact if_pos (by assumption) | exact if_neg (by assumption) | (simp only [n_4, n_5, Bool.false_eq_true, ↓reduceIte])
          exact ih1 (k1 + 1) (by omega) (lt_s hy1_0 n_5) _ _ ls (by rw [e_8]; exact hP) (by rw [e_8]; exact hD) hS (by rw [e_7]; exact lv_sub hl [0, 1, 3] rfl)
        · have n_5 : ¬ (0 < ((ds (weO p eq 5) (k1)).1) (6 * (k1 + 1) + (k1 + 1))) := fun h => c_5 ((lg_cmp_gt _ _).mpr h)
          refine lv_iconst (v := 0) hx hb dX2_determineShares_33 (by decide) ?_
          subst hZ
          refine W.zret hx hb hr (by decide) (fun t ht hW => ?_) hS.2.2 dX2_determineShares_34
          refine ⟨⟨_, ((ds (weO p eq 5) (k1)).1, nu, de), rfl, ?_, ?_, va_K.moved hW.alike hK, ?_⟩, hS.F ht⟩
          · try dsimp only
            exact (Or.inr ⟨rfl, fun h9 => absurd (h9 k1 hk1b) n_5, rfl, rfl⟩)
          · rw [ht]
            try dsimp only
            exact hP
          · try dsimp only
            exact hD
  exact L1 (5) 0 (by omega) (fun j h9 => absurd h9 (Nat.not_lt_zero j)) _ _ ls hP hD hS (lv_sub hl [0, 1, 2] rfl)

abbrev rmX2_take : Room := ({ frames := 4, cells := 0, slots := 0, locals := 104 } : Room)
set_option maxHeartbeats 4000000 in
set_option maxRecDepth 100000 in
theorem c_X2_take (ll : Launch) (D : va_G) (a : Nat → Nat) (cI cJ : ClassId) (sz : Nat) (p : Nat → Int32) (nu de eq : Nat → Int64) (am nx oA oD oE oP cR aR hR cl ad gw pr : Nat → Int32) (n : Int32) (o c : Nat) (x : Int32) (ho : o < 6) (hc : c < 6) : Met ll yX2_take wsX2_take rmX2_take (va_Pc [.ref (a 1), .int (nI (o)), .int (nI (c)), .int (x)] (PW D (tyG cI cJ) (GW a cI cJ p nu de eq am nx oA oD oE oP cR aR hR cl ad gw pr n) sz)) (va_Qi (fun (rr : Int32) (u : (Nat → Int32) × (Nat → Int64) × (Nat → Int64) × (Nat → Int64)) => (rr = 1 ∧ tkOK p eq o c x ∧ u.1 = upd p (6 * o + c) x ∧ u.2.2.1 = ksN (ds (weO (upd p (6 * o + c) x) eq 5) 5).1 (ds (weO (upd p (6 * o + c) x) eq 5) 5).2 nu 5 ∧ u.2.2.2 = ksD (ds (weO (upd p (6 * o + c) x) eq 5) 5).1 (ds (weO (upd p (6 * o + c) x) eq 5) 5).2 de 5) ∨ (rr = 0 ∧ ¬ tkOK p eq o c x ∧ u.1 = p ∧ u.2.2.1 = nu ∧ u.2.2.2 = de)) (fun (u : (Nat → Int32) × (Nat → Int64) × (Nat → Int64) × (Nat → Int64)) t => AW D (tyG cI cJ) (va_A (GW a cI cJ p nu de eq am nx oA oD oE oP cR aR hR cl ad gw pr n) sz) (GW a cI cJ (u.1) (u.2.2.1) (u.2.2.2) (u.2.1) am nx oA oD oE oP cR aR hR cl ad gw pr n) t) (va_A (GW a cI cJ p nu de eq am nx oA oD oE oP cR aR hR cl ad gw pr n) sz)) 0 0 (va_A (GW a cI cJ p nu de eq am nx oA oD oE oP cR aR hR cl ad gw pr n) sz) := by
  refine Met.ofW (cc := cX2_take) (maxL := 7) (ret := (some .boolean)) (by decide) rfl ?_
  intro pp ee ss mm ar bel mth cd s₁ B hml hv
  obtain ⟨rfl, hsz, hP, hK, hD0, hE⟩ := hv
  have hx := B.exec
  have hb := B.bytes
  have hr := B.returns
  have hts := atoms_spec (ws := wsX2_take) B.pre
  have hown : ss.vm.findClass RX2 = some mm.cls := findClass_of_methodNamed B.named
  have hlocks := B.notSynchronized
  subst hsz
  have hD := hD0.self (sz := ss.heap.size)
  generalize hAe : va_A (GW a cI cJ p nu de eq am nx oA oD oE oP cR aR hR cl ad gw pr n) ss.heap.size = A at hD ⊢
  have hA : ∀ q : Nat, ss.heap.size ≤ q → A q := fun q h => by rw [← hAe]; exact Or.inr h
  have hS : va_S A ss.heap ss.heap [] := va_S.rf
  have hin : ∀ w ∈ wsX20, w.before ([.ref (a 1), .int (nI (o)), .int (nI (c)), .int (x)] : List Value).toArray ss = true := fun w h => hts w ((by decide +kernel : ∀ w ∈ wsX20, w ∈ wsX2_take) w h)
  have hl := lv_entry [.ref (a 1), .int (nI (o)), .int (nI (c)), .int (x)] (n := 7) (Nat.le_of_ble_eq_true rfl)
  rw [lg_entry_eq]
  generalize (lg_sl [.ref (a 1), .int (nI (o)), .int (nI (c)), .int (x)] ++ List.replicate (7 - (lg_sl [.ref (a 1), .int (nI (o)), .int (nI (c)), .int (x)]).length) Slot.unset).toArray = ls at hl ⊢
  have hl : lv_has ls 7 [(0, .ref (a 1)), (1, .int (nI (o))), (2, .int (nI (c))), (3, .int (x))] := hl
  refine lv_iload_n hx hb dX2_take_0 rfl (lv_at hl 1 rfl) ?_
  refine lv_iload_n hx hb dX2_take_1 rfl (lv_at hl 2 rfl) ?_
  refine b_csi (v := nI (6 * o + c)) ((va_runSN (As := [.int (nI (o)), .int (nI (c))]) (rest := []) ⟨hx, hb, hml, hown, hts⟩ (c_X3_pair ll o c ) ⟨va_cnB 2 hts gX2_take_X3_pair_n31 rfl rfl rfl (hE.nest 5 rfl) (hts (.initialized RX3) (by decide +kernel)) (by decide +kernel) ⟨Nat.le_of_ble_eq_true rfl, Nat.le_of_ble_eq_true rfl⟩, hts (.static yX3_pair) (by decide +kernel), trivial⟩ ⟨PT.blind, PT.to⟩ rfl rfl hl.1 rfl (lv_room (Nat.le_of_ble_eq_true rfl)) dX2_take_2 ⟨Nat.le_of_ble_eq_true rfl, Nat.le_of_ble_eq_true rfl⟩).run) ?_
  refine lv_istore (lv' := [(4, .int (nI (6 * o + c))), (0, .ref (a 1)), (1, .int (nI (o))), (2, .int (nI (c))), (3, .int (x))]) hx hb dX2_take_5 hl (by decide) rfl (fun ls hl => ?_)
  refine lv_aload_n hx hb dX2_take_7 rfl (lv_at hl 1 rfl) ?_
  refine va_get (D := D) (ci := 2) (v := .ref (a 6)) (C := RX2) (T := TX2) (N := 6) (Ts := wsX20) hx hb hin (fun _ h9 => h9) hown hK hP 1 rfl rfl 0 (by decide) (hts (.fieldLink RX2 9 "Groupbooks$Holdings" "percents" "[I") (by decide +kernel)) (fun _ h9 => h9) rfl dX2_take_8 ?_
  refine lv_iload hx hb dX2_take_11 (lv_at hl 0 rfl) ?_
  refine b_iald hx hb hK hP 6 0 (f := p) rfl rfl (j := 6 * o + c) (by omega) (by decide) dX2_take_13 ?_
  refine lv_istore (lv' := [(5, .int (p (6 * o + c))), (4, .int (nI (6 * o + c))), (0, .ref (a 1)), (1, .int (nI (o))), (2, .int (nI (c))), (3, .int (x))]) hx hb dX2_take_14 hl (by decide) rfl (fun ls hl => ?_)
  refine lv_aload_n hx hb dX2_take_16 rfl (lv_at hl 2 rfl) ?_
  refine lv_iload_n hx hb dX2_take_17 rfl (lv_at hl 4 rfl) ?_
  refine b_csi (v := sI (fun o => p (6 * o + c)) 6) (W.runV (As := [.int (nI (c))]) (rest := []) ⟨hx, hb, hml, hown, hts⟩ (c_X2_heldByAll ll D a cI cJ p nu de eq am nx oA oD oE oP cR aR hR cl ad gw pr n c (by omega)) (cwV 1 hts gX2_take_X2_heldByAll rfl rfl rfl (by decide +kernel) ⟨Nat.le_of_ble_eq_true rfl, Nat.le_of_ble_eq_true rfl⟩) ⟨PR.blind, va_recv hK hP (ci := 2) (q0 := 1) rfl rfl, PR.go hP hK hE⟩ rfl rfl hl.1 rfl (lv_room (Nat.le_of_ble_eq_true rfl)) dX2_take_18 ⟨Nat.le_of_ble_eq_true rfl, Nat.le_of_ble_eq_true rfl⟩) ?_
  refine lv_iload hx hb dX2_take_21 (lv_at hl 0 rfl) ?_
  refine lv_isub hx hb dX2_take_23 ?_
  refine lv_iload_n hx hb dX2_take_24 rfl (lv_at hl 5 rfl) ?_
  refine lv_iadd hx hb dX2_take_25 ?_
  refine lv_bipush (v := 100) hx hb dX2_take_26 (by decide) ?_
  refine lv_icmp_le (tgt := 33) hx hb dX2_take_28 (by decide) (fun c_1 => ?_) (fun c_1 => ?_)
  · have n_1 := c_1
    refine lv_aload_n hx hb dX2_take_33 rfl (lv_at hl 2 rfl) ?_
    refine va_get (D := D) (ci := 2) (v := .ref (a 6)) (C := RX2) (T := TX2) (N := 6) (Ts := wsX20) hx hb hin (fun _ h9 => h9) hown hK hP 1 rfl rfl 0 (by decide) (hts (.fieldLink RX2 9 "Groupbooks$Holdings" "percents" "[I") (by decide +kernel)) (fun _ h9 => h9) rfl dX2_take_34 ?_
    refine lv_iload hx hb dX2_take_37 (lv_at hl 1 rfl) ?_
    refine lv_iload_n hx hb dX2_take_39 rfl (lv_at hl 5 rfl) ?_
    refine b_iast (w' := GW a cI cJ (upd p (6 * o + c) (x)) nu de eq am nx oA oD oE oP cR aR hR cl ad gw pr n) hx hb hK hP hD hS 6 0 (f := p) rfl rfl (j := 6 * o + c) (by omega) (by decide) rfl dX2_take_40 (fun H locs hP hD hS => ?_)
    refine lv_aload_n hx hb dX2_take_41 rfl (lv_at hl 2 rfl) ?_
    refine b_calli0 (S := (Nat → Int64) × (Nat → Int64) × (Nat → Int64)) (w' := fun u_2 => GW a cI cJ (upd p (6 * o + c) (x)) (u_2.2.1) (u_2.2.2) (u_2.1) am nx oA oD oE oP cR aR hR cl ad gw pr n) hP hD hS hA (va_runV (As := []) (rest := []) ⟨hx, hb, hml, hown, hts⟩ (c_X2_determineShares ll D a cI cJ _ (upd p (6 * o + c) (x)) nu de eq am nx oA oD oE oP cR aR hR cl ad gw pr n  ) (cwV 0 hts gX2_take_X2_determineShares rfl rfl rfl (by decide +kernel) ⟨Nat.le_of_ble_eq_true rfl, Nat.le_of_ble_eq_true rfl⟩) ⟨PW.blind, va_recv hK hP (ci := 2) (q0 := 1) rfl rfl, PW.go hP hK hD hE⟩ rfl rfl hl.1 rfl (lv_room (Nat.le_of_ble_eq_true rfl)) dX2_take_42 ⟨Nat.le_of_ble_eq_true rfl, Nat.le_of_ble_eq_true rfl⟩) (fun r_4 u_2 H locs h_3 hP hD hS => ?_)
    rcases h_3 with ⟨h9a, h9b, h9c, h9d⟩ | ⟨h9a, h9b, h9c, h9d⟩
    · subst h9a
      refine lv_istore (lv' := [(6, .int (1)), (5, .int (p (6 * o + c))), (4, .int (nI (6 * o + c))), (0, .ref (a 1)), (1, .int (nI (o))), (2, .int (nI (c))), (3, .int (x))]) hx hb dX2_take_45 hl (by decide) rfl (fun ls hl => ?_)
      refine lv_iload hx hb dX2_take_47 (lv_at hl 0 rfl) ?_
      refine lv_if_ne (tgt := 61) hx hb dX2_take_49 (by decide) (fun c_5 => ?_) (fun c_5 => ?_)
      · have n_5 := c_5
        refine lv_iload hx hb dX2_take_61 (lv_at hl 0 rfl) ?_
        refine W.zret hx hb hr (by decide) (fun t ht hW => ?_) hS.2.2 dX2_take_63
        refine ⟨⟨_, (upd p (6 * o + c) (x), u_2.1, u_2.2.1, u_2.2.2), rfl, ?_, ?_, va_K.moved hW.alike hK, ?_⟩, hS.F ht⟩
        · try dsimp only
          exact (Or.inl ⟨rfl, ⟨Int32.not_lt.mpr n_1, h9b⟩, rfl, h9c, h9d⟩)
        · rw [ht]
          try dsimp only
          exact hP
        · try dsimp only
          exact hD
      · have n_5 := c_5
        exact absurd c_5 (by decide)
    · subst h9a
      refine lv_istore (lv' := [(6, .int (0)), (5, .int (p (6 * o + c))), (4, .int (nI (6 * o + c))), (0, .ref (a 1)), (1, .int (nI (o))), (2, .int (nI (c))), (3, .int (x))]) hx hb dX2_take_45 hl (by decide) rfl (fun ls hl => ?_)
      refine lv_iload hx hb dX2_take_47 (lv_at hl 0 rfl) ?_
      refine lv_if_ne (tgt := 61) hx hb dX2_take_49 (by decide) (fun c_6 => ?_) (fun c_6 => ?_)
      · have n_6 := c_6
        exact absurd c_6 (by decide)
      · have n_6 := c_6
        refine lv_aload_n hx hb dX2_take_52 rfl (lv_at hl 3 rfl) ?_
        refine va_get (D := D) (ci := 2) (v := .ref (a 6)) (C := RX2) (T := TX2) (N := 6) (Ts := wsX20) hx hb hin (fun _ h9 => h9) hown hK hP 1 rfl rfl 0 (by decide) (hts (.fieldLink RX2 9 "Groupbooks$Holdings" "percents" "[I") (by decide +kernel)) (fun _ h9 => h9) rfl dX2_take_53 ?_
        refine lv_iload hx hb dX2_take_56 (lv_at hl 2 rfl) ?_
        refine lv_iload hx hb dX2_take_58 (lv_at hl 1 rfl) ?_
        refine b_iast (w' := GW a cI cJ (upd (upd p (6 * o + c) (x)) (6 * o + c) (p (6 * o + c))) (u_2.2.1) (u_2.2.2) (u_2.1) am nx oA oD oE oP cR aR hR cl ad gw pr n) hx hb hK hP hD hS 6 0 (f := (upd p (6 * o + c) (x))) rfl rfl (j := 6 * o + c) (by omega) (by decide) rfl dX2_take_60 (fun H locs hP hD hS => ?_)
        refine lv_iload hx hb dX2_take_61 (lv_at hl 0 rfl) ?_
        refine W.zret hx hb hr (by decide) (fun t ht hW => ?_) hS.2.2 dX2_take_63
        refine ⟨⟨_, (upd (upd p (6 * o + c) (x)) (6 * o + c) (p (6 * o + c)), u_2.1, u_2.2.1, u_2.2.2), rfl, ?_, ?_, va_K.moved hW.alike hK, ?_⟩, hS.F ht⟩
        · try dsimp only
          exact (Or.inr ⟨rfl, fun h9 => absurd h9.2 h9b, upd_back _ _ _, h9c, h9d⟩)
        · rw [ht]
          try dsimp only
          exact hP
        · try dsimp only
          exact hD
  · have n_1 := c_1
    refine lv_iconst (v := 0) hx hb dX2_take_31 (by decide) ?_
    refine W.zret hx hb hr (by decide) (fun t ht hW => ?_) hS.2.2 dX2_take_32
    refine ⟨⟨_, (p, eq, nu, de), rfl, ?_, ?_, va_K.moved hW.alike hK, ?_⟩, hS.F ht⟩
    · try dsimp only
      exact (Or.inr ⟨rfl, fun h9 => absurd (Int32.not_lt.mp h9.1) n_1, rfl, rfl, rfl⟩)
    · rw [ht]
      try dsimp only
      exact hP
    · try dsimp only
      exact hD
end
section
abbrev rmX2_playRound : Room := ({ frames := 1, cells := 0, slots := 0, locals := 21 } : Room)
set_option maxHeartbeats 4000000 in
set_option maxRecDepth 100000 in
theorem c_X2_playRound (ll : Launch) (D : va_G) (a : Nat → Nat) (cI cJ : ClassId) (sz : Nat) (p : Nat → Int32) (nu de eq : Nat → Int64) (am nx oA oD oE oP cR aR hR cl ad gw pr : Nat → Int32) (n : Int32)   : Met ll yX2_playRound wsX2_playRound rmX2_playRound (va_Pc [.ref (a 1)] (PW D (tyG cI cJ) (GW a cI cJ p nu de eq am nx oA oD oE oP cR aR hR cl ad gw pr n) sz)) (va_Qv (fun (u : Unit) => True) (fun (u : Unit) t => AW D (tyG cI cJ) (va_A (GW a cI cJ p nu de eq am nx oA oD oE oP cR aR hR cl ad gw pr n) sz) (GW a cI cJ p nu de eq (plA am (plN p am nx 5) 5) (plN p am nx 5) oA oD oE oP cR aR hR cl ad gw pr n) t) (va_A (GW a cI cJ p nu de eq am nx oA oD oE oP cR aR hR cl ad gw pr n) sz)) 0 0 (va_A (GW a cI cJ p nu de eq am nx oA oD oE oP cR aR hR cl ad gw pr n) sz) := by
  refine Met.ofW (cc := cX2_playRound) (maxL := 4) (ret := none) (by decide) rfl ?_
  intro pp ee ss mm ar bel mth cd s₁ B hml hv
  obtain ⟨rfl, hsz, hP, hK, hD0, hE⟩ := hv
  have hx := B.exec
  have hb := B.bytes
  have hr := B.returns
  have hts := atoms_spec (ws := wsX2_playRound) B.pre
  have hown : ss.vm.findClass RX2 = some mm.cls := findClass_of_methodNamed B.named
  have hlocks := B.notSynchronized
  subst hsz
  have hD := hD0.self (sz := ss.heap.size)
  generalize hAe : va_A (GW a cI cJ p nu de eq am nx oA oD oE oP cR aR hR cl ad gw pr n) ss.heap.size = A at hD ⊢
  have hA : ∀ q : Nat, ss.heap.size ≤ q → A q := fun q h => by rw [← hAe]; exact Or.inr h
  have hS : va_S A ss.heap ss.heap [] := va_S.rf
  have hin : ∀ w ∈ wsX20, w.before ([.ref (a 1)] : List Value).toArray ss = true := fun w h => hts w ((by decide +kernel : ∀ w ∈ wsX20, w ∈ wsX2_playRound) w h)
  have hl := lv_entry [.ref (a 1)] (n := 4) (Nat.le_of_ble_eq_true rfl)
  rw [lg_entry_eq]
  generalize (lg_sl [.ref (a 1)] ++ List.replicate (4 - (lg_sl [.ref (a 1)]).length) Slot.unset).toArray = ls at hl ⊢
  have hl : lv_has ls 4 [(0, .ref (a 1))] := hl
  generalize hZ : MQ bel _ _ ss _ _ _ = Z
  refine lv_iconst (v := 1) hx hb dX2_playRound_0 (by decide) ?_
  refine lv_istore_n (lv' := [(1, .int (1)), (0, .ref (a 1))]) hx hb dX2_playRound_1 rfl hl (by decide) rfl (fun ls hl => ?_)
  have L1 : ∀ (n1 k1 : Nat), k1 + n1 = 5 → ∀ (H : Heap) (locs : List Loc) (ls : Array Slot), va_P D vwCl (GW a cI cJ p nu de eq am (plN p am nx (k1)) oA oD oE oP cR aR hR cl ad gw pr n) H → va_D A (GW a cI cJ p nu de eq am (plN p am nx (k1)) oA oD oE oP cR aR hR cl ad gw pr n) → va_S A ss.heap H locs → lv_has ls 4 [(1, .int (nI (k1 + 1))), (0, .ref (a 1))] → W pp ll ee rmX2_playRound ss mm (([.ref (a 1)] : List Value).toArray) bel mth cd H locs 0 0 Z (F0 mm 2 ls []) := by
    intro n1
    induction n1 with
    | zero =>
      intro k1 hk1  H locs ls hP hD hS hl
      have hk1b : 5 = k1 := by omega
      subst hk1b
      refine lv_iload_n hx hb dX2_playRound_2 rfl (lv_at hl 0 rfl) ?_
      refine lv_bipush (v := 6) hx hb dX2_playRound_3 (by decide) ?_
      refine lv_icmp_ge (tgt := 60) hx hb dX2_playRound_5 (by decide) (fun c_1 => ?_) (fun c_1 => ?_)
      · have n_1 : (6) ≤ (5 + 1) := (nI_leI (a := 6) (b := 5 + 1) (by omega) (by omega)).mp c_1
        refine lv_iconst (v := 1) hx hb dX2_playRound_60 (by decide) ?_
        refine lv_istore_n (lv' := [(1, .int (1)), (0, .ref (a 1))]) hx hb dX2_playRound_61 rfl hl (by decide) rfl (fun ls hl => ?_)
        have L2 : ∀ (n2 k2 : Nat), k2 + n2 = 5 → ∀ (H : Heap) (locs : List Loc) (ls : Array Slot), va_P D vwCl (GW a cI cJ p nu de eq (plA am (plN p am nx 5) (k2)) (plN p am nx (5)) oA oD oE oP cR aR hR cl ad gw pr n) H → va_D A (GW a cI cJ p nu de eq (plA am (plN p am nx 5) (k2)) (plN p am nx (5)) oA oD oE oP cR aR hR cl ad gw pr n) → va_S A ss.heap H locs → lv_has ls 4 [(1, .int (nI (k2 + 1))), (0, .ref (a 1))] → W pp ll ee rmX2_playRound ss mm (([.ref (a 1)] : List Value).toArray) bel mth cd H locs 0 0 Z (F0 mm 62 ls []) := by
          intro n2
          induction n2 with
          | zero =>
            intro k2 hk2  H locs ls hP hD hS hl
            have hk2b : 5 = k2 := by omega
            subst hk2b
            refine lv_iload_n hx hb dX2_playRound_62 rfl (lv_at hl 0 rfl) ?_
            refine lv_bipush (v := 6) hx hb dX2_playRound_63 (by decide) ?_
            refine lv_icmp_ge (tgt := 86) hx hb dX2_playRound_65 (by decide) (fun c_2 => ?_) (fun c_2 => ?_)
            · have n_2 : (6) ≤ (5 + 1) := (nI_leI (a := 6) (b := 5 + 1) (by omega) (by omega)).mp c_2
              have e_3 : plA am (plN p am nx 5) 5 = plA am (plN p am nx 5) (5) := by first | rfl | exact if_pos (by assumption) | exact if_neg (by assumption) | (simp only [n_1, n_2, Bool.false_eq_true, ↓reduceIte])
              have e_4 : plN p am nx 5 = plN p am nx (5) := by first | rfl | exact if_pos (by assumption) | exact if_neg (by assumption) | (simp only [n_1, n_2, Bool.false_eq_true, ↓reduceIte])
              subst hZ; exact W.vret hx hb hr (fun t ht hW => ⟨⟨(), rfl, trivial, (by rw [ht]; exact (by rw [e_3, e_4]; exact hP)), va_K.moved hW.alike hK, (by rw [e_3, e_4]; exact hD)⟩, hS.F ht⟩) hS.2.2 dX2_playRound_86
            · have n_2 : ¬ ((6) ≤ (5 + 1)) := fun h => c_2 ((nI_leI (a := 6) (b := 5 + 1) (by omega) (by omega)).mpr h)
              exfalso; omega
          | succ n2 ih2 =>
            intro k2 hk2  H locs ls hP hD hS hl
            have hk2b : k2 < 5 := by omega
            refine lv_iload_n hx hb dX2_playRound_62 rfl (lv_at hl 0 rfl) ?_
            refine lv_bipush (v := 6) hx hb dX2_playRound_63 (by decide) ?_
            refine lv_icmp_ge (tgt := 86) hx hb dX2_playRound_65 (by decide) (fun c_5 => ?_) (fun c_5 => ?_)
            · have n_5 : (6) ≤ (k2 + 1) := (nI_leI (a := 6) (b := k2 + 1) (by omega) (by omega)).mp c_5
              exfalso; omega
            · have n_5 : ¬ ((6) ≤ (k2 + 1)) := fun h => c_5 ((nI_leI (a := 6) (b := k2 + 1) (by omega) (by omega)).mpr h)
              refine lv_aload_n hx hb dX2_playRound_68 rfl (lv_at hl 1 rfl) ?_
              refine va_get (D := D) (ci := 2) (v := .ref (a 10)) (C := RX2) (T := TX2) (N := 6) (Ts := wsX20) hx hb hin (fun _ h9 => h9) hown hK hP 1 rfl rfl 4 (by decide) (hts (.fieldLink RX2 25 "Groupbooks$Holdings" "amounts" "[I") (by decide +kernel)) (fun _ h9 => h9) rfl dX2_playRound_69 ?_
              refine lv_iload_n hx hb dX2_playRound_72 rfl (lv_at hl 0 rfl) ?_
              refine lv_aload_n hx hb dX2_playRound_73 rfl (lv_at hl 1 rfl) ?_
              refine va_get (D := D) (ci := 2) (v := .ref (a 11)) (C := RX2) (T := TX2) (N := 6) (Ts := wsX20) hx hb hin (fun _ h9 => h9) hown hK hP 1 rfl rfl 5 (by decide) (hts (.fieldLink RX2 28 "Groupbooks$Holdings" "nextAmounts" "[I") (by decide +kernel)) (fun _ h9 => h9) rfl dX2_playRound_74 ?_
              refine lv_iload_n hx hb dX2_playRound_77 rfl (lv_at hl 0 rfl) ?_
              refine b_iald hx hb hK hP 11 0 (f := (plN p am nx (5))) rfl rfl (j := k2 + 1) (by omega) (by decide) dX2_playRound_78 ?_
              refine b_iast (w' := GW a cI cJ p nu de eq (upd (plA am (plN p am nx 5) (k2)) (k2 + 1) ((plN p am nx (5)) (k2 + 1))) (plN p am nx (5)) oA oD oE oP cR aR hR cl ad gw pr n) hx hb hK hP hD hS 10 0 (f := (plA am (plN p am nx 5) (k2))) rfl rfl (j := k2 + 1) (by omega) (by decide) rfl dX2_playRound_79 (fun H locs hP hD hS => ?_)
              refine lv_iinc (v := nI (k2 + 1 + 1)) (lv' := [(1, .int (nI (k2 + 1 + 1))), (0, .ref (a 1))]) hx hb dX2_playRound_80 hl (k := 0) rfl (nI_1 (k2 + 1)) (by decide) rfl (fun ls hl => ?_)
              refine lv_goto (tgt := 62) hx hb dX2_playRound_83 (by decide) ?_
              have e_6 : plA am (plN p am nx 5) (k2 + 1) = upd (plA am (plN p am nx 5) (k2)) (k2 + 1) ((plN p am nx (5)) (k2 + 1)) := by first | rfl | exact if_pos (by assumption) | exact if_neg (by assumption) | (simp only [n_1, n_5, Bool.false_eq_true, ↓reduceIte])
              exact ih2 (k2 + 1) (by omega) _ _ ls (by rw [e_6]; exact hP) (by rw [e_6]; exact hD) hS (lv_sub hl [0, 1] rfl)
        exact L2 (5) 0 (by omega) _ _ ls hP hD hS (lv_sub hl [0, 1] rfl)
      · have n_1 : ¬ ((6) ≤ (5 + 1)) := fun h => c_1 ((nI_leI (a := 6) (b := 5 + 1) (by omega) (by omega)).mpr h)
        exfalso; omega
    | succ n1 ih1 =>
      intro k1 hk1  H locs ls hP hD hS hl
      have hk1b : k1 < 5 := by omega
      refine lv_iload_n hx hb dX2_playRound_2 rfl (lv_at hl 0 rfl) ?_
      refine lv_bipush (v := 6) hx hb dX2_playRound_3 (by decide) ?_
      refine lv_icmp_ge (tgt := 60) hx hb dX2_playRound_5 (by decide) (fun c_7 => ?_) (fun c_7 => ?_)
      · have n_7 : (6) ≤ (k1 + 1) := (nI_leI (a := 6) (b := k1 + 1) (by omega) (by omega)).mp c_7
        exfalso; omega
      · have n_7 : ¬ ((6) ≤ (k1 + 1)) := fun h => c_7 ((nI_leI (a := 6) (b := k1 + 1) (by omega) (by omega)).mpr h)
        refine lv_iconst (v := 0) hx hb dX2_playRound_8 (by decide) ?_
        refine lv_istore_n (lv' := [(2, .int (0)), (1, .int (nI (k1 + 1))), (0, .ref (a 1))]) hx hb dX2_playRound_9 rfl hl (by decide) rfl (fun ls hl => ?_)
        refine lv_iconst (v := 0) hx hb dX2_playRound_10 (by decide) ?_
        refine lv_istore_n (lv' := [(3, .int (0)), (2, .int (0)), (1, .int (nI (k1 + 1))), (0, .ref (a 1))]) hx hb dX2_playRound_11 rfl hl (by decide) rfl (fun ls hl => ?_)
        have L3 : ∀ (n3 j3 : Nat), j3 + n3 = 6 → ∀ (H : Heap) (locs : List Loc) (ls : Array Slot), va_P D vwCl (GW a cI cJ p nu de eq am (plN p am nx (k1)) oA oD oE oP cR aR hR cl ad gw pr n) H → va_D A (GW a cI cJ p nu de eq am (plN p am nx (k1)) oA oD oE oP cR aR hR cl ad gw pr n) → va_S A ss.heap H locs → lv_has ls 4 [(3, .int (nI (j3))), (2, .int (sI (fun o => p (6 * o + (k1 + 1)) * am o) (j3))), (1, .int (nI (k1 + 1))), (0, .ref (a 1))] → W pp ll ee rmX2_playRound ss mm (([.ref (a 1)] : List Value).toArray) bel mth cd H locs 0 0 Z (F0 mm 12 ls []) := by
          intro n3
          induction n3 with
          | zero =>
            intro j3 hk3  H locs ls hP hD hS hl
            have hk3b : 6 = j3 := by omega
            subst hk3b
            refine lv_iload_n hx hb dX2_playRound_12 rfl (lv_at hl 0 rfl) ?_
            refine lv_bipush (v := 6) hx hb dX2_playRound_13 (by decide) ?_
            refine lv_icmp_ge (tgt := 44) hx hb dX2_playRound_15 (by decide) (fun c_8 => ?_) (fun c_8 => ?_)
            · have n_8 : (6) ≤ (6) := (nI_leI (a := 6) (b := 6) (by omega) (by omega)).mp c_8
              refine lv_aload_n hx hb dX2_playRound_44 rfl (lv_at hl 3 rfl) ?_
              refine va_get (D := D) (ci := 2) (v := .ref (a 11)) (C := RX2) (T := TX2) (N := 6) (Ts := wsX20) hx hb hin (fun _ h9 => h9) hown hK hP 1 rfl rfl 5 (by decide) (hts (.fieldLink RX2 28 "Groupbooks$Holdings" "nextAmounts" "[I") (by decide +kernel)) (fun _ h9 => h9) rfl dX2_playRound_45 ?_
              refine lv_iload_n hx hb dX2_playRound_48 rfl (lv_at hl 2 rfl) ?_
              refine lv_iload_n hx hb dX2_playRound_49 rfl (lv_at hl 1 rfl) ?_
              refine lv_bipush (v := 100) hx hb dX2_playRound_50 (by decide) ?_
              refine lv_idiv hx hb dX2_playRound_52 (by decide) ?_
              refine b_iast (w' := GW a cI cJ p nu de eq am (upd (plN p am nx (k1)) (k1 + 1) ((sI (fun o => p (6 * o + (k1 + 1)) * am o) (6)) / (100))) oA oD oE oP cR aR hR cl ad gw pr n) hx hb hK hP hD hS 11 0 (f := (plN p am nx (k1))) rfl rfl (j := k1 + 1) (by omega) (by decide) rfl dX2_playRound_53 (fun H locs hP hD hS => ?_)
              refine lv_iinc (v := nI (k1 + 1 + 1)) (lv' := [(1, .int (nI (k1 + 1 + 1))), (3, .int (nI (6))), (2, .int (sI (fun o => p (6 * o + (k1 + 1)) * am o) (6))), (0, .ref (a 1))]) hx hb dX2_playRound_54 hl (k := 2) rfl (nI_1 (k1 + 1)) (by decide) rfl (fun ls hl => ?_)
              refine lv_goto (tgt := 2) hx hb dX2_playRound_57 (by decide) ?_
              have e_9 : plN p am nx (k1 + 1) = upd (plN p am nx (k1)) (k1 + 1) ((sI (fun o => p (6 * o + (k1 + 1)) * am o) (6)) / (100)) := by first | rfl | exact if_pos (by assumption) | exact if_neg (by assumption) | (simp only [n_7, n_8, Bool.false_eq_true, ↓reduceIte])
              exact ih1 (k1 + 1) (by omega) _ _ ls (by rw [e_9]; exact hP) (by rw [e_9]; exact hD) hS (lv_sub hl [0, 3] rfl)
            · have n_8 : ¬ ((6) ≤ (6)) := fun h => c_8 ((nI_leI (a := 6) (b := 6) (by omega) (by omega)).mpr h)
              exfalso; omega
          | succ n3 ih3 =>
            intro j3 hk3  H locs ls hP hD hS hl
            have hk3b : j3 < 6 := by omega
            refine lv_iload_n hx hb dX2_playRound_12 rfl (lv_at hl 0 rfl) ?_
            refine lv_bipush (v := 6) hx hb dX2_playRound_13 (by decide) ?_
            refine lv_icmp_ge (tgt := 44) hx hb dX2_playRound_15 (by decide) (fun c_10 => ?_) (fun c_10 => ?_)
            · have n_10 : (6) ≤ (j3) := (nI_leI (a := 6) (b := j3) (by omega) (by omega)).mp c_10
              exfalso; omega
            · have n_10 : ¬ ((6) ≤ (j3)) := fun h => c_10 ((nI_leI (a := 6) (b := j3) (by omega) (by omega)).mpr h)
              refine lv_iload_n hx hb dX2_playRound_18 rfl (lv_at hl 1 rfl) ?_
              refine lv_aload_n hx hb dX2_playRound_19 rfl (lv_at hl 3 rfl) ?_
              refine va_get (D := D) (ci := 2) (v := .ref (a 6)) (C := RX2) (T := TX2) (N := 6) (Ts := wsX20) hx hb hin (fun _ h9 => h9) hown hK hP 1 rfl rfl 0 (by decide) (hts (.fieldLink RX2 9 "Groupbooks$Holdings" "percents" "[I") (by decide +kernel)) (fun _ h9 => h9) rfl dX2_playRound_20 ?_
              refine lv_iload_n hx hb dX2_playRound_23 rfl (lv_at hl 0 rfl) ?_
              refine lv_iload_n hx hb dX2_playRound_24 rfl (lv_at hl 2 rfl) ?_
              refine b_csi (v := nI (6 * j3 + (k1 + 1))) ((va_runSN (As := [.int (nI (j3)), .int (nI (k1 + 1))]) (rest := [.ref (a 6), .int (sI (fun o => p (6 * o + (k1 + 1)) * am o) (j3))]) ⟨hx, hb, hml, hown, hts⟩ (c_X3_pair ll j3 (k1 + 1) ) ⟨va_cnB 2 hts gX2_playRound_X3_pair_n31 rfl rfl rfl (hE.nest 5 rfl) (hts (.initialized RX3) (by decide +kernel)) (by decide +kernel) ⟨Nat.le_of_ble_eq_true rfl, Nat.le_of_ble_eq_true rfl⟩, hts (.static yX3_pair) (by decide +kernel), trivial⟩ ⟨PT.blind, PT.to⟩ rfl rfl hl.1 rfl (lv_room (Nat.le_of_ble_eq_true rfl)) dX2_playRound_25 ⟨Nat.le_of_ble_eq_true rfl, Nat.le_of_ble_eq_true rfl⟩).run) ?_
              refine b_iald hx hb hK hP 6 0 (f := p) rfl rfl (j := 6 * j3 + (k1 + 1)) (by omega) (by decide) dX2_playRound_28 ?_
              refine lv_aload_n hx hb dX2_playRound_29 rfl (lv_at hl 3 rfl) ?_
              refine va_get (D := D) (ci := 2) (v := .ref (a 10)) (C := RX2) (T := TX2) (N := 6) (Ts := wsX20) hx hb hin (fun _ h9 => h9) hown hK hP 1 rfl rfl 4 (by decide) (hts (.fieldLink RX2 25 "Groupbooks$Holdings" "amounts" "[I") (by decide +kernel)) (fun _ h9 => h9) rfl dX2_playRound_30 ?_
              refine lv_iload_n hx hb dX2_playRound_33 rfl (lv_at hl 0 rfl) ?_
              refine b_iald hx hb hK hP 10 0 (f := am) rfl rfl (j := j3) (by omega) (by decide) dX2_playRound_34 ?_
              refine lv_imul hx hb dX2_playRound_35 ?_
              refine lv_iadd hx hb dX2_playRound_36 ?_
              refine lv_istore_n (lv' := [(2, .int ((sI (fun o => p (6 * o + (k1 + 1)) * am o) (j3)) + ((p (6 * j3 + (k1 + 1))) * (am (j3))))), (3, .int (nI (j3))), (1, .int (nI (k1 + 1))), (0, .ref (a 1))]) hx hb dX2_playRound_37 rfl hl (by decide) rfl (fun ls hl => ?_)
              refine lv_iinc (v := nI (j3 + 1)) (lv' := [(3, .int (nI (j3 + 1))), (2, .int ((sI (fun o => p (6 * o + (k1 + 1)) * am o) (j3)) + ((p (6 * j3 + (k1 + 1))) * (am (j3))))), (1, .int (nI (k1 + 1))), (0, .ref (a 1))]) hx hb dX2_playRound_38 hl (k := 1) rfl (nI_1 (j3)) (by decide) rfl (fun ls hl => ?_)
              refine lv_goto (tgt := 12) hx hb dX2_playRound_41 (by decide) ?_
              have e_11 : sI (fun o => p (6 * o + (k1 + 1)) * am o) (j3 + 1) = (sI (fun o => p (6 * o + (k1 + 1)) * am o) (j3)) + ((p (6 * j3 + (k1 + 1))) * (am (j3))) := by first | rfl | exact if_pos (by assumption) | exact if_neg (by assumption) | (simp only [n_7, n_10, Bool.false_eq_true, ↓reduceIte])
              exact ih3 (j3 + 1) (by omega) _ _ ls hP hD hS (by rw [e_11]; exact lv_sub hl [0, 1, 2, 3] rfl)
        exact L3 (6) 0 (by omega) _ _ ls hP hD hS (lv_sub hl [0, 1, 2, 3] rfl)
  exact L1 (5) 0 (by omega) _ _ ls hP hD hS (lv_sub hl [0, 1] rfl)

abbrev rmX2_millionthsAfter : Room := ({ frames := 2, cells := 0, slots := 0, locals := 44 } : Room)
set_option maxHeartbeats 4000000 in
set_option maxRecDepth 100000 in
theorem c_X2_millionthsAfter (ll : Launch) (D : va_G) (a : Nat → Nat) (cI cJ : ClassId) (sz : Nat) (p : Nat → Int32) (nu de eq : Nat → Int64) (am nx oA oD oE oP cR aR hR cl ad gw pr : Nat → Int32) (n : Int32) (nr c : Nat) (hn : nr ≤ 200) (hc : c < 6) : Met ll yX2_millionthsAfter wsX2_millionthsAfter rmX2_millionthsAfter (va_Pc [.ref (a 1), .int (nI (nr)), .int (nI (c))] (PW D (tyG cI cJ) (GW a cI cJ p nu de eq am nx oA oD oE oP cR aR hR cl ad gw pr n) sz)) (va_Qi (fun (rr : Int32) (u : Unit) => rr = (mr p am nx nr).1 c) (fun (u : Unit) t => AW D (tyG cI cJ) (va_A (GW a cI cJ p nu de eq am nx oA oD oE oP cR aR hR cl ad gw pr n) sz) (GW a cI cJ p nu de eq ((mr p am nx nr).1) ((mr p am nx nr).2) oA oD oE oP cR aR hR cl ad gw pr n) t) (va_A (GW a cI cJ p nu de eq am nx oA oD oE oP cR aR hR cl ad gw pr n) sz)) 0 0 (va_A (GW a cI cJ p nu de eq am nx oA oD oE oP cR aR hR cl ad gw pr n) sz) := by
  refine Met.ofW (cc := cX2_millionthsAfter) (maxL := 4) (ret := (some .int)) (by decide) rfl ?_
  intro pp ee ss mm ar bel mth cd s₁ B hml hv
  obtain ⟨rfl, hsz, hP, hK, hD0, hE⟩ := hv
  have hx := B.exec
  have hb := B.bytes
  have hr := B.returns
  have hts := atoms_spec (ws := wsX2_millionthsAfter) B.pre
  have hown : ss.vm.findClass RX2 = some mm.cls := findClass_of_methodNamed B.named
  have hlocks := B.notSynchronized
  subst hsz
  have hD := hD0.self (sz := ss.heap.size)
  generalize hAe : va_A (GW a cI cJ p nu de eq am nx oA oD oE oP cR aR hR cl ad gw pr n) ss.heap.size = A at hD ⊢
  have hA : ∀ q : Nat, ss.heap.size ≤ q → A q := fun q h => by rw [← hAe]; exact Or.inr h
  have hS : va_S A ss.heap ss.heap [] := va_S.rf
  have hin : ∀ w ∈ wsX20, w.before ([.ref (a 1), .int (nI (nr)), .int (nI (c))] : List Value).toArray ss = true := fun w h => hts w ((by decide +kernel : ∀ w ∈ wsX20, w ∈ wsX2_millionthsAfter) w h)
  have hl := lv_entry [.ref (a 1), .int (nI (nr)), .int (nI (c))] (n := 4) (Nat.le_of_ble_eq_true rfl)
  rw [lg_entry_eq]
  generalize (lg_sl [.ref (a 1), .int (nI (nr)), .int (nI (c))] ++ List.replicate (4 - (lg_sl [.ref (a 1), .int (nI (nr)), .int (nI (c))]).length) Slot.unset).toArray = ls at hl ⊢
  have hl : lv_has ls 4 [(0, .ref (a 1)), (1, .int (nI (nr))), (2, .int (nI (c)))] := hl
  generalize hZ : MQ bel _ _ ss _ _ _ = Z
  refine lv_iconst (v := 0) hx hb dX2_millionthsAfter_0 (by decide) ?_
  refine lv_istore_n (lv' := [(3, .int (0)), (0, .ref (a 1)), (1, .int (nI (nr))), (2, .int (nI (c)))]) hx hb dX2_millionthsAfter_1 rfl hl (by decide) rfl (fun ls hl => ?_)
  have L1 : ∀ (n1 k1 : Nat), k1 + n1 = 6 → ∀ (H : Heap) (locs : List Loc) (ls : Array Slot), va_P D vwCl (GW a cI cJ p nu de eq (miA am (k1)) nx oA oD oE oP cR aR hR cl ad gw pr n) H → va_D A (GW a cI cJ p nu de eq (miA am (k1)) nx oA oD oE oP cR aR hR cl ad gw pr n) → va_S A ss.heap H locs → lv_has ls 4 [(3, .int (nI (k1))), (0, .ref (a 1)), (1, .int (nI (nr))), (2, .int (nI (c)))] → W pp ll ee rmX2_millionthsAfter ss mm (([.ref (a 1), .int (nI (nr)), .int (nI (c))] : List Value).toArray) bel mth cd H locs 0 0 Z (F0 mm 2 ls []) := by
    intro n1
    induction n1 with
    | zero =>
      intro k1 hk1  H locs ls hP hD hS hl
      have hk1b : 6 = k1 := by omega
      subst hk1b
      refine lv_iload_n hx hb dX2_millionthsAfter_2 rfl (lv_at hl 0 rfl) ?_
      refine lv_bipush (v := 6) hx hb dX2_millionthsAfter_3 (by decide) ?_
      refine lv_icmp_ge (tgt := 30) hx hb dX2_millionthsAfter_5 (by decide) (fun c_1 => ?_) (fun c_1 => ?_)
      · have n_1 : (6) ≤ (6) := (nI_leI (a := 6) (b := 6) (by omega) (by omega)).mp c_1
        refine lv_iconst (v := 0) hx hb dX2_millionthsAfter_30 (by decide) ?_
        refine lv_istore_n (lv' := [(3, .int (0)), (0, .ref (a 1)), (1, .int (nI (nr))), (2, .int (nI (c)))]) hx hb dX2_millionthsAfter_31 rfl hl (by decide) rfl (fun ls hl => ?_)
        have L2 : ∀ (n2 j2 : Nat), j2 + n2 = nr → ∀ (H : Heap) (locs : List Loc) (ls : Array Slot), va_P D vwCl (GW a cI cJ p nu de eq ((mr p am nx (j2)).1) ((mr p am nx (j2)).2) oA oD oE oP cR aR hR cl ad gw pr n) H → va_D A (GW a cI cJ p nu de eq ((mr p am nx (j2)).1) ((mr p am nx (j2)).2) oA oD oE oP cR aR hR cl ad gw pr n) → va_S A ss.heap H locs → lv_has ls 4 [(3, .int (nI (j2))), (0, .ref (a 1)), (1, .int (nI (nr))), (2, .int (nI (c)))] → W pp ll ee rmX2_millionthsAfter ss mm (([.ref (a 1), .int (nI (nr)), .int (nI (c))] : List Value).toArray) bel mth cd H locs 0 0 Z (F0 mm 32 ls []) := by
          intro n2
          induction n2 with
          | zero =>
            intro j2 hk2  H locs ls hP hD hS hl
            have hk2b : nr = j2 := by omega
            subst hk2b
            refine lv_iload_n hx hb dX2_millionthsAfter_32 rfl (lv_at hl 0 rfl) ?_
            refine lv_iload_n hx hb dX2_millionthsAfter_33 rfl (lv_at hl 2 rfl) ?_
            refine lv_icmp_ge (tgt := 47) hx hb dX2_millionthsAfter_34 (by decide) (fun c_2 => ?_) (fun c_2 => ?_)
            · have n_2 : (nr) ≤ (nr) := (nI_leI (a := nr) (b := nr) (by omega) (by omega)).mp c_2
              refine lv_aload_n hx hb dX2_millionthsAfter_47 rfl (lv_at hl 1 rfl) ?_
              refine va_get (D := D) (ci := 2) (v := .ref (a 10)) (C := RX2) (T := TX2) (N := 6) (Ts := wsX20) hx hb hin (fun _ h9 => h9) hown hK hP 1 rfl rfl 4 (by decide) (hts (.fieldLink RX2 25 "Groupbooks$Holdings" "amounts" "[I") (by decide +kernel)) (fun _ h9 => h9) rfl dX2_millionthsAfter_48 ?_
              refine lv_iload_n hx hb dX2_millionthsAfter_51 rfl (lv_at hl 3 rfl) ?_
              refine b_iald hx hb hK hP 10 0 (f := ((mr p am nx (nr)).1)) rfl rfl (j := c) (by omega) (by decide) dX2_millionthsAfter_52 ?_
              have e_3 : (mr p am nx nr).1 = (mr p am nx (nr)).1 := by first | rfl | exact if_pos (by assumption) | exact if_neg (by assumption) | (simp only [mr, n_1, n_2, Bool.false_eq_true, ↓reduceIte])
              have e_4 : (mr p am nx nr).2 = (mr p am nx (nr)).2 := by first | rfl | exact if_pos (by assumption) | exact if_neg (by assumption) | (simp only [mr, n_1, n_2, Bool.false_eq_true, ↓reduceIte])
              subst hZ; exact W.iret hx hb hr (fun t ht hW => ⟨⟨_, (), rfl, rfl, (by rw [ht]; exact (by rw [e_3, e_4]; exact hP)), va_K.moved hW.alike hK, (by rw [e_3, e_4]; exact hD)⟩, hS.F ht⟩) hS.2.2 dX2_millionthsAfter_53
            · have n_2 : ¬ ((nr) ≤ (nr)) := fun h => c_2 ((nI_leI (a := nr) (b := nr) (by omega) (by omega)).mpr h)
              exfalso; omega
          | succ n2 ih2 =>
            intro j2 hk2  H locs ls hP hD hS hl
            have hk2b : j2 < nr := by omega
            refine lv_iload_n hx hb dX2_millionthsAfter_32 rfl (lv_at hl 0 rfl) ?_
            refine lv_iload_n hx hb dX2_millionthsAfter_33 rfl (lv_at hl 2 rfl) ?_
            refine lv_icmp_ge (tgt := 47) hx hb dX2_millionthsAfter_34 (by decide) (fun c_5 => ?_) (fun c_5 => ?_)
            · have n_5 : (nr) ≤ (j2) := (nI_leI (a := nr) (b := j2) (by omega) (by omega)).mp c_5
              exfalso; omega
            · have n_5 : ¬ ((nr) ≤ (j2)) := fun h => c_5 ((nI_leI (a := nr) (b := j2) (by omega) (by omega)).mpr h)
              refine lv_aload_n hx hb dX2_millionthsAfter_37 rfl (lv_at hl 1 rfl) ?_
              refine b_callv0 (S := Unit) (w' := fun u => GW a cI cJ p nu de eq (plA ((mr p am nx (j2)).1) (plN p ((mr p am nx (j2)).1) ((mr p am nx (j2)).2) 5) 5) (plN p ((mr p am nx (j2)).1) ((mr p am nx (j2)).2) 5) oA oD oE oP cR aR hR cl ad gw pr n) hP hD hS hA (va_runV (As := []) (rest := []) ⟨hx, hb, hml, hown, hts⟩ (c_X2_playRound ll D a cI cJ _ p nu de eq ((mr p am nx (j2)).1) ((mr p am nx (j2)).2) oA oD oE oP cR aR hR cl ad gw pr n  ) (cwV 0 hts gX2_millionthsAfter_X2_playRound rfl rfl rfl (by decide +kernel) ⟨Nat.le_of_ble_eq_true rfl, Nat.le_of_ble_eq_true rfl⟩) ⟨PW.blind, va_recv hK hP (ci := 2) (q0 := 1) rfl rfl, PW.go hP hK hD hE⟩ rfl rfl hl.1 rfl (lv_room (Nat.le_of_ble_eq_true rfl)) dX2_millionthsAfter_38 ⟨Nat.le_of_ble_eq_true rfl, Nat.le_of_ble_eq_true rfl⟩) (fun u H locs h_6 hP hD hS => ?_)
              refine lv_iinc (v := nI (j2 + 1)) (lv' := [(3, .int (nI (j2 + 1))), (0, .ref (a 1)), (1, .int (nI (nr))), (2, .int (nI (c)))]) hx hb dX2_millionthsAfter_41 hl (k := 0) rfl (nI_1 (j2)) (by decide) rfl (fun ls hl => ?_)
              refine lv_goto (tgt := 32) hx hb dX2_millionthsAfter_44 (by decide) ?_
              have e_7 : (mr p am nx (j2 + 1)).1 = plA ((mr p am nx (j2)).1) (plN p ((mr p am nx (j2)).1) ((mr p am nx (j2)).2) 5) 5 := by first | rfl | exact if_pos (by assumption) | exact if_neg (by assumption) | (simp only [n_1, n_5, Bool.false_eq_true, ↓reduceIte])
              have e_8 : (mr p am nx (j2 + 1)).2 = plN p ((mr p am nx (j2)).1) ((mr p am nx (j2)).2) 5 := by first | rfl | exact if_pos (by assumption) | exact if_neg (by assumption) | (simp only [n_1, n_5, Bool.false_eq_true, ↓reduceIte])
              exact ih2 (j2 + 1) (by omega) _ _ ls (by rw [e_7, e_8]; exact hP) (by rw [e_7, e_8]; exact hD) hS (lv_sub hl [0, 1, 2, 3] rfl)
        exact L2 (nr) 0 (by omega) _ _ ls hP hD hS (lv_sub hl [0, 1, 2, 3] rfl)
      · have n_1 : ¬ ((6) ≤ (6)) := fun h => c_1 ((nI_leI (a := 6) (b := 6) (by omega) (by omega)).mpr h)
        exfalso; omega
    | succ n1 ih1 =>
      intro k1 hk1  H locs ls hP hD hS hl
      have hk1b : k1 < 6 := by omega
      refine lv_iload_n hx hb dX2_millionthsAfter_2 rfl (lv_at hl 0 rfl) ?_
      refine lv_bipush (v := 6) hx hb dX2_millionthsAfter_3 (by decide) ?_
      refine lv_icmp_ge (tgt := 30) hx hb dX2_millionthsAfter_5 (by decide) (fun c_9 => ?_) (fun c_9 => ?_)
      · have n_9 : (6) ≤ (k1) := (nI_leI (a := 6) (b := k1) (by omega) (by omega)).mp c_9
        exfalso; omega
      · have n_9 : ¬ ((6) ≤ (k1)) := fun h => c_9 ((nI_leI (a := 6) (b := k1) (by omega) (by omega)).mpr h)
        refine lv_aload_n hx hb dX2_millionthsAfter_8 rfl (lv_at hl 1 rfl) ?_
        refine va_get (D := D) (ci := 2) (v := .ref (a 10)) (C := RX2) (T := TX2) (N := 6) (Ts := wsX20) hx hb hin (fun _ h9 => h9) hown hK hP 1 rfl rfl 4 (by decide) (hts (.fieldLink RX2 25 "Groupbooks$Holdings" "amounts" "[I") (by decide +kernel)) (fun _ h9 => h9) rfl dX2_millionthsAfter_9 ?_
        refine lv_iload_n hx hb dX2_millionthsAfter_12 rfl (lv_at hl 0 rfl) ?_
        refine lv_iload_n hx hb dX2_millionthsAfter_13 rfl (lv_at hl 0 rfl) ?_
        refine lv_if_ne (tgt := 22) hx hb dX2_millionthsAfter_14 (by decide) (fun c_10 => ?_) (fun c_10 => ?_)
        · have n_10 : ¬ ((k1) = (0)) := fun h => c_10 ((nI_eq (a := k1) (b := 0) (by omega) (by omega)).mpr h)
          refine lv_iconst (v := 0) hx hb dX2_millionthsAfter_22 (by decide) ?_
          refine b_iast (w' := GW a cI cJ p nu de eq (upd (miA am (k1)) (k1) (0)) nx oA oD oE oP cR aR hR cl ad gw pr n) hx hb hK hP hD hS 10 0 (f := (miA am (k1))) rfl rfl (j := k1) (by omega) (by decide) rfl dX2_millionthsAfter_23 (fun H locs hP hD hS => ?_)
          refine lv_iinc (v := nI (k1 + 1)) (lv' := [(3, .int (nI (k1 + 1))), (0, .ref (a 1)), (1, .int (nI (nr))), (2, .int (nI (c)))]) hx hb dX2_millionthsAfter_24 hl (k := 0) rfl (nI_1 (k1)) (by decide) rfl (fun ls hl => ?_)
          refine lv_goto (tgt := 2) hx hb dX2_millionthsAfter_27 (by decide) ?_
          have e_11 : miA am (k1 + 1) = upd (miA am (k1)) (k1) (0) := by first | rfl | exact if_pos (by assumption) | exact if_neg (by assumption) | (simp only [miA, n_9, n_10, Bool.false_eq_true, ↓reduceIte])
          exact ih1 (k1 + 1) (by omega) _ _ ls (by rw [e_11]; exact hP) (by rw [e_11]; exact hD) hS (lv_sub hl [0, 1, 2, 3] rfl)
        · have n_10 : (k1) = (0) := (nI_eq (a := k1) (b := 0) (by omega) (by omega)).mp c_10
          refine lv_ldc (v := 1000000) hx hb hown (hts (.constant RX2 73 (1000000)) (by decide +kernel)) dX2_millionthsAfter_17 ?_
          refine lv_goto (tgt := 23) hx hb dX2_millionthsAfter_19 (by decide) ?_
          refine b_iast (w' := GW a cI cJ p nu de eq (upd (miA am (k1)) (k1) ((1000000))) nx oA oD oE oP cR aR hR cl ad gw pr n) hx hb hK hP hD hS 10 0 (f := (miA am (k1))) rfl rfl (j := k1) (by omega) (by decide) rfl dX2_millionthsAfter_23 (fun H locs hP hD hS => ?_)
          refine lv_iinc (v := nI (k1 + 1)) (lv' := [(3, .int (nI (k1 + 1))), (0, .ref (a 1)), (1, .int (nI (nr))), (2, .int (nI (c)))]) hx hb dX2_millionthsAfter_24 hl (k := 0) rfl (nI_1 (k1)) (by decide) rfl (fun ls hl => ?_)
          refine lv_goto (tgt := 2) hx hb dX2_millionthsAfter_27 (by decide) ?_
          have e_12 : miA am (k1 + 1) = upd (miA am (k1)) (k1) ((1000000)) := by first | rfl | exact if_pos (by assumption) | exact if_neg (by assumption) | (simp only [miA, n_9, n_10, Bool.false_eq_true, ↓reduceIte])
          exact ih1 (k1 + 1) (by omega) _ _ ls (by rw [e_12]; exact hP) (by rw [e_12]; exact hD) hS (lv_sub hl [0, 1, 2, 3] rfl)
  exact L1 (6) 0 (by omega) _ _ ls hP hD hS (lv_sub hl [0, 1, 2, 3] rfl)
end
section
def inB (v lo hi : Int32) : Bool := if v < lo then false else if hi < v then false else true
def prB (x y : Int32) : Bool := if inB x 0 5 = true then (if inB y 0 5 = true then (if x = y then false else true) else false) else false
def flM (x y : Int64) : Int64 := if 0 ≤ x - x / y * y then x / y else x / y - 1
def trM (x y : Int32) : Int32 := (flM (x.toInt64 * y.toInt64) 100).toInt32
def lsI (he : Nat → Int32) (rp i : Nat) (s : Nat → Int64) : Nat → Nat → Int64
  | 0 => s
  | j + 1 => vp_updL (lsI he rp i s j) (5 * (i + 1) + (j + 1) - 6) (if j + 1 = rp then (he (i + 1)).toInt64 else (if i + 1 = j + 1 then (100 : Int32) else -(he (6 * (j + 1) + (i + 1)))).toInt64)
def lsO (he : Nat → Int32) (rp : Nat) (s : Nat → Int64) : Nat → Nat → Int64 | 0 => s | i + 1 => lsI he rp i (lsO he rp s i) 5
def exK (s : Nat → Int64) (r1 r2 : Nat) : Nat → Nat → Int64
  | 0 => s
  | k + 1 => vp_updL (vp_updL (exK s r1 r2 k) (5 * r1 + k) (exK s r1 r2 k (5 * r2 + k))) (5 * r2 + k) (exK s r1 r2 k (5 * r1 + k))
def frF (s : Nat → Int64) (k : Nat) : Nat → Nat → Nat | 0, r => r | n + 1, r => if s (5 * r + k) = 0 then frF s k n (r + 1) else r
def deJ (s : Nat → Int64) (k i : Nat) (bf : Int64) : Nat → Nat → Int64
  | 0 => s
  | t + 1 => vp_updL (deJ s k i bf t) (5 * i + (k + 1 + t)) ((deJ s k i bf t (5 * i + (k + 1 + t)) * deJ s k i bf t (6 * k) - deJ s k i bf t (5 * i + k) * deJ s k i bf t (5 * k + (k + 1 + t))) / bf)
def deI (s : Nat → Int64) (k : Nat) (bf : Int64) : Nat → Nat → Int64 | 0 => s | t + 1 => deJ (deI s k bf t) k (k + 1 + t) bf (5 - (k + 1))
def swp (s : Nat → Int64) (k r : Nat) : Nat → Int64 := if r = k then s else exK s r k 5
def dtG : Nat → Nat → (Nat → Int64) → Int64 → Int64 → Int64
  | 0, _, s, sg, _ => sg * s 24
  | n + 1, k, s, sg, bf => if frF s k (5 - k) k = 5 then 0 else
      dtG n (k + 1) (deI (swp s k (frF s k (5 - k) k)) k bf (5 - (k + 1))) (if frF s k (5 - k) k = k then sg else -sg) (deI (swp s k (frF s k (5 - k) k)) k bf (5 - (k + 1)) (6 * k))
theorem deJ_ne (s : Nat → Int64) (k i : Nat) (bf : Int64) (q : Nat) : ∀ t, (∀ j, j < t → q ≠ 5 * i + (k + 1 + j)) → deJ s k i bf t q = s q
  | 0, _ => rfl
  | t + 1, h => by
    rw [deJ, vp_updL, if_neg (h t (Nat.lt_succ_self t))]
    exact deJ_ne s k i bf q t (fun j hj => h j (Nat.lt_succ_of_lt hj))
theorem deI_ne (s : Nat → Int64) (k : Nat) (bf : Int64) (q : Nat) : ∀ t, (∀ i j, i < t → j < 5 - (k + 1) → q ≠ 5 * (k + 1 + i) + (k + 1 + j)) → deI s k bf t q = s q
  | 0, _ => rfl
  | t + 1, h => by
    rw [deI, deJ_ne _ _ _ _ _ _ (fun j hj => h t j (Nat.lt_succ_self t) hj)]
    exact deI_ne s k bf q t (fun i j hi hj => h i j (Nat.lt_succ_of_lt hi) hj)
theorem exK_r2 (s : Nat → Int64) (r1 r2 : Nat) (h : r1 < 5) (h2 : r2 < 5) : ∀ t q, q < t → t ≤ 5 → exK s r1 r2 t (5 * r2 + q) = s (5 * r1 + q) := by
  have low : ∀ t q, t ≤ q → q < 5 → exK s r1 r2 t (5 * r1 + q) = s (5 * r1 + q) ∧ exK s r1 r2 t (5 * r2 + q) = s (5 * r2 + q) := by
    intro t
    induction t with
    | zero => intro q _ _; exact ⟨rfl, rfl⟩
    | succ t ih =>
      intro q hq h5
      obtain ⟨a1, a2⟩ := ih q (by omega) h5
      constructor
      · rw [exK, vp_updL, if_neg (by omega), vp_updL, if_neg (by omega)]; exact a1
      · rw [exK, vp_updL, if_neg (by omega), vp_updL, if_neg (by omega)]; exact a2
  intro t
  induction t with
  | zero => intro q hq; exact absurd hq (Nat.not_lt_zero q)
  | succ t ih =>
    intro q hq h5
    rcases Nat.lt_or_ge q t with z | z
    · rw [exK, vp_updL, if_neg (by omega), vp_updL, if_neg (by omega)]
      exact ih q z (by omega)
    · obtain rfl : q = t := by omega
      rw [exK, vp_updL, if_pos rfl]
      exact (low q q (Nat.le_refl q) (by omega)).1
theorem swp_d (s : Nat → Int64) {k r : Nat} (hk : k < 5) (hr : r < 5) : swp s k r (6 * k) = s (5 * r + k) := by
  unfold swp
  split
  · next h => subst h; congr 1; omega
  · rw [show 6 * k = 5 * k + k by omega]
    exact exK_r2 s r k hr hk 5 k hk (Nat.le_refl 5)
theorem de_d (s : Nat → Int64) {k r : Nat} (bf : Int64) (hk : k < 4) (hr : r < 5) : deI (swp s k r) k bf (5 - (k + 1)) (6 * k) = s (5 * r + k) := by
  rw [deI_ne _ _ _ _ _ (fun i j hi hj => by omega)]
  exact swp_d s (by omega) hr
end
