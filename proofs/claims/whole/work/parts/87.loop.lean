theorem and31 (x : Int32) : ∃ k, k < 32 ∧ x &&& 31 = nI k := by
  refine ⟨(x &&& 31).toBitVec.toNat, ?_, Int32.toBitVec_inj.mp (BitVec.eq_of_toNat_eq ?_)⟩
  · rw [Int32.toBitVec_and, BitVec.toNat_and]
    exact Nat.lt_of_le_of_lt Nat.and_le_right (by decide)
  · show _ = (BitVec.ofNat 32 _).toNat
    rw [BitVec.toNat_ofNat]
    exact (Nat.mod_eq_of_lt (BitVec.isLt _)).symm
theorem pc_0 : pcB z32 := ⟨fun _ _ => ⟨(by show 0 ≤ (0 : Int32).toInt; decide), (by show (0 : Int32).toInt ≤ 100; decide)⟩, fun _ _ => i32_0, fun _ _ => (by show (0 : Int32).toInt + (0 : Int32).toInt + (0 : Int32).toInt + (0 : Int32).toInt + (0 : Int32).toInt + (0 : Int32).toInt ≤ 100; decide)⟩
theorem dv_0 : dvk (Rp_ z32) 5 = 10000000000 := by decide +kernel
theorem dr_0 : ∀ i, i < 5 → dR_ (Rp_ z32) i = 0 := by decide +kernel
theorem d0_0 : (dW z32 0).toInt = 10000000000 := by rw [dW_0 pc_0, dv_0]
theorem dn_0 : ¬ dW z32 0 = 0 := (dW_ne pc_0).mpr (by rw [dv_0]; decide)
theorem dc_0 {c : Nat} (h0 : 0 < c) (h6 : c < 6) : dW z32 c = 0 := by
  obtain ⟨i, rfl⟩ : ∃ i, c = i + 1 := ⟨c - 1, by omega⟩
  exact Int64.toInt_inj.mp (by rw [dW_i pc_0 (show i < 5 by omega), dr_0 i (by omega), i64_0])
theorem nu_0 : ∀ c, c < 6 → nuI 6 c = if c = 0 then 1 else 0 := by decide +kernel
theorem de_0 : ∀ c, c < 6 → dnmI 6 c = 1 := by decide +kernel
theorem rt_0 : ∀ c, c < 6 → rtI 6 c = 100 := by decide +kernel
theorem sh_0 : ∀ c, c < 6 → nuI 6 c = aF z32 c ∧ dnmI 6 c = bF z32 c := by
  intro c hc
  rw [nu_0 c hc, de_0 c hc]
  unfold aF
  by_cases z : c = 0
  · rw [if_pos z, if_pos z]
    refine ⟨rfl, ?_⟩
    unfold bF
    rw [if_pos z]
  · rw [if_neg z, if_neg z]
    constructor
    · rw [dc_0 (by omega) hc]
      exact Int64.toInt_inj.mp (by rw [Int64.toInt_div, i64_0, Int.zero_tdiv]; rfl)
    · obtain ⟨a, -⟩ := dW_by (okB_p pc_0) dn_0 hc
      unfold bF
      rw [if_neg z, a]
      unfold gq
      rw [dc_0 (by omega) hc, i64_0, d0_0]
      decide +kernel
theorem iv_0 : iv_ z32 (nuI 6) (dnmI 6) z32 z32 z32 z32 (rtI 6) (rtI 6) (rtI 6) z32 z32 0 := by
  refine ⟨pc_0, dn_0, sh_0, fun c hc => ?_, fun _ _ _ _ => rfl, by omega⟩
  rw [rt_0 c hc]
  show (0 ≤ (0 : Int32).toInt ∧ (0 : Int32).toInt ≤ 1000000) ∧ (0 ≤ (0 : Int32).toInt ∧ (0 : Int32).toInt ≤ 1000000) ∧ (-1000000 ≤ (0 : Int32).toInt ∧ (0 : Int32).toInt ≤ 1000000) ∧ (-1000000 ≤ (0 : Int32).toInt ∧ (0 : Int32).toInt ≤ 1000000) ∧ (0 : Int32).toInt = (0 : Int32).toInt + (0 : Int32).toInt + (0 : Int32).toInt ∧ (1 ≤ (100 : Int32).toInt ∧ (100 : Int32).toInt ≤ 1000) ∧ (1 ≤ (100 : Int32).toInt ∧ (100 : Int32).toInt ≤ 1000) ∧ (1 ≤ (100 : Int32).toInt ∧ (100 : Int32).toInt ≤ 1000)
  decide
theorem nest_in : ∀ q ∈ nestL, Cond.methodLinkNest q.1 q.2.1 q.2.2 RX3 ∈ lw_tbl := by decide +kernel
set_option maxHeartbeats 4000000 in
set_option maxRecDepth 100000 in
theorem lw_ctx {p : Program} {s : State} {m : MethodId} {meth : Method} {c : Code} {b L : Nat} {xs : Nat → Int32} (l : Launch) (hflags : l.flags = flags0) (hL : L ≤ 3072) (C0 : lw_At p s m meth c b L xs) : ∃ (D : va_G) (cI cJ : ClassId), lwC p l s m meth c b L xs D cI cJ := by
  have htb : ∀ w ∈ lw_tbl, w.before #[Value.ref b] s = true := C0.2.2.2.2.2.1
  have hs := flat_of_before _ C0.2.2.2.2.2.2.2.2.2
  obtain ⟨c0, i0, k0⟩ := u_known (C := RX0) (T := TX0) (N := 2) (n := 2) htb inX0 (htb (.instantiable RX0 2) (by decide +kernel))
  obtain ⟨c1, i1, k1⟩ := u_known (C := RX1) (T := TX1) (N := 7) (n := 7) htb inX1 (htb (.instantiable RX1 7) (by decide +kernel))
  obtain ⟨c2, i2, k2⟩ := u_known (C := RX2) (T := TX2) (N := 6) (n := 6) htb inX2 (htb (.instantiable RX2 6) (by decide +kernel))
  obtain ⟨c3, i3, k3⟩ := u_known (C := RX3) (T := TX3) (N := 6) (n := 6) htb inX3 (htb (.instantiable RX3 6) (by decide +kernel))
  obtain ⟨c4, i4, k4⟩ := u_known (C := RX4) (T := TX4) (N := 19) (n := 19) htb inX4 (htb (.instantiable RX4 19) (by decide +kernel))
  obtain ⟨cI, kI, coI, a1, a2, a3⟩ := Cond.arrayClass_spec (htb (.arrayClass .int) (by decide +kernel))
  obtain ⟨cJ, kJ, coJ, b1, b2, b3⟩ := Cond.arrayClass_spec (htb (.arrayClass .long) (by decide +kernel))
  refine ⟨(fun k => if k = 0 then c0 else if k = 1 then c1 else if k = 2 then c2 else if k = 3 then c3 else c4, fun k => if k = 0 then i0 else if k = 1 then i1 else if k = 2 then i2 else if k = 3 then i3 else i4), cI, cJ, C0, hL, ?_, ⟨?_, ?_⟩, ?_, ?_, ?_, ?_⟩
  · unfold Launch.stackTraces
    rw [hflags]
    decide +kernel
  · intro k q hq
    match k, hq with
    | 0, hq => cases hq; exact k0
    | 1, hq => cases hq; exact k1
    | 2, hq => cases hq; exact k2
    | 3, hq => cases hq; exact k3
    | 4, hq => cases hq; exact k4
    | k + 5, hq => simp [vwCl] at hq
  · intro k q hq
    match k, hq with
    | 0, hq => cases hq; exact ⟨fun n z => ⟨fun k h => (by cases h), kI, a2, coI, a3⟩, a1⟩
    | 1, hq => cases hq; exact ⟨fun n z => ⟨fun k h => (by cases h), kJ, b2, coJ, b3⟩, b1⟩
    | k + 2, hq => simp at hq
  · have st : ∀ (k : Nat) (tx : String), Cond.stringRef RX3 k tx ∈ lw_tbl → (Cond.exactly (.string RX3 k) "java/lang/String").before #[Value.ref b] s = true → ∃ z, vk_R RX3 k tx z s := fun k tx h1 h2 => by
      obtain ⟨z, _, _, _, e, -⟩ := Cond.exactly_spec h2
      exact ⟨z, vk_R.of (htb _ h1) e⟩
    exact ⟨fun q hq => va_Nw.of rfl (htb _ (nest_in q hq)), va_Nw.of rfl (htb (.castable RIA RIA) (by decide +kernel)), va_Nw.of rfl (htb (.castable RIS RIS) (by decide +kernel)),
      st 165 "argument out of range" (by decide +kernel) (hs _ (by decide +kernel)), st 163 "a company and itself" (by decide +kernel) (hs _ (by decide +kernel)), st 169 "holdings not possible" (by decide +kernel) (hs _ (by decide +kernel)),
      st 167 "books do not balance" (by decide +kernel) (hs _ (by decide +kernel)), st 144 "all periods are closed" (by decide +kernel) (hs _ (by decide +kernel)), st 157 "period not closed" (by decide +kernel) (hs _ (by decide +kernel))⟩
  · exact ⟨vx_Zqof (htb (.laysStatic Bundle.tN "UNASSIGNED_STACK" Bundle.steD) (by decide +kernel)) (htb (.initialized Bundle.tN) (by decide +kernel)) (hs (.isRef (.static Bundle.tN "UNASSIGNED_STACK" Bundle.steD)) (by decide +kernel)) (fun a h => Nat.not_le.mpr h),
      vx_Zqof (htb (.laysStatic Bundle.tN "SUPPRESSED_SENTINEL" Bundle.listD) (by decide +kernel)) (htb (.initialized Bundle.tN) (by decide +kernel)) (hs (.isRef (.static Bundle.tN "SUPPRESSED_SENTINEL" Bundle.listD)) (by decide +kernel)) (fun a h => Nat.not_le.mpr h)⟩
  · exact ⟨va_Nw.of rfl (htb _ (by decide +kernel)), va_Nw.of rfl (htb _ (by decide +kernel)), va_Nw.of rfl (htb _ (by decide +kernel))⟩
  · exact va_Nc.of (hs (.not (.castable RIS RIA)) (by decide +kernel))

set_option maxHeartbeats 4000000 in
set_option maxRecDepth 100000 in
/-- THE LAW'S LOOP: t calls are through, class and reference agree -/
theorem lw_loop {pp : Program} {ll : Launch} {ee : Env} {ss : State} {mm : MethodId} {bel : List Frame} {mth : Method} {cde : Code} {b L : Nat} {xs : Nat → Int32} {D : va_G} {cI cJ : ClassId} {a bb : Nat → Nat} {o0 : Nat} (C : lwC pp ll ss mm mth cde b L xs D cI cJ) {c0 s0 : Nat} (h0 : c0 ≤ 500) (h1 : s0 ≤ 5000) :
    ∀ n t, L < 6 * t + 6 * n → 6 * t ≤ L → NX_ (fun H locs ls => W pp ll ee room_1 ss mm #[Value.ref b] bel mth cde H locs (c0 + t) (s0 + 6 * t) (lw_Z bel #[Value.ref b] ss) (F0 mm 23 ls [])) ss D cI cJ a bb o0 b (6 * t) := by
  intro n
  induction n with
  | zero =>
    intro t h2 h3
    exact absurd h2 (by omega)
  | succ n ih =>
    intro t h2 h3
    intro p nu de eq am nx oA oD oE oP cR aR hR cl ad gw pr a2 ou sq ab be nw tn th z H locs ls hI hP hD hS hl
    have hL := C.hL
    have hx := C.hx
    have hb := C.hb
    have hbA : ¬ lwA ss b := Nat.not_le.mpr C.hbl
    show W pp ll ee room_1 ss mm #[Value.ref b] bel mth cde H locs (c0 + t) (s0 + 6 * t) (lw_Z bel #[Value.ref b] ss) (F0 mm 23 ls [])
    refine lv_iload hx hb dL_law_23 (lv_at hl 4 rfl) ?_
    refine lv_aload_n hx hb dL_law_25 rfl (lv_at hl 0 rfl) ?_
    refine va_slen hx hb C.hX C.hbl hbA hS dL_law_26 ?_
    refine lv_bipush (v := 6) hx hb dL_law_27 (by decide) ?_
    refine lv_isub hx hb dL_law_29 ?_
    refine lv_icmp_gt (tgt := 1478) hx hb dL_law_30 (by decide) (fun c1 => ?_) (fun c1 => ?_)
    · refine lv_iconst (v := 1) hx hb dL_law_1478 (by decide) ?_
      refine va_forget (fun q hq => hS.2.2 q hq) ?_
      refine W.widen (k := 1070) (n := 8714) (by omega) (by omega) ?_
      exact lw_ret hx hb C.hr C.hlocks dL_law_1479
    · have hlt : 6 * t + 6 ≤ L := by
        rcases Nat.lt_or_ge L (6 * t + 6) with q | q
        · exfalso
          apply c1
          have e6 : (6 : Int32).toInt = 6 := by decide
          have e : (nI L - 6).toInt = (L : Int) - 6 := by
            rw [Int32.toInt_sub, nI_toInt (by omega), e6]
            exact bmodI (by omega) (by omega)
          show nI L - 6 < nI (6 * t)
          rw [Int32.lt_iff_toInt_lt, e, nI_toInt (by omega)]
          omega
        · exact q
      refine lv_aload_n hx hb dL_law_33 rfl (lv_at hl 0 rfl) ?_
      refine lv_iload hx hb dL_law_34 (lv_at hl 4 rfl) ?_
      refine va_sld hx hb C.hX C.hbl hbA hS (vp_in_nI (show 6 * t < L by omega) (by omega)) dL_law_36 ?_
      refine lv_bipush (v := 31) hx hb dL_law_37 (by decide) ?_
      refine lv_iand hx hb dL_law_39 ?_
      obtain ⟨k, hk, ek⟩ := and31 (xs (nI (6 * t)).toNatClampNeg)
      rw [ek]
      have nxt : NX_ (fun H locs ls => W pp ll ee room_1 ss mm #[Value.ref b] bel mth cde H locs (c0 + t + 1) (s0 + 6 * t + 6) (lw_Z bel #[Value.ref b] ss) (F0 mm 1472 ls [])) ss D cI cJ a bb o0 b (6 * t) := by
        intro p nu de eq am nx oA oD oE oP cR aR hR cl ad gw pr a2 ou sq ab be nw tn th z H locs ls hI hP hD hS hl
        refine lv_iinc (v := nI (6 * (t + 1))) (lv' := [(4, .int (nI (6 * (t + 1)))), (0, .ref b), (1, .ref (a 0)), (2, .ref (bb 0)), (3, .ref o0)]) hx hb dL_law_1472 hl (k := 4) rfl (by rw [show Int32.ofInt 6 = nI 6 from rfl, nI_add]; rfl) (by decide) rfl (fun ls hl => ?_)
        refine lv_goto (tgt := 23) hx hb dL_law_1475 (by decide) ?_
        refine W.widen (k := c0 + (t + 1)) (n := s0 + 6 * (t + 1)) (by omega) (by omega) ?_
        exact ih (t + 1) (by omega) (by omega) hI hP hD hS (lv_sub hl [1, 2, 3, 4, 0] rfl)
      have hcs : c0 + t + 1 ≤ 1070 ∧ s0 + 6 * t + 6 ≤ 8714 := ⟨by omega, by omega⟩
      have hi : 6 * t + 5 < L := by omega
      rcases (show k = 0 ∨ k = 1 ∨ k = 2 ∨ k = 3 ∨ k = 4 ∨ k = 5 ∨ k = 6 ∨ k = 7 ∨ k = 8 ∨ k = 9 ∨ k = 10 ∨ k = 11 ∨ k = 12 ∨ k = 13 ∨ k = 14 ∨ k = 15 ∨ k = 16 ∨ k = 17 ∨ k = 18 ∨ k = 19 ∨ k = 20 ∨ k = 21 ∨ k = 22 ∨ k = 23 ∨ k = 24 ∨ 25 ≤ k by omega) with rfl | rfl | rfl | rfl | rfl | rfl | rfl | rfl | rfl | rfl | rfl | rfl | rfl | rfl | rfl | rfl | rfl | rfl | rfl | rfl | rfl | rfl | rfl | rfl | rfl | h25
      · exact lv_tableIn (off := 116) (tgt := 156) hx hb dL_law_40 (by decide) (by decide) (by decide +kernel) (by decide) (kc_hold hI C hi hcs hP hD hS hl nxt)
      · exact lv_tableIn (off := 196) (tgt := 236) hx hb dL_law_40 (by decide) (by decide) (by decide +kernel) (by decide) (kc_acquire hI C hi hcs hP hD hS hl nxt)
      · exact lv_tableIn (off := 288) (tgt := 328) hx hb dL_law_40 (by decide) (by decide) (by decide +kernel) (by decide) (kc_held hI C hi hcs hP hD hS hl nxt)
      · exact lv_tableIn (off := 356) (tgt := 396) hx hb dL_law_40 (by decide) (by decide) (by decide +kernel) (by decide) (kc_shareNumerator hI C hi hcs hP hD hS hl nxt)
      · exact lv_tableIn (off := 411) (tgt := 451) hx hb dL_law_40 (by decide) (by decide) (by decide +kernel) (by decide) (kc_shareDenominator hI C hi hcs hP hD hS hl nxt)
      · exact lv_tableIn (off := 466) (tgt := 506) hx hb dL_law_40 (by decide) (by decide) (by decide +kernel) (by decide) (kc_shareByRounds hI C hi hcs hP hD hS hl nxt)
      · exact lv_tableIn (off := 534) (tgt := 574) hx hb dL_law_40 (by decide) (by decide) (by decide +kernel) (by decide) (kc_group hI C hi hcs hP hD hS hl nxt)
      · exact lv_tableIn (off := 547) (tgt := 587) hx hb dL_law_40 (by decide) (by decide) (by decide +kernel) (by decide) (kc_goodwill hI C hi hcs hP hD hS hl nxt)
      · exact lv_tableIn (off := 603) (tgt := 643) hx hb dL_law_40 (by decide) (by decide) (by decide +kernel) (by decide) (kc_setBooks hI C hi hcs hP hD hS hl nxt)
      · exact lv_tableIn (off := 687) (tgt := 727) hx hb dL_law_40 (by decide) (by decide) (by decide +kernel) (by decide) (kc_setRates hI C hi hcs hP hD hS hl nxt)
      · exact lv_tableIn (off := 759) (tgt := 799) hx hb dL_law_40 (by decide) (by decide) (by decide +kernel) (by decide) (kc_netValue hI C hi hcs hP hD hS hl nxt)
      · exact lv_tableIn (off := 815) (tgt := 855) hx hb dL_law_40 (by decide) (by decide) (by decide +kernel) (by decide) (kc_translatedEquity hI C hi hcs hP hD hS hl nxt)
      · exact lv_tableIn (off := 871) (tgt := 911) hx hb dL_law_40 (by decide) (by decide) (by decide +kernel) (by decide) (kc_translatedResult hI C hi hcs hP hD hS hl nxt)
      · exact lv_tableIn (off := 927) (tgt := 967) hx hb dL_law_40 (by decide) (by decide) (by decide +kernel) (by decide) (kc_reserve hI C hi hcs hP hD hS hl nxt)
      · exact lv_tableIn (off := 983) (tgt := 1023) hx hb dL_law_40 (by decide) (by decide) (by decide +kernel) (by decide) (kc_claim hI C hi hcs hP hD hS hl nxt)
      · exact lv_tableIn (off := 1063) (tgt := 1103) hx hb dL_law_40 (by decide) (by decide) (by decide +kernel) (by decide) (kc_admit hI C hi hcs hP hD hS hl nxt)
      · exact lv_tableIn (off := 1143) (tgt := 1183) hx hb dL_law_40 (by decide) (by decide) (by decide +kernel) (by decide) (kc_difference hI C hi hcs hP hD hS hl nxt)
      · exact lv_tableIn (off := 1211) (tgt := 1251) hx hb dL_law_40 (by decide) (by decide) (by decide +kernel) (by decide) (kc_eliminated hI C hi hcs hP hD hS hl nxt)
      · exact lv_tableIn (off := 1224) (tgt := 1264) hx hb dL_law_40 (by decide) (by decide) (by decide +kernel) (by decide) (kc_assets hI C hi hcs hP hD hS hl nxt)
      · exact lv_tableIn (off := 1237) (tgt := 1277) hx hb dL_law_40 (by decide) (by decide) (by decide +kernel) (by decide) (kc_debts hI C hi hcs hP hD hS hl nxt)
      · exact lv_tableIn (off := 1250) (tgt := 1290) hx hb dL_law_40 (by decide) (by decide) (by decide +kernel) (by decide) (kc_minority hI C hi hcs hP hD hS hl nxt)
      · exact lv_tableIn (off := 1306) (tgt := 1346) hx hb dL_law_40 (by decide) (by decide) (by decide +kernel) (by decide) (kc_equity hI C hi hcs hP hD hS hl nxt)
      · exact lv_tableIn (off := 1319) (tgt := 1359) hx hb dL_law_40 (by decide) (by decide) (by decide +kernel) (by decide) (kc_result hI C hi hcs hP hD hS hl nxt)
      · exact lv_tableIn (off := 1332) (tgt := 1372) hx hb dL_law_40 (by decide) (by decide) (by decide +kernel) (by decide) (kc_close hI C hi hcs hP hD hS hl nxt)
      · exact lv_tableIn (off := 1376) (tgt := 1416) hx hb dL_law_40 (by decide) (by decide) (by decide +kernel) (by decide) (kc_resultOf hI C hi hcs hP hD hS hl nxt)
      · refine lv_tableOut (tgt := 1472) hx hb dL_law_40 (Or.inr (by rw [nI_toInt (by omega)]; omega)) (by decide) ?_
        refine W.widen (k := c0 + t + 1) (n := s0 + 6 * t + 6) (by omega) (by omega) ?_
        exact nxt hI hP hD hS hl
