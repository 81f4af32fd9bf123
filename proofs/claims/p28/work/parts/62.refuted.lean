/-- the script of ninety zeros, and the witness's state with it -/
def zcells : Array Value := (List.replicate 90 (Value.int 0)).toArray
def zst : State := start1.aboutOf zcells
def acW : Cond → Bool
  | .arrayClass _ => true
  | _ => false
theorem acW_spec {c : Cond} (h : acW c = true) : ∃ ty, c = .arrayClass ty := by
  cases c <;> first | exact ⟨_, rfl⟩ | cases h
theorem zst_word {c : Cond} (h : c ∈ (Cond.code x code maxLocals ret :: tables_1)) (hc : ((c.onTables && c.keeps) || (acW c || c.before start1.args0 zst)) = true) : c.before start1.args0 zst = true := by
  have hW : start1.about.WarmedH zst.vm := State.WarmedH.refl start1.about
  rcases Bool.or_eq_true _ _ ▸ hc with h1 | h1
  · exact word_at hW (Or.inl h1) (start1.words c h)
  · rcases Bool.or_eq_true _ _ ▸ h1 with h2 | h2
    · exact word_at hW (Or.inr (acW_spec h2)) (start1.words c h)
    · exact h2
theorem zw_0 : (Cond.code x code maxLocals ret).before start1.args0 zst = true := su_hand_word (m := ⟨0, 0⟩) (by decide +kernel) rfl (by decide +kernel) (by decide +kernel)
set_option maxRecDepth 100000 in
theorem zw_1 : tables_1_1.all (fun c => (c.onTables && c.keeps) || (acW c || c.before start1.args0 zst)) = true := by decide +kernel
set_option maxRecDepth 100000 in
theorem zw_2 : tables_1_2.all (fun c => (c.onTables && c.keeps) || (acW c || c.before start1.args0 zst)) = true := by decide +kernel
set_option maxRecDepth 100000 in
theorem zw_3 : tables_1_3.all (fun c => (c.onTables && c.keeps) || (acW c || c.before start1.args0 zst)) = true := by decide +kernel
theorem zwords : ∀ c ∈ (Cond.code x code maxLocals ret :: tables_1), c.before start1.args0 zst = true := by
  intro c hc
  rcases List.mem_cons.mp hc with h | h
  · rw [h]; exact zw_0
  · have h1 : c ∈ tables_1_1 ++ (tables_1_2 ++ tables_1_3) := h
    refine zst_word hc ?_
    rcases List.mem_append.mp h1 with h2 | h1
    · exact List.all_eq_true.mp zw_1 c h2
    rcases List.mem_append.mp h1 with h2 | h1
    · exact List.all_eq_true.mp zw_2 c h2
    · exact List.all_eq_true.mp zw_3 c h1
set_option maxRecDepth 16384 in
theorem zapplies (r : Room) (hr : zst.hasRoom start1.e0.platform r = true) : (headSpec (Cond.code x code maxLocals ret :: tables_1) r).applies x start1.e0.platform zst = true :=
  (Spec.applies_iff rfl).mpr ⟨rfl, rfl, rfl, by decide +kernel, by decide +kernel, by decide +kernel, hr, atoms_intro zwords⟩
theorem zroom_1 : zst.hasRoom start1.e0.platform room_1 = true := launch0.hasRoom_least _ room_1 (by decide +kernel) (by decide +kernel) (by decide +kernel) (by decide +kernel) (by decide +kernel) (by decide +kernel)
theorem zroom_2 : zst.hasRoom start1.e0.platform R2 = true := launch0.hasRoom_least _ R2 (by decide +kernel) (by decide +kernel) (by decide +kernel) (by decide +kernel) (by decide +kernel) (by decide +kernel)
theorem zpre : (Cond.and given_1 narrow_1).before start1.args0 zst = true := by decide +kernel
set_option maxRecDepth 16384 in
theorem zstart : AtStart classFile x code maxLocals ret World_1 tables_1 room_1 Calls_1 rest_1 Pre_1 launch0 start1.p0 start1.e0 zst ⟨0, 0⟩ start1.args0 Lib.HandBits.below0 :=
  ⟨lists_1, trivial, launch0.admits_env _ _ _, launch0.least_env, fairChoices_fair.cas, fairChoices_fair.clock, rfl, by decide +kernel, by decide +kernel, zapplies room_1 zroom_1,
    trivial, (show rest_1_c.before start1.args0 zst = true by decide +kernel), zpre⟩
theorem zarr : (Cond.arrayOf (.arg 0) .int).before start1.args0 zst = true := flat_of_before _ zpre _ (by decide +kernel)
theorem zints : zst.IntsAt 0 (List.replicate 90 0) := by
  have hr : rest_1_c.before start1.args0 zst = true := by decide +kernel
  have hq := flat_of_before _ hr
  obtain ⟨b, xs, hb, cell, h1, h2, h3, h4⟩ := State.ints_of_pre rfl zarr (hq (Cond.isInt (.length (.arg 0))) (by decide +kernel)) (hq (Cond.all (.arg 0) (.isInt (.elem (.arg 0) (.index 0)))) (by decide +kernel))
  have hb0 : b = 0 := by
    have h9 : start1.args0[0]? = some (.ref b) := hb
    have h8 : start1.args0[0]? = some (.ref 0) := rfl
    rw [h8] at h9
    injection h9 with h9
    injection h9 with h9
    exact h9.symm
  subst hb0
  have h7 : zst.arrayAt? 0 = some zst.heap[0]! := rfl
  rw [h7] at h1
  injection h1 with h1
  subst h1
  exact ⟨_, h7, rfl, h3, by decide⟩
theorem zzero : ∀ j, j < 90 → (List.replicate 90 (0 : Int32)).getD j 0 = 0 := by decide +kernel
/-- from that start the law comes to its end: it answers 1, and the heap has grown by 540 cells or more -/
theorem zrun : ∃ (n : Nat) (o : Outcome), (∀ k, k < n → Within (stepsAlone start1.p0.tables start1.e0 k zst) Lib.HandBits.below0) ∧ (stepsAlone start1.p0.tables start1.e0 n zst).status = .running ∧ Ended (stepsAlone start1.p0.tables start1.e0 n zst) Lib.HandBits.below0 o ∧ o = .returned (some (.int 1)) ∧ zst.heap.size + 540 ≤ (stepsAlone start1.p0.tables start1.e0 n zst).heap.size :=
  lw_walk2 launch0 rfl 0 (List.replicate 90 0) start1.p0 start1.e0 (launch0.admits_env _ _ _) fairChoices_fair.cas fairChoices_fair.clock zst ⟨0, 0⟩ start1.args0 Lib.HandBits.below0 rfl ((Spec.applies_iff_loose rfl).mp (zapplies R2 zroom_2)).1
    ⟨⟨rfl, zints, by decide, zpre⟩, by decide, zzero⟩ trivial
theorem grown {s : State} {o : Outcome} {t : State} {L : List Loc} (h : Framed s o t L 121 1154) : t.heap.size ≤ s.heap.size + 121 := h.2.2.2.2.1
/-- the first half of the claim is refuted -/
theorem p28_refuted_1 : RefutedClaimed_1_1 := by
  obtain ⟨n, o, h1, h2, h3, -, h5⟩ := zrun
  exact ⟨launch0, start1.p0, start1.e0, zst, ⟨0, 0⟩, start1.args0, Lib.HandBits.below0, rfl, zstart, n, o, h1, h2, h3, fun hp => by have := grown hp.2; omega⟩
/-- .. and the second -/
theorem p28_refuted_2 : RefutedClaimed_1_2 := by
  obtain ⟨n, o, h1, h2, h3, -, h5⟩ := zrun
  exact ⟨launch0, start1.p0, start1.e0, zst, ⟨0, 0⟩, start1.args0, Lib.HandBits.below0, rfl, zstart, n, o, h1, h2, h3, fun hp => by have := grown hp.2; omega⟩
/-- what is owed doesn't hold: no proof of it can be -/
theorem p28_not : ¬ (Claimed_1_1 ∧ Claimed_1_2) := by
  intro h
  obtain ⟨n, o, h1, h2, h3, -, h5⟩ := zrun
  obtain ⟨hL, hW, ha, -, hc, hk, hf, hfit, hheap, happ, hca, hre, hpr⟩ := zstart
  obtain ⟨n', o', h1', h2', h3', hp⟩ := h.1 launch0 rfl hL hW start1.p0 start1.e0 ha hc hk zst ⟨0, 0⟩ start1.args0 Lib.HandBits.below0 hf hfit hheap happ ⟨hca, hre, hpr⟩
  have hn : n = n' := by
    rcases Nat.lt_trichotomy n n' with q | q | q
    · exact absurd (h1' n q) h3.not_within
    · exact q
    · exact absurd (h1 n' q) h3'.not_within
  subst hn
  have := grown hp.2
  omega
