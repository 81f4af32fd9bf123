def lwT : Nat → List Cond | 0 => k2_sels lw_privs | 1 => tables_1_1 | 2 => tables_1_2 | _ => tables_1_3
theorem lwT_in : ∀ (k : Nat) (w : Cond), w ∈ lwT k → w ∈ lw_tbl
  | 0, w, h => List.mem_append_left _ h
  | 1, w, h => List.mem_append_right _ (show w ∈ tables_1_1 ++ (tables_1_2 ++ tables_1_3) from List.mem_append_left _ h)
  | 2, w, h => List.mem_append_right _ (show w ∈ tables_1_1 ++ (tables_1_2 ++ tables_1_3) from List.mem_append_right _ (List.mem_append_left _ h))
  | _ + 3, w, h => List.mem_append_right _ (show w ∈ tables_1_1 ++ (tables_1_2 ++ tables_1_3) from List.mem_append_right _ (List.mem_append_right _ h))
set_option maxRecDepth 100000 in
theorem wsL_law0_r1_in : ∀ w ∈ wsL_law0_r1, w ∈ lw_tbl := by
  have e : wsL_law0_r1 = [(1, 11), (1, 12), (1, 1), (1, 44), (2, 180), (3, 49), (3, 50), (2, 132), (3, 51), (3, 52), (1, 13), (1, 14), (1, 15), (1, 16), (1, 17), (1, 18), (1, 19), (1, 20), (1, 2), (1, 87), (1, 46), (1, 47), (1, 3), (1, 88)].filterMap (fun q => (lwT q.1)[q.2]?) := by decide +kernel
  intro w hw
  rw [e] at hw
  obtain ⟨i, -, hi⟩ := List.mem_filterMap.mp hw
  exact lwT_in _ _ (List.mem_of_getElem? hi)
set_option maxRecDepth 100000 in
theorem wsL_law0_r2_in : ∀ w ∈ wsL_law0_r2, w ∈ lw_tbl := by
  have e : wsL_law0_r2 = [(1, 74), (1, 75), (1, 4), (1, 89), (1, 90), (1, 91), (1, 92), (1, 22), (1, 23), (1, 24), (1, 25), (1, 45), (1, 26), (1, 27), (1, 28), (1, 29), (1, 30), (1, 49), (1, 50), (1, 51), (1, 52), (1, 53), (1, 54), (1, 55)].filterMap (fun q => (lwT q.1)[q.2]?) := by decide +kernel
  intro w hw
  rw [e] at hw
  obtain ⟨i, -, hi⟩ := List.mem_filterMap.mp hw
  exact lwT_in _ _ (List.mem_of_getElem? hi)
set_option maxRecDepth 100000 in
theorem wsL_law0_r3_in : ∀ w ∈ wsL_law0_r3, w ∈ lw_tbl := by
  have e : wsL_law0_r3 = [(1, 56), (1, 57), (1, 58), (1, 77), (1, 78), (1, 79), (1, 80), (1, 81), (1, 203), (1, 204), (1, 0), (1, 205), (1, 206), (1, 207), (1, 208), (1, 209), (1, 210), (1, 211), (3, 37), (3, 38), (3, 39), (2, 133), (2, 176), (3, 40)].filterMap (fun q => (lwT q.1)[q.2]?) := by decide +kernel
  intro w hw
  rw [e] at hw
  obtain ⟨i, -, hi⟩ := List.mem_filterMap.mp hw
  exact lwT_in _ _ (List.mem_of_getElem? hi)
set_option maxRecDepth 100000 in
theorem wsL_law0_r4_in : ∀ w ∈ wsL_law0_r4, w ∈ lw_tbl := by
  have e : wsL_law0_r4 = [(3, 41), (3, 42), (3, 43), (3, 44), (3, 45), (2, 197), (2, 198), (2, 199), (2, 191), (2, 192), (2, 193), (2, 194), (2, 195), (2, 196), (1, 212), (1, 213), (1, 214), (1, 215), (1, 216), (1, 217), (1, 218), (1, 219), (1, 220), (1, 221)].filterMap (fun q => (lwT q.1)[q.2]?) := by decide +kernel
  intro w hw
  rw [e] at hw
  obtain ⟨i, -, hi⟩ := List.mem_filterMap.mp hw
  exact lwT_in _ _ (List.mem_of_getElem? hi)
set_option maxRecDepth 100000 in
theorem wsL_law0_r5_in : ∀ w ∈ wsL_law0_r5, w ∈ lw_tbl := by
  have e : wsL_law0_r5 = [(1, 222), (1, 223), (1, 116), (1, 8), (1, 110), (1, 111), (1, 112), (1, 113), (1, 114), (1, 115), (1, 227), (0, 4), (1, 228), (1, 193), (1, 194), (1, 231), (0, 5), (1, 232), (1, 233), (1, 235), (0, 6), (1, 236), (1, 237), (1, 239)].filterMap (fun q => (lwT q.1)[q.2]?) := by decide +kernel
  intro w hw
  rw [e] at hw
  obtain ⟨i, -, hi⟩ := List.mem_filterMap.mp hw
  exact lwT_in _ _ (List.mem_of_getElem? hi)
set_option maxRecDepth 100000 in
theorem wsL_law0_r6_in : ∀ w ∈ wsL_law0_r6, w ∈ lw_tbl := by
  have e : wsL_law0_r6 = [(0, 7), (2, 0), (2, 1), (2, 3), (0, 8), (2, 4), (2, 5), (2, 6), (2, 8), (0, 9), (2, 9), (2, 10), (2, 12), (0, 10), (2, 13), (2, 14), (2, 16), (0, 11), (2, 17), (2, 18), (2, 19), (2, 20), (2, 21), (2, 22)].filterMap (fun q => (lwT q.1)[q.2]?) := by decide +kernel
  intro w hw
  rw [e] at hw
  obtain ⟨i, -, hi⟩ := List.mem_filterMap.mp hw
  exact lwT_in _ _ (List.mem_of_getElem? hi)
set_option maxRecDepth 100000 in
theorem wsL_law0_r7_in : ∀ w ∈ wsL_law0_r7, w ∈ lw_tbl := by
  have e : wsL_law0_r7 = [(2, 23), (2, 24), (1, 9), (2, 40), (2, 41), (2, 42), (2, 43), (2, 44), (2, 47), (0, 12), (2, 48), (2, 49), (2, 51), (0, 13), (2, 52), (2, 53), (2, 54), (2, 55), (2, 56), (2, 57), (1, 10), (2, 58), (2, 59), (2, 61)].filterMap (fun q => (lwT q.1)[q.2]?) := by decide +kernel
  intro w hw
  rw [e] at hw
  obtain ⟨i, -, hi⟩ := List.mem_filterMap.mp hw
  exact lwT_in _ _ (List.mem_of_getElem? hi)
set_option maxRecDepth 100000 in
theorem wsL_law0_r8_in : ∀ w ∈ wsL_law0_r8, w ∈ lw_tbl := by
  have e : wsL_law0_r8 = [(0, 14), (2, 62), (2, 63), (2, 64), (2, 65), (2, 66), (2, 67), (2, 70), (0, 15), (2, 71), (2, 73), (2, 74), (2, 75), (2, 76), (2, 79), (0, 16), (2, 80), (2, 81), (2, 82), (2, 83), (2, 84), (2, 86), (2, 87), (2, 88)].filterMap (fun q => (lwT q.1)[q.2]?) := by decide +kernel
  intro w hw
  rw [e] at hw
  obtain ⟨i, -, hi⟩ := List.mem_filterMap.mp hw
  exact lwT_in _ _ (List.mem_of_getElem? hi)
set_option maxRecDepth 100000 in
theorem wsL_law0_r9_in : ∀ w ∈ wsL_law0_r9, w ∈ lw_tbl := by
  have e : wsL_law0_r9 = [(2, 89), (2, 92), (0, 17), (2, 93), (2, 94), (2, 96), (0, 18), (2, 97), (2, 98), (2, 100), (0, 19), (2, 101), (2, 103), (2, 104), (2, 105), (2, 108), (0, 20), (2, 109), (2, 112), (0, 21), (2, 113), (2, 114), (2, 115), (2, 116)].filterMap (fun q => (lwT q.1)[q.2]?) := by decide +kernel
  intro w hw
  rw [e] at hw
  obtain ⟨i, -, hi⟩ := List.mem_filterMap.mp hw
  exact lwT_in _ _ (List.mem_of_getElem? hi)
set_option maxRecDepth 100000 in
theorem wsL_law0_r10_in : ∀ w ∈ wsL_law0_r10, w ∈ lw_tbl := by
  have e : wsL_law0_r10 = [(2, 117), (2, 118), (2, 119), (2, 122), (0, 22), (2, 123), (2, 124), (2, 125), (2, 126), (2, 127), (2, 130), (0, 23), (2, 131), (2, 134), (2, 135), (2, 136), (2, 137), (2, 138), (2, 139), (2, 140), (2, 141), (2, 142), (2, 143), (2, 144)].filterMap (fun q => (lwT q.1)[q.2]?) := by decide +kernel
  intro w hw
  rw [e] at hw
  obtain ⟨i, -, hi⟩ := List.mem_filterMap.mp hw
  exact lwT_in _ _ (List.mem_of_getElem? hi)
set_option maxRecDepth 100000 in
theorem wsL_law0_r11_in : ∀ w ∈ wsL_law0_r11, w ∈ lw_tbl := by
  have e : wsL_law0_r11 = [(2, 148), (0, 24), (2, 149), (1, 195), (1, 196), (1, 197), (1, 198), (1, 201), (0, 3), (1, 202), (3, 46), (3, 47), (3, 48), (2, 184), (2, 185), (2, 186), (3, 34), (3, 35), (3, 36), (2, 153), (2, 154), (2, 155), (2, 156), (2, 159)].filterMap (fun q => (lwT q.1)[q.2]?) := by decide +kernel
  intro w hw
  rw [e] at hw
  obtain ⟨i, -, hi⟩ := List.mem_filterMap.mp hw
  exact lwT_in _ _ (List.mem_of_getElem? hi)
set_option maxRecDepth 100000 in
theorem wsL_law0_r12_in : ∀ w ∈ wsL_law0_r12, w ∈ lw_tbl := List.forall_mem_cons.mpr ⟨lwT_in 0 _ (List.mem_of_getElem? (i := 25) (by decide +kernel)), List.forall_mem_cons.mpr ⟨lwT_in 2 _ (List.mem_of_getElem? (i := 160) rfl), List.forall_mem_cons.mpr ⟨lwT_in 2 _ (List.mem_of_getElem? (i := 161) (by decide +kernel)), List.forall_mem_cons.mpr ⟨lwT_in 2 _ (List.mem_of_getElem? (i := 162) (by decide +kernel)), List.forall_mem_cons.mpr ⟨lwT_in 2 _ (List.mem_of_getElem? (i := 163) (by decide +kernel)), List.forall_mem_cons.mpr ⟨lwT_in 2 _ (List.mem_of_getElem? (i := 164) rfl), List.forall_mem_cons.mpr ⟨lwT_in 2 _ (List.mem_of_getElem? (i := 167) (by decide +kernel)), List.forall_mem_cons.mpr ⟨lwT_in 0 _ (List.mem_of_getElem? (i := 26) (by decide +kernel)), List.forall_mem_cons.mpr ⟨lwT_in 2 _ (List.mem_of_getElem? (i := 168) rfl), List.forall_mem_cons.mpr ⟨lwT_in 2 _ (List.mem_of_getElem? (i := 181) (by decide +kernel)), List.forall_mem_cons.mpr ⟨lwT_in 2 _ (List.mem_of_getElem? (i := 182) (by decide +kernel)), List.forall_mem_cons.mpr ⟨lwT_in 2 _ (List.mem_of_getElem? (i := 183) rfl), List.forall_mem_cons.mpr ⟨lwT_in 2 _ (List.mem_of_getElem? (i := 187) (by decide +kernel)), List.forall_mem_cons.mpr ⟨lwT_in 2 _ (List.mem_of_getElem? (i := 188) (by decide +kernel)), List.forall_mem_cons.mpr ⟨lwT_in 2 _ (List.mem_of_getElem? (i := 189) (by decide +kernel)), List.forall_mem_cons.mpr ⟨lwT_in 2 _ (List.mem_of_getElem? (i := 190) rfl), List.forall_mem_cons.mpr ⟨lwT_in 2 _ (List.mem_of_getElem? (i := 200) (by decide +kernel)), List.forall_mem_cons.mpr ⟨lwT_in 2 _ (List.mem_of_getElem? (i := 201) (by decide +kernel)), List.forall_mem_cons.mpr ⟨lwT_in 2 _ (List.mem_of_getElem? (i := 202) (by decide +kernel)), List.forall_mem_cons.mpr ⟨lwT_in 2 _ (List.mem_of_getElem? (i := 203) rfl), List.forall_mem_cons.mpr ⟨lwT_in 2 _ (List.mem_of_getElem? (i := 204) (by decide +kernel)), List.forall_mem_cons.mpr ⟨lwT_in 2 _ (List.mem_of_getElem? (i := 205) (by decide +kernel)), List.forall_mem_cons.mpr ⟨lwT_in 2 _ (List.mem_of_getElem? (i := 206) (by decide +kernel)), List.forall_mem_cons.mpr ⟨lwT_in 2 _ (List.mem_of_getElem? (i := 207) rfl), fun _ h => absurd h List.not_mem_nil⟩⟩⟩⟩⟩⟩⟩⟩⟩⟩⟩⟩⟩⟩⟩⟩⟩⟩⟩⟩⟩⟩⟩⟩
set_option maxRecDepth 100000 in
theorem wsL_law0_r13_in : ∀ w ∈ wsL_law0_r13, w ∈ lw_tbl := by
  have e : wsL_law0_r13 = [(2, 210), (0, 27), (2, 211), (2, 212), (2, 213), (2, 214), (2, 215), (2, 216), (2, 217), (2, 218), (2, 219), (2, 220), (2, 221), (2, 222), (2, 223), (2, 224), (2, 226), (0, 28), (2, 227), (2, 230), (0, 29), (2, 231), (2, 232), (2, 233)].filterMap (fun q => (lwT q.1)[q.2]?) := by decide +kernel
  intro w hw
  rw [e] at hw
  obtain ⟨i, -, hi⟩ := List.mem_filterMap.mp hw
  exact lwT_in _ _ (List.mem_of_getElem? hi)
set_option maxRecDepth 100000 in
theorem wsL_law0_r14_in : ∀ w ∈ wsL_law0_r14, w ∈ lw_tbl := by
  have e : wsL_law0_r14 = [(2, 234), (2, 235), (2, 236), (2, 237), (2, 238), (2, 239), (3, 0), (3, 1), (3, 2), (3, 3), (3, 5), (3, 6), (3, 7), (3, 8), (3, 11), (0, 30), (3, 12), (3, 14), (3, 15), (1, 10), (3, 16), (3, 17), (3, 18), (3, 19)].filterMap (fun q => (lwT q.1)[q.2]?) := by decide +kernel
  intro w hw
  rw [e] at hw
  obtain ⟨i, -, hi⟩ := List.mem_filterMap.mp hw
  exact lwT_in _ _ (List.mem_of_getElem? hi)
set_option maxRecDepth 100000 in
theorem wsL_law0_r15_in : ∀ w ∈ wsL_law0_r15, w ∈ lw_tbl := by
  have e : wsL_law0_r15 = [(3, 20), (3, 22), (3, 23), (3, 24), (3, 25), (3, 27), (3, 28), (3, 29), (3, 30), (3, 31), (3, 32), (3, 33), (1, 106), (1, 107), (1, 108), (1, 109), (1, 185), (0, 1), (1, 186), (1, 187), (1, 188), (1, 190), (0, 2), (1, 191)].filterMap (fun q => (lwT q.1)[q.2]?) := by decide +kernel
  intro w hw
  rw [e] at hw
  obtain ⟨i, -, hi⟩ := List.mem_filterMap.mp hw
  exact lwT_in _ _ (List.mem_of_getElem? hi)
set_option maxRecDepth 100000 in
theorem wsL_law0_r16_in : ∀ w ∈ wsL_law0_r16, w ∈ lw_tbl := List.forall_mem_cons.mpr ⟨lwT_in 2 _ (List.mem_of_getElem? (i := 177) (by decide +kernel)), List.forall_mem_cons.mpr ⟨lwT_in 2 _ (List.mem_of_getElem? (i := 178) (by decide +kernel)), List.forall_mem_cons.mpr ⟨lwT_in 2 _ (List.mem_of_getElem? (i := 179) rfl), List.forall_mem_cons.mpr ⟨lwT_in 2 _ (List.mem_of_getElem? (i := 150) (by decide +kernel)), List.forall_mem_cons.mpr ⟨lwT_in 2 _ (List.mem_of_getElem? (i := 151) (by decide +kernel)), List.forall_mem_cons.mpr ⟨lwT_in 2 _ (List.mem_of_getElem? (i := 152) rfl), List.forall_mem_cons.mpr ⟨lwT_in 2 _ (List.mem_of_getElem? (i := 169) (by decide +kernel)), List.forall_mem_cons.mpr ⟨lwT_in 2 _ (List.mem_of_getElem? (i := 170) (by decide +kernel)), List.forall_mem_cons.mpr ⟨lwT_in 2 _ (List.mem_of_getElem? (i := 171) rfl), List.forall_mem_cons.mpr ⟨lwT_in 2 _ (List.mem_of_getElem? (i := 172) (by decide +kernel)), List.forall_mem_cons.mpr ⟨lwT_in 2 _ (List.mem_of_getElem? (i := 173) (by decide +kernel)), List.forall_mem_cons.mpr ⟨lwT_in 2 _ (List.mem_of_getElem? (i := 174) rfl), List.forall_mem_cons.mpr ⟨lwT_in 2 _ (List.mem_of_getElem? (i := 175) (by decide +kernel)), fun _ h => absurd h List.not_mem_nil⟩⟩⟩⟩⟩⟩⟩⟩⟩⟩⟩⟩⟩
set_option maxRecDepth 100000 in
theorem wsX30_in : ∀ w ∈ wsX30, w ∈ lw_tbl := by decide +kernel
set_option maxRecDepth 100000 in
theorem wsX20_in : ∀ w ∈ wsX20, w ∈ lw_tbl := by decide +kernel
set_option maxRecDepth 100000 in
theorem wsX10_in : ∀ w ∈ wsX10, w ∈ lw_tbl := by decide +kernel
set_option maxRecDepth 100000 in
theorem wsX00_in : ∀ w ∈ wsX00, w ∈ lw_tbl := by decide +kernel
theorem wsL_law_in0 : ∀ w ∈ wsL_law0, w ∈ lw_tbl := by
  unfold wsL_law0
  exact List.forall_mem_append.mpr ⟨List.forall_mem_append.mpr ⟨List.forall_mem_append.mpr ⟨List.forall_mem_append.mpr ⟨List.forall_mem_append.mpr ⟨List.forall_mem_append.mpr ⟨wsL_law0_r1_in, List.forall_mem_append.mpr ⟨wsL_law0_r2_in, List.forall_mem_append.mpr ⟨wsL_law0_r3_in, List.forall_mem_append.mpr ⟨wsL_law0_r4_in, List.forall_mem_append.mpr ⟨wsL_law0_r5_in, List.forall_mem_append.mpr ⟨wsL_law0_r6_in, List.forall_mem_append.mpr ⟨wsL_law0_r7_in, List.forall_mem_append.mpr ⟨wsL_law0_r8_in, List.forall_mem_append.mpr ⟨wsL_law0_r9_in, List.forall_mem_append.mpr ⟨wsL_law0_r10_in, List.forall_mem_append.mpr ⟨wsL_law0_r11_in, List.forall_mem_append.mpr ⟨wsL_law0_r12_in, List.forall_mem_append.mpr ⟨wsL_law0_r13_in, List.forall_mem_append.mpr ⟨wsL_law0_r14_in, List.forall_mem_append.mpr ⟨wsL_law0_r15_in, wsL_law0_r16_in⟩⟩⟩⟩⟩⟩⟩⟩⟩⟩⟩⟩⟩⟩⟩, wsX30_in⟩, wsX20_in⟩, wsX10_in⟩, wsX00_in⟩, fun _ h => absurd h List.not_mem_nil⟩
