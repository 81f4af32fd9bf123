set_option maxRecDepth 100000 in
theorem wsL_law0_r1_in : ∀ w ∈ wsL_law0_r1, w ∈ lw_tbl := by
  have e : wsL_law0_r1 = [42, 43, 32, 75, 451, 560, 561, 403, 562, 563, 44, 45, 46, 47, 48, 49, 50, 51, 33, 118, 77, 78, 34, 119].filterMap (fun i => lw_tbl[i]?) := by decide +kernel
  intro w hw
  rw [e] at hw
  obtain ⟨i, -, hi⟩ := List.mem_filterMap.mp hw
  exact List.mem_of_getElem? hi
set_option maxRecDepth 100000 in
theorem wsL_law0_r2_in : ∀ w ∈ wsL_law0_r2, w ∈ lw_tbl := by
  have e : wsL_law0_r2 = [105, 106, 35, 120, 121, 122, 123, 53, 54, 55, 56, 76, 57, 58, 59, 60, 61, 80, 81, 82, 83, 84, 85, 86].filterMap (fun i => lw_tbl[i]?) := by decide +kernel
  intro w hw
  rw [e] at hw
  obtain ⟨i, -, hi⟩ := List.mem_filterMap.mp hw
  exact List.mem_of_getElem? hi
set_option maxRecDepth 100000 in
theorem wsL_law0_r3_in : ∀ w ∈ wsL_law0_r3, w ∈ lw_tbl := by
  have e : wsL_law0_r3 = [87, 88, 89, 108, 109, 110, 111, 112, 234, 235, 31, 236, 237, 238, 239, 240, 241, 242, 548, 549, 550, 404, 447, 551].filterMap (fun i => lw_tbl[i]?) := by decide +kernel
  intro w hw
  rw [e] at hw
  obtain ⟨i, -, hi⟩ := List.mem_filterMap.mp hw
  exact List.mem_of_getElem? hi
set_option maxRecDepth 100000 in
theorem wsL_law0_r4_in : ∀ w ∈ wsL_law0_r4, w ∈ lw_tbl := by
  have e : wsL_law0_r4 = [552, 553, 554, 555, 556, 468, 469, 470, 462, 463, 464, 465, 466, 467, 243, 244, 245, 246, 247, 248, 249, 250, 251, 252].filterMap (fun i => lw_tbl[i]?) := by decide +kernel
  intro w hw
  rw [e] at hw
  obtain ⟨i, -, hi⟩ := List.mem_filterMap.mp hw
  exact List.mem_of_getElem? hi
set_option maxRecDepth 100000 in
theorem wsL_law0_r5_in : ∀ w ∈ wsL_law0_r5, w ∈ lw_tbl := by
  have e : wsL_law0_r5 = [253, 254, 147, 39, 141, 142, 143, 144, 145, 146, 258, 4, 259, 224, 225, 262, 5, 263, 264, 266, 6, 267, 268, 270].filterMap (fun i => lw_tbl[i]?) := by decide +kernel
  intro w hw
  rw [e] at hw
  obtain ⟨i, -, hi⟩ := List.mem_filterMap.mp hw
  exact List.mem_of_getElem? hi
set_option maxRecDepth 100000 in
theorem wsL_law0_r6_in : ∀ w ∈ wsL_law0_r6, w ∈ lw_tbl := by
  have e : wsL_law0_r6 = [7, 271, 272, 274, 8, 275, 276, 277, 279, 9, 280, 281, 283, 10, 284, 285, 287, 11, 288, 289, 290, 291, 292, 293].filterMap (fun i => lw_tbl[i]?) := by decide +kernel
  intro w hw
  rw [e] at hw
  obtain ⟨i, -, hi⟩ := List.mem_filterMap.mp hw
  exact List.mem_of_getElem? hi
