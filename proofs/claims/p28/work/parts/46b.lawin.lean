set_option maxRecDepth 100000 in
theorem wsL_law0_r7_in : ∀ w ∈ wsL_law0_r7, w ∈ lw_tbl := by
  have e : wsL_law0_r7 = [294, 295, 40, 311, 312, 313, 314, 315, 318, 12, 319, 320, 322, 13, 323, 324, 325, 326, 327, 328, 41, 329, 330, 332].filterMap (fun i => lw_tbl[i]?) := by decide +kernel
  intro w hw
  rw [e] at hw
  obtain ⟨i, -, hi⟩ := List.mem_filterMap.mp hw
  exact List.mem_of_getElem? hi
set_option maxRecDepth 100000 in
theorem wsL_law0_r8_in : ∀ w ∈ wsL_law0_r8, w ∈ lw_tbl := by
  have e : wsL_law0_r8 = [14, 333, 334, 335, 336, 337, 338, 341, 15, 342, 344, 345, 346, 347, 350, 16, 351, 352, 353, 354, 355, 357, 358, 359].filterMap (fun i => lw_tbl[i]?) := by decide +kernel
  intro w hw
  rw [e] at hw
  obtain ⟨i, -, hi⟩ := List.mem_filterMap.mp hw
  exact List.mem_of_getElem? hi
set_option maxRecDepth 100000 in
theorem wsL_law0_r9_in : ∀ w ∈ wsL_law0_r9, w ∈ lw_tbl := by
  have e : wsL_law0_r9 = [360, 363, 17, 364, 365, 367, 18, 368, 369, 371, 19, 372, 374, 375, 376, 379, 20, 380, 383, 21, 384, 385, 386, 387].filterMap (fun i => lw_tbl[i]?) := by decide +kernel
  intro w hw
  rw [e] at hw
  obtain ⟨i, -, hi⟩ := List.mem_filterMap.mp hw
  exact List.mem_of_getElem? hi
set_option maxRecDepth 100000 in
theorem wsL_law0_r10_in : ∀ w ∈ wsL_law0_r10, w ∈ lw_tbl := by
  have e : wsL_law0_r10 = [388, 389, 390, 393, 22, 394, 395, 396, 397, 398, 401, 23, 402, 405, 406, 407, 408, 409, 410, 411, 412, 413, 414, 415].filterMap (fun i => lw_tbl[i]?) := by decide +kernel
  intro w hw
  rw [e] at hw
  obtain ⟨i, -, hi⟩ := List.mem_filterMap.mp hw
  exact List.mem_of_getElem? hi
set_option maxRecDepth 100000 in
theorem wsL_law0_r11_in : ∀ w ∈ wsL_law0_r11, w ∈ lw_tbl := by
  have e : wsL_law0_r11 = [419, 24, 420, 226, 227, 228, 229, 232, 3, 233, 557, 558, 559, 455, 456, 457, 545, 546, 547, 424, 425, 426, 427, 430].filterMap (fun i => lw_tbl[i]?) := by decide +kernel
  intro w hw
  rw [e] at hw
  obtain ⟨i, -, hi⟩ := List.mem_filterMap.mp hw
  exact List.mem_of_getElem? hi
