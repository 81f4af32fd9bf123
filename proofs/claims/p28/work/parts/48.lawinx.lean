theorem wsL_law_x0 : ∀ w ∈ (vx_atS RX3 159 "java/lang/IllegalArgumentException" ["java/lang/RuntimeException", "java/lang/Exception"]).filter goodWord, w ∈ lw_tbl := by decide +kernel
theorem wsL_law_x1 : ∀ w ∈ (vx_atS RX3 146 "java/lang/IllegalStateException" ["java/lang/RuntimeException", "java/lang/Exception"]).filter goodWord, w ∈ lw_tbl := by decide +kernel
theorem wsL_law_in : ∀ w ∈ wsL_law, w ∈ lw_tbl := fun w h => (List.mem_append.mp h).elim (fun h => (List.mem_append.mp h).elim (fun h => wsL_law_in0 w h) (fun h => wsL_law_x0 w h)) (fun h => wsL_law_x1 w h)
theorem inlX0 : ∀ w ∈ wsX00, w ∈ wsL_law := fun _ h => List.mem_append_left _ (List.mem_append_left _ (List.mem_append_left _ (List.mem_append_right _ h)))
theorem inX0 : ∀ w ∈ wsX00, w ∈ lw_tbl := fun w h => wsL_law_in w (inlX0 w h)
theorem inlX1 : ∀ w ∈ wsX10, w ∈ wsL_law := fun _ h => List.mem_append_left _ (List.mem_append_left _ (List.mem_append_left _ (List.mem_append_left _ (List.mem_append_right _ h))))
theorem inX1 : ∀ w ∈ wsX10, w ∈ lw_tbl := fun w h => wsL_law_in w (inlX1 w h)
theorem inlX2 : ∀ w ∈ wsX20, w ∈ wsL_law := fun _ h => List.mem_append_left _ (List.mem_append_left _ (List.mem_append_left _ (List.mem_append_left _ (List.mem_append_left _ (List.mem_append_right _ h)))))
theorem inX2 : ∀ w ∈ wsX20, w ∈ lw_tbl := fun w h => wsL_law_in w (inlX2 w h)
theorem inlX3 : ∀ w ∈ wsX30, w ∈ wsL_law := fun _ h => List.mem_append_left _ (List.mem_append_left _ (List.mem_append_left _ (List.mem_append_left _ (List.mem_append_left _ (List.mem_append_left _ (List.mem_append_right _ h))))))
theorem inX3 : ∀ w ∈ wsX30, w ∈ lw_tbl := fun w h => wsL_law_in w (inlX3 w h)
theorem giS_c : GoodIn wsL_law [Cond.code yL_isSo cL_isSo 20 (some .boolean)] := goodIn_sub (List.forall_mem_cons.mpr ⟨List.mem_of_getElem? (i := 275) rfl, fun _ h => absurd h List.not_mem_nil⟩) (by decide +kernel)
set_option maxRecDepth 100000 in
theorem giS_r1 : GoodIn wsL_law wsL_isSo_r1 := goodIn_r _ [7, 253, 254, 58, 255, 276, 277, 278, 2, 279, 19, 193, 18, 194, 195, 196, 197, 198, 199, 200, 201, 202, 203, 34] (by decide +kernel) (by decide +kernel)
set_option maxRecDepth 100000 in
theorem giS_r2 : GoodIn wsL_law wsL_isSo_r2 := goodIn_r _ [204, 205, 109, 110, 80, 81, 82, 70, 83, 84, 85, 77, 78, 79, 266, 267, 268, 269, 100, 101, 102, 103, 104, 105] (by decide +kernel) (by decide +kernel)
set_option maxRecDepth 100000 in
theorem giS_r3 : GoodIn wsL_law wsL_isSo_r3 := goodIn_r _ [98, 99, 270, 271, 272, 37, 259, 260, 261, 262, 263, 264, 265, 36, 280, 281, 282, 283, 23, 152, 22, 153, 154, 155] (by decide +kernel) (by decide +kernel)
set_option maxRecDepth 100000 in
theorem giS_r4 : GoodIn wsL_law wsL_isSo_r4 := goodIn_r _ [156, 157, 158, 44, 48, 159, 160, 161, 162, 163, 164, 165, 166, 167, 168, 169, 45, 284, 285, 286, 287, 288, 289, 290] (by decide +kernel) (by decide +kernel)
set_option maxRecDepth 100000 in
theorem giS_r5 : GoodIn wsL_law wsL_isSo_r5 := goodIn_r _ [46, 50, 291, 292, 293, 294, 207, 208, 209, 47, 49, 295, 296, 297, 298, 299, 300, 301, 302, 303, 304, 305, 306, 206] (by decide +kernel) (by decide +kernel)
set_option maxRecDepth 100000 in
theorem giS_r6 : GoodIn wsL_law wsL_isSo_r6 := goodIn_r _ [307, 308, 309, 213, 214, 215, 216, 217, 218, 310, 311, 312, 313, 28, 314, 315, 316, 317, 106, 107, 108, 86, 87, 88] (by decide +kernel) (by decide +kernel)
set_option maxRecDepth 100000 in
theorem giS_r7 : GoodIn wsL_law wsL_isSo_r7 := goodIn_r _ [89, 90, 69, 91, 92, 93, 94, 95, 96, 97, 111, 112, 113, 114, 115, 116, 117, 118, 119, 120, 121, 38, 122, 123] (by decide +kernel) (by decide +kernel)
set_option maxRecDepth 100000 in
theorem giS_r8 : GoodIn wsL_law wsL_isSo_r8 := goodIn_r _ [124, 125, 126, 127, 128, 129, 130, 131, 132, 133, 134, 135, 136, 137, 138, 139, 140, 141, 142, 143, 144, 145, 146, 147] (by decide +kernel) (by decide +kernel)
set_option maxRecDepth 100000 in
theorem giS_r9 : GoodIn wsL_law wsL_isSo_r9 := goodIn_r _ [148, 149, 150, 151, 170, 171, 172, 173, 174, 27, 175, 26, 176, 177, 54, 178, 179, 180, 181, 182, 183, 184, 55, 185] (by decide +kernel) (by decide +kernel)
set_option maxRecDepth 100000 in
theorem giS_r10 : GoodIn wsL_law wsL_isSo_r10 := goodIn_r _ [186, 187, 188, 30, 29, 189, 190, 191, 192, 210, 211, 212, 219, 220, 221, 222, 223, 224, 225, 226, 227, 228, 318, 319] (by decide +kernel) (by decide +kernel)
set_option maxRecDepth 100000 in
theorem giS_r11 : GoodIn wsL_law wsL_isSo_r11 := goodIn_r _ [320, 321, 322, 323, 324, 325, 326, 327, 328, 329, 330, 331, 332, 333, 334, 335, 336, 337, 338, 339, 340, 341, 342, 343] (by decide +kernel) (by decide +kernel)
set_option maxRecDepth 100000 in
theorem giS_r12 : GoodIn wsL_law wsL_isSo_r12 := goodIn_r _ [344, 345, 346, 347, 256, 257, 258] (by decide +kernel) (by decide +kernel)
theorem giS_X3 : GoodIn wsL_law wsX30 := goodIn_sub inlX3 (by decide +kernel)
theorem giS_X2 : GoodIn wsL_law wsX20 := goodIn_sub inlX2 (by decide +kernel)
theorem giS_X1 : GoodIn wsL_law wsX10 := goodIn_sub inlX1 (by decide +kernel)
theorem giS_X0 : GoodIn wsL_law wsX00 := goodIn_sub inlX0 (by decide +kernel)
theorem giS_v1 : GoodIn wsL_law ((vx_atS RX3 159 "java/lang/IllegalArgumentException" ["java/lang/RuntimeException", "java/lang/Exception"]).filter goodWord) := goodIn_sub (fun _ h => List.mem_append_left _ (List.mem_append_right _ h)) (by decide +kernel)
theorem giS_v2 : GoodIn wsL_law ((vx_atS RX3 146 "java/lang/IllegalStateException" ["java/lang/RuntimeException", "java/lang/Exception"]).filter goodWord) := goodIn_sub (fun _ h => List.mem_append_right _ h) (by decide +kernel)
theorem ggL_law_L_isSo : GoodIn wsL_law wsL_isSo := goodIn_app giS_c (goodIn_app (goodIn_app (goodIn_app (goodIn_app (goodIn_app (goodIn_app (goodIn_app giS_r1 (goodIn_app giS_r2 (goodIn_app giS_r3 (goodIn_app giS_r4 (goodIn_app giS_r5 (goodIn_app giS_r6 (goodIn_app giS_r7 (goodIn_app giS_r8 (goodIn_app giS_r9 (goodIn_app giS_r10 (goodIn_app giS_r11 (giS_r12)))))))))))) giS_X3) giS_X2) giS_X1) giS_X0) giS_v1) giS_v2)
theorem gL_law_L_isSo : GoodIn wsL_law (va_wsS RL 160 yL_isSo wsL_isSo) := goodIn_app (goodIn_of _ (by decide +kernel)) ggL_law_L_isSo
