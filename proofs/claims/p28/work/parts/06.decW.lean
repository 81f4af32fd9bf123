set_option maxRecDepth 20000 in
theorem ggL_law_X3_init : GoodIn wsL_law wsX3_init := goodIn_r _ [12, 13, 14, 15, 16, 17, 18, 19, 20, 21, 22, 23, 24, 25, 26, 27, 3, 28, 29, 30, 31, 32, 33, 34, 35, 36, 37, 38, 39, 40, 41, 42, 43, 44, 45, 46, 47, 48, 49, 50, 51, 52, 53, 54, 55, 379, 380, 381, 382, 383, 384, 373, 374, 375, 376, 377, 378, 385, 386, 387, 388, 389, 390, 391, 392, 393] (by decide +kernel) (by decide +kernel)
set_option maxRecDepth 20000 in
theorem gL_law_X3_init : GoodIn wsL_law (wsX3_init) := ggL_law_X3_init
set_option maxRecDepth 20000 in
theorem ggL_law_L_cell : GoodIn wsL_law wsL_cell := goodIn_r _ [59, 60, 61] (by decide +kernel) (by decide +kernel)
set_option maxRecDepth 20000 in
theorem gL_law_L_cell : GoodIn wsL_law (va_wsS RL 137 yL_cell wsL_cell) := goodIn_app (goodIn_of _ (by decide +kernel)) ggL_law_L_cell
set_option maxRecDepth 20000 in
theorem ggL_law_L_low : GoodIn wsL_law wsL_low := goodIn_r _ [64, 65] (by decide +kernel) (by decide +kernel)
set_option maxRecDepth 20000 in
theorem gL_law_L_low : GoodIn wsL_law (va_wsS RL 141 yL_low wsL_low) := goodIn_app (goodIn_of _ (by decide +kernel)) ggL_law_L_low
set_option maxRecDepth 20000 in
theorem ggL_law_L_due : GoodIn wsL_law wsL_due := goodIn_r _ [68, 7, 69, 70, 71, 72, 58, 73, 74, 75, 76, 77, 78, 79, 80, 81, 82, 83, 84, 85] (by decide +kernel) (by decide +kernel)
set_option maxRecDepth 20000 in
theorem gL_law_L_due : GoodIn wsL_law (va_wsS RL 144 yL_due wsL_due) := goodIn_app (goodIn_of _ (by decide +kernel)) ggL_law_L_due
set_option maxRecDepth 20000 in
theorem ggL_law_L_calls : GoodIn wsL_law wsL_calls := goodIn_ca (goodIn_ca (goodIn_r _ [88, 89, 90, 7, 69, 91, 92, 93, 2, 94, 19, 95, 96, 97, 98, 99, 100, 101, 102, 103, 104, 105, 106, 18, 107, 108, 34, 109, 110, 111, 112, 113, 114, 115, 116, 117, 118, 119, 120, 121, 38, 122, 123, 124, 125, 126, 127, 128, 129, 130, 131, 132, 133, 134, 135, 136, 137, 138, 36, 37, 139, 140, 141, 142, 143, 144, 145, 146, 147, 148, 149, 150, 151, 28, 23, 152, 22, 153, 154, 155, 156, 157, 158, 44, 48, 159, 160, 161, 162, 163, 164, 165, 166, 167, 168, 169, 45, 170, 171, 172, 173, 174, 27, 175, 26, 176, 177, 54, 178, 179, 180, 181, 182, 183, 184, 55, 185, 186, 187, 188, 30, 29, 189, 190, 191, 192, 193, 194, 195, 196, 197, 198, 199, 200, 201, 202, 203, 204, 205, 206, 207, 208, 209, 47, 49, 210, 211, 212, 213, 214, 215, 216, 217, 218, 219, 220, 221, 46, 222, 223, 224, 225, 226, 227, 228, 373, 374, 375, 376, 377, 378, 379, 380, 381, 382, 383, 384, 385, 386, 387, 388, 389, 390, 391, 392, 393] (by decide +kernel) (by decide +kernel)) (goodIn_sub (fun _ h => List.mem_append_left _ (List.mem_append_right _ h)) (by decide +kernel))) (goodIn_sub (fun _ h => List.mem_append_right _ h) (by decide +kernel))
set_option maxRecDepth 20000 in
theorem gL_law_L_calls : GoodIn wsL_law (va_wsS RL 103 yL_calls wsL_calls) := goodIn_app (goodIn_of _ (by decide +kernel)) ggL_law_L_calls
set_option maxRecDepth 20000 in
theorem ggL_law_X3_shareByRounds : GoodIn wsL_law wsX3_shareByRounds := goodIn_ca (goodIn_r _ [351, 19, 100, 101, 2, 102, 103, 104, 105, 98, 99, 352, 18, 353, 354, 39, 355, 356, 357, 358, 359, 34, 40, 109, 110, 373, 374, 375, 376, 377, 378, 379, 380, 381, 382, 383, 384] (by decide +kernel) (by decide +kernel)) (goodIn_sub (fun _ h => List.mem_append_left _ (List.mem_append_right _ h)) (by decide +kernel))
set_option maxRecDepth 20000 in
theorem gL_law_X3_shareByRounds : GoodIn wsL_law (wsV RL 164 RX3 yX3_shareByRounds wsX3_shareByRounds) := goodIn_app (goodIn_of _ (by decide +kernel)) ggL_law_X3_shareByRounds
set_option maxRecDepth 20000 in
theorem ggL_law_L_rounds : GoodIn wsL_law wsL_rounds := goodIn_r _ [362, 4] (by decide +kernel) (by decide +kernel)
set_option maxRecDepth 20000 in
theorem gL_law_L_rounds : GoodIn wsL_law (va_wsS RL 167 yL_rounds wsL_rounds) := goodIn_app (goodIn_of _ (by decide +kernel)) ggL_law_L_rounds
set_option maxRecDepth 20000 in
theorem ggL_law_L_shares : GoodIn wsL_law wsL_shares := goodIn_ca (goodIn_r _ [365, 70, 259, 260, 261, 2, 262, 19, 100, 101, 102, 103, 104, 105, 98, 99, 263, 18, 264, 265, 36, 266, 267, 268, 269, 270, 271, 272, 37, 366, 367, 58, 368, 369, 370, 371, 372, 373, 374, 375, 376, 377, 378, 379, 380, 381, 382, 383, 384] (by decide +kernel) (by decide +kernel)) (goodIn_sub (fun _ h => List.mem_append_left _ (List.mem_append_right _ h)) (by decide +kernel))
set_option maxRecDepth 20000 in
theorem gL_law_L_shares : GoodIn wsL_law (va_wsS RL 173 yL_shares wsL_shares) := goodIn_app (goodIn_of _ (by decide +kernel)) ggL_law_L_shares
theorem dL_law_0 : decode cL_law 0 = .ok (.new 11, 3) := by decide +kernel
theorem dL_law_3 : decode cL_law 3 = .ok (.dup, 1) := by decide +kernel
theorem dL_law_4 : decode cL_law 4 = .ok (.invokespecial 136, 3) := by decide +kernel
theorem dL_law_7 : decode cL_law 7 = .ok (.astore_n 1, 1) := by decide +kernel
theorem dL_law_8 : decode cL_law 8 = .ok (.bipush 36, 2) := by decide +kernel
theorem dL_law_10 : decode cL_law 10 = .ok (.newarray .int, 2) := by decide +kernel
theorem dL_law_12 : decode cL_law 12 = .ok (.astore_n 2, 1) := by decide +kernel
theorem dL_law_13 : decode cL_law 13 = .ok (.bipush 36, 2) := by decide +kernel
theorem dL_law_15 : decode cL_law 15 = .ok (.newarray .int, 2) := by decide +kernel
theorem dL_law_17 : decode cL_law 17 = .ok (.astore_n 3, 1) := by decide +kernel
theorem dL_law_18 : decode cL_law 18 = .ok (.bipush 36, 2) := by decide +kernel
theorem dL_law_20 : decode cL_law 20 = .ok (.newarray .int, 2) := by decide +kernel
theorem dL_law_22 : decode cL_law 22 = .ok (.astore 4, 2) := by decide +kernel
theorem dL_law_24 : decode cL_law 24 = .ok (.bipush 42, 2) := by decide +kernel
theorem dL_law_26 : decode cL_law 26 = .ok (.newarray .int, 2) := by decide +kernel
theorem dL_law_28 : decode cL_law 28 = .ok (.astore 5, 2) := by decide +kernel
theorem dL_law_30 : decode cL_law 30 = .ok (.bipush 18, 2) := by decide +kernel
theorem dL_law_32 : decode cL_law 32 = .ok (.newarray .int, 2) := by decide +kernel
theorem dL_law_34 : decode cL_law 34 = .ok (.astore 6, 2) := by decide +kernel
theorem dL_law_36 : decode cL_law 36 = .ok (.iconst 1, 1) := by decide +kernel
theorem dL_law_37 : decode cL_law 37 = .ok (.newarray .int, 2) := by decide +kernel
theorem dL_law_39 : decode cL_law 39 = .ok (.astore 7, 2) := by decide +kernel
theorem dL_law_41 : decode cL_law 41 = .ok (.bipush 6, 2) := by decide +kernel
theorem dL_law_43 : decode cL_law 43 = .ok (.newarray .int, 2) := by decide +kernel
theorem dL_law_45 : decode cL_law 45 = .ok (.astore 8, 2) := by decide +kernel
theorem dL_law_47 : decode cL_law 47 = .ok (.bipush 6, 2) := by decide +kernel
theorem dL_law_49 : decode cL_law 49 = .ok (.newarray .int, 2) := by decide +kernel
theorem dL_law_51 : decode cL_law 51 = .ok (.astore 9, 2) := by decide +kernel
theorem dL_law_53 : decode cL_law 53 = .ok (.iconst 0, 1) := by decide +kernel
theorem dL_law_54 : decode cL_law 54 = .ok (.istore 10, 2) := by decide +kernel
theorem dL_law_56 : decode cL_law 56 = .ok (.iload 10, 2) := by decide +kernel
theorem dL_law_58 : decode cL_law 58 = .ok (.bipush 6, 2) := by decide +kernel
theorem dL_law_60 : decode cL_law 60 = .ok (.if_icmp .ge 46, 3) := by decide +kernel
theorem dL_law_63 : decode cL_law 63 = .ok (.aload 5, 2) := by decide +kernel
theorem dL_law_65 : decode cL_law 65 = .ok (.bipush 7, 2) := by decide +kernel
theorem dL_law_67 : decode cL_law 67 = .ok (.iload 10, 2) := by decide +kernel
theorem dL_law_69 : decode cL_law 69 = .ok (.imul, 1) := by decide +kernel
theorem dL_law_70 : decode cL_law 70 = .ok (.iconst 4, 1) := by decide +kernel
theorem dL_law_71 : decode cL_law 71 = .ok (.iadd, 1) := by decide +kernel
theorem dL_law_72 : decode cL_law 72 = .ok (.bipush 100, 2) := by decide +kernel
theorem dL_law_74 : decode cL_law 74 = .ok (.iastore, 1) := by decide +kernel
theorem dL_law_75 : decode cL_law 75 = .ok (.aload 5, 2) := by decide +kernel
theorem dL_law_77 : decode cL_law 77 = .ok (.bipush 7, 2) := by decide +kernel
theorem dL_law_79 : decode cL_law 79 = .ok (.iload 10, 2) := by decide +kernel
theorem dL_law_81 : decode cL_law 81 = .ok (.imul, 1) := by decide +kernel
theorem dL_law_82 : decode cL_law 82 = .ok (.iconst 5, 1) := by decide +kernel
theorem dL_law_83 : decode cL_law 83 = .ok (.iadd, 1) := by decide +kernel
theorem dL_law_84 : decode cL_law 84 = .ok (.bipush 100, 2) := by decide +kernel
theorem dL_law_86 : decode cL_law 86 = .ok (.iastore, 1) := by decide +kernel
theorem dL_law_87 : decode cL_law 87 = .ok (.aload 5, 2) := by decide +kernel
theorem dL_law_89 : decode cL_law 89 = .ok (.bipush 7, 2) := by decide +kernel
theorem dL_law_91 : decode cL_law 91 = .ok (.iload 10, 2) := by decide +kernel
theorem dL_law_93 : decode cL_law 93 = .ok (.imul, 1) := by decide +kernel
theorem dL_law_94 : decode cL_law 94 = .ok (.bipush 6, 2) := by decide +kernel
theorem dL_law_96 : decode cL_law 96 = .ok (.iadd, 1) := by decide +kernel
theorem dL_law_97 : decode cL_law 97 = .ok (.bipush 100, 2) := by decide +kernel
theorem dL_law_99 : decode cL_law 99 = .ok (.iastore, 1) := by decide +kernel
theorem dL_law_100 : decode cL_law 100 = .ok (.iinc 10 1, 3) := by decide +kernel
theorem dL_law_103 : decode cL_law 103 = .ok (.goto (-47), 3) := by decide +kernel
theorem dL_law_106 : decode cL_law 106 = .ok (.iconst 0, 1) := by decide +kernel
theorem dL_law_107 : decode cL_law 107 = .ok (.istore 10, 2) := by decide +kernel
theorem dL_law_109 : decode cL_law 109 = .ok (.iload 10, 2) := by decide +kernel
theorem dL_law_111 : decode cL_law 111 = .ok (.bipush 90, 2) := by decide +kernel
theorem dL_law_113 : decode cL_law 113 = .ok (.if_icmp .ge 898, 3) := by decide +kernel
theorem dL_law_116 : decode cL_law 116 = .ok (.aload_n 0, 1) := by decide +kernel
theorem dL_law_117 : decode cL_law 117 = .ok (.iload 10, 2) := by decide +kernel
theorem dL_law_119 : decode cL_law 119 = .ok (.invokestatic 137, 3) := by decide +kernel
theorem dL_law_122 : decode cL_law 122 = .ok (.istore 11, 2) := by decide +kernel
theorem dL_law_124 : decode cL_law 124 = .ok (.iload 11, 2) := by decide +kernel
theorem dL_law_126 : decode cL_law 126 = .ok (.bipush 20, 2) := by decide +kernel
theorem dL_law_128 : decode cL_law 128 = .ok (.invokestatic 141, 3) := by decide +kernel
theorem dL_law_131 : decode cL_law 131 = .ok (.istore 12, 2) := by decide +kernel
theorem dL_law_133 : decode cL_law 133 = .ok (.iload 11, 2) := by decide +kernel
theorem dL_law_135 : decode cL_law 135 = .ok (.iconst 4, 1) := by decide +kernel
theorem dL_law_136 : decode cL_law 136 = .ok (.ishr, 1) := by decide +kernel
theorem dL_law_137 : decode cL_law 137 = .ok (.bipush 6, 2) := by decide +kernel
theorem dL_law_139 : decode cL_law 139 = .ok (.invokestatic 141, 3) := by decide +kernel
theorem dL_law_142 : decode cL_law 142 = .ok (.istore 13, 2) := by decide +kernel
theorem dL_law_144 : decode cL_law 144 = .ok (.iload 11, 2) := by decide +kernel
theorem dL_law_146 : decode cL_law 146 = .ok (.bipush 7, 2) := by decide +kernel
theorem dL_law_148 : decode cL_law 148 = .ok (.ishr, 1) := by decide +kernel
theorem dL_law_149 : decode cL_law 149 = .ok (.bipush 6, 2) := by decide +kernel
theorem dL_law_151 : decode cL_law 151 = .ok (.invokestatic 141, 3) := by decide +kernel
theorem dL_law_154 : decode cL_law 154 = .ok (.istore 14, 2) := by decide +kernel
theorem dL_law_156 : decode cL_law 156 = .ok (.iconst 0, 1) := by decide +kernel
theorem dL_law_157 : decode cL_law 157 = .ok (.istore 15, 2) := by decide +kernel
theorem dL_law_159 : decode cL_law 159 = .ok (.iconst 0, 1) := by decide +kernel
theorem dL_law_160 : decode cL_law 160 = .ok (.istore 16, 2) := by decide +kernel
theorem dL_law_162 : decode cL_law 162 = .ok (.iload 12, 2) := by decide +kernel
theorem dL_law_164 : decode cL_law 164 = .ok (.bipush 9, 2) := by decide +kernel
theorem dL_law_166 : decode cL_law 166 = .ok (.if_icmp .ge 114, 3) := by decide +kernel
theorem dL_law_169 : decode cL_law 169 = .ok (.iload 12, 2) := by decide +kernel
theorem dL_law_171 : decode cL_law 171 = .ok (.bipush 6, 2) := by decide +kernel
theorem dL_law_173 : decode cL_law 173 = .ok (.if_icmp .ge 7, 3) := by decide +kernel
theorem dL_law_176 : decode cL_law 176 = .ok (.iconst 0, 1) := by decide +kernel
theorem dL_law_177 : decode cL_law 177 = .ok (.goto 4, 3) := by decide +kernel
theorem dL_law_180 : decode cL_law 180 = .ok (.iconst 1, 1) := by decide +kernel
theorem dL_law_181 : decode cL_law 181 = .ok (.istore 17, 2) := by decide +kernel
theorem dL_law_183 : decode cL_law 183 = .ok (.iload 11, 2) := by decide +kernel
theorem dL_law_185 : decode cL_law 185 = .ok (.bipush 12, 2) := by decide +kernel
theorem dL_law_187 : decode cL_law 187 = .ok (.ishr, 1) := by decide +kernel
theorem dL_law_188 : decode cL_law 188 = .ok (.iconst 5, 1) := by decide +kernel
theorem dL_law_189 : decode cL_law 189 = .ok (.invokestatic 141, 3) := by decide +kernel
theorem dL_law_192 : decode cL_law 192 = .ok (.ifCond .ne 8, 3) := by decide +kernel
theorem dL_law_195 : decode cL_law 195 = .ok (.bipush 100, 2) := by decide +kernel
theorem dL_law_197 : decode cL_law 197 = .ok (.goto 30, 3) := by decide +kernel
theorem dL_law_200 : decode cL_law 200 = .ok (.iload 11, 2) := by decide +kernel
theorem dL_law_202 : decode cL_law 202 = .ok (.bipush 10, 2) := by decide +kernel
theorem dL_law_204 : decode cL_law 204 = .ok (.ishr, 1) := by decide +kernel
theorem dL_law_205 : decode cL_law 205 = .ok (.iload 11, 2) := by decide +kernel
theorem dL_law_207 : decode cL_law 207 = .ok (.bipush 16, 2) := by decide +kernel
theorem dL_law_209 : decode cL_law 209 = .ok (.ishr, 1) := by decide +kernel
theorem dL_law_210 : decode cL_law 210 = .ok (.iconst 2, 1) := by decide +kernel
theorem dL_law_211 : decode cL_law 211 = .ok (.invokestatic 141, 3) := by decide +kernel
theorem dL_law_214 : decode cL_law 214 = .ok (.ifCond .ne 8, 3) := by decide +kernel
theorem dL_law_217 : decode cL_law 217 = .ok (.bipush 101, 2) := by decide +kernel
theorem dL_law_219 : decode cL_law 219 = .ok (.goto 5, 3) := by decide +kernel
theorem dL_law_222 : decode cL_law 222 = .ok (.bipush 40, 2) := by decide +kernel
theorem dL_law_224 : decode cL_law 224 = .ok (.invokestatic 141, 3) := by decide +kernel
theorem dL_law_227 : decode cL_law 227 = .ok (.istore 18, 2) := by decide +kernel
theorem dL_law_229 : decode cL_law 229 = .ok (.iload 11, 2) := by decide +kernel
theorem dL_law_231 : decode cL_law 231 = .ok (.iconst 3, 1) := by decide +kernel
theorem dL_law_232 : decode cL_law 232 = .ok (.ishr, 1) := by decide +kernel
theorem dL_law_233 : decode cL_law 233 = .ok (.sipush 2000, 3) := by decide +kernel
theorem dL_law_236 : decode cL_law 236 = .ok (.invokestatic 141, 3) := by decide +kernel
theorem dL_law_239 : decode cL_law 239 = .ok (.istore 19, 2) := by decide +kernel
theorem dL_law_241 : decode cL_law 241 = .ok (.iload 17, 2) := by decide +kernel
theorem dL_law_243 : decode cL_law 243 = .ok (.iload 13, 2) := by decide +kernel
theorem dL_law_245 : decode cL_law 245 = .ok (.iload 14, 2) := by decide +kernel
theorem dL_law_247 : decode cL_law 247 = .ok (.iload 18, 2) := by decide +kernel
theorem dL_law_249 : decode cL_law 249 = .ok (.iload 19, 2) := by decide +kernel
theorem dL_law_251 : decode cL_law 251 = .ok (.aload_n 2, 1) := by decide +kernel
theorem dL_law_252 : decode cL_law 252 = .ok (.aload 5, 2) := by decide +kernel
theorem dL_law_254 : decode cL_law 254 = .ok (.aload 6, 2) := by decide +kernel
theorem dL_law_256 : decode cL_law 256 = .ok (.invokestatic 144, 3) := by decide +kernel
theorem dL_law_259 : decode cL_law 259 = .ok (.istore 15, 2) := by decide +kernel
theorem dL_law_261 : decode cL_law 261 = .ok (.aload_n 1, 1) := by decide +kernel
theorem dL_law_262 : decode cL_law 262 = .ok (.iload 17, 2) := by decide +kernel
theorem dL_law_264 : decode cL_law 264 = .ok (.iload 13, 2) := by decide +kernel
theorem dL_law_266 : decode cL_law 266 = .ok (.iload 14, 2) := by decide +kernel
theorem dL_law_268 : decode cL_law 268 = .ok (.iload 18, 2) := by decide +kernel
theorem dL_law_270 : decode cL_law 270 = .ok (.iload 19, 2) := by decide +kernel
theorem dL_law_272 : decode cL_law 272 = .ok (.invokestatic 103, 3) := by decide +kernel
theorem dL_law_275 : decode cL_law 275 = .ok (.istore 16, 2) := by decide +kernel
theorem dL_law_277 : decode cL_law 277 = .ok (.goto 638, 3) := by decide +kernel
theorem dL_law_280 : decode cL_law 280 = .ok (.iload 12, 2) := by decide +kernel
theorem dL_law_282 : decode cL_law 282 = .ok (.bipush 13, 2) := by decide +kernel
theorem dL_law_284 : decode cL_law 284 = .ok (.if_icmp .ge 286, 3) := by decide +kernel
theorem dL_law_287 : decode cL_law 287 = .ok (.iload 11, 2) := by decide +kernel
theorem dL_law_289 : decode cL_law 289 = .ok (.bipush 15, 2) := by decide +kernel
theorem dL_law_291 : decode cL_law 291 = .ok (.ishr, 1) := by decide +kernel
theorem dL_law_292 : decode cL_law 292 = .ok (.iconst 3, 1) := by decide +kernel
theorem dL_law_293 : decode cL_law 293 = .ok (.invokestatic 141, 3) := by decide +kernel
theorem dL_law_296 : decode cL_law 296 = .ok (.ifCond .ne 8, 3) := by decide +kernel
theorem dL_law_299 : decode cL_law 299 = .ok (.ldc 70, 2) := by decide +kernel
theorem dL_law_301 : decode cL_law 301 = .ok (.goto 6, 3) := by decide +kernel
theorem dL_law_304 : decode cL_law 304 = .ok (.sipush 2000, 3) := by decide +kernel
theorem dL_law_307 : decode cL_law 307 = .ok (.istore 17, 2) := by decide +kernel
theorem dL_law_309 : decode cL_law 309 = .ok (.iload 11, 2) := by decide +kernel
theorem dL_law_311 : decode cL_law 311 = .ok (.bipush 7, 2) := by decide +kernel
theorem dL_law_313 : decode cL_law 313 = .ok (.ishr, 1) := by decide +kernel
theorem dL_law_314 : decode cL_law 314 = .ok (.iload 17, 2) := by decide +kernel
theorem dL_law_316 : decode cL_law 316 = .ok (.iconst 2, 1) := by decide +kernel
theorem dL_law_317 : decode cL_law 317 = .ok (.idiv, 1) := by decide +kernel
theorem dL_law_318 : decode cL_law 318 = .ok (.iconst 1, 1) := by decide +kernel
theorem dL_law_319 : decode cL_law 319 = .ok (.iadd, 1) := by decide +kernel
theorem dL_law_320 : decode cL_law 320 = .ok (.invokestatic 141, 3) := by decide +kernel
theorem dL_law_323 : decode cL_law 323 = .ok (.istore 18, 2) := by decide +kernel
theorem dL_law_325 : decode cL_law 325 = .ok (.iload 11, 2) := by decide +kernel
theorem dL_law_327 : decode cL_law 327 = .ok (.bipush 10, 2) := by decide +kernel
theorem dL_law_329 : decode cL_law 329 = .ok (.ishr, 1) := by decide +kernel
theorem dL_law_330 : decode cL_law 330 = .ok (.iload 17, 2) := by decide +kernel
theorem dL_law_332 : decode cL_law 332 = .ok (.invokestatic 141, 3) := by decide +kernel
theorem dL_law_335 : decode cL_law 335 = .ok (.iload 17, 2) := by decide +kernel
theorem dL_law_337 : decode cL_law 337 = .ok (.iconst 2, 1) := by decide +kernel
theorem dL_law_338 : decode cL_law 338 = .ok (.idiv, 1) := by decide +kernel
theorem dL_law_339 : decode cL_law 339 = .ok (.isub, 1) := by decide +kernel
theorem dL_law_340 : decode cL_law 340 = .ok (.istore 19, 2) := by decide +kernel
theorem dL_law_342 : decode cL_law 342 = .ok (.iload 11, 2) := by decide +kernel
theorem dL_law_344 : decode cL_law 344 = .ok (.iconst 5, 1) := by decide +kernel
theorem dL_law_345 : decode cL_law 345 = .ok (.ishr, 1) := by decide +kernel
theorem dL_law_346 : decode cL_law 346 = .ok (.iload 17, 2) := by decide +kernel
theorem dL_law_348 : decode cL_law 348 = .ok (.iconst 1, 1) := by decide +kernel
theorem dL_law_349 : decode cL_law 349 = .ok (.iadd, 1) := by decide +kernel
theorem dL_law_350 : decode cL_law 350 = .ok (.invokestatic 141, 3) := by decide +kernel
theorem dL_law_353 : decode cL_law 353 = .ok (.istore 20, 2) := by decide +kernel
theorem dL_law_355 : decode cL_law 355 = .ok (.iload 20, 2) := by decide +kernel
theorem dL_law_357 : decode cL_law 357 = .ok (.iload 18, 2) := by decide +kernel
theorem dL_law_359 : decode cL_law 359 = .ok (.isub, 1) := by decide +kernel
theorem dL_law_360 : decode cL_law 360 = .ok (.iload 19, 2) := by decide +kernel
theorem dL_law_362 : decode cL_law 362 = .ok (.isub, 1) := by decide +kernel
theorem dL_law_363 : decode cL_law 363 = .ok (.istore 21, 2) := by decide +kernel
theorem dL_law_365 : decode cL_law 365 = .ok (.iload 21, 2) := by decide +kernel
theorem dL_law_367 : decode cL_law 367 = .ok (.ldc 70, 2) := by decide +kernel
theorem dL_law_369 : decode cL_law 369 = .ok (.if_icmp .gt 27, 3) := by decide +kernel
theorem dL_law_372 : decode cL_law 372 = .ok (.iload 21, 2) := by decide +kernel
theorem dL_law_374 : decode cL_law 374 = .ok (.ldc 135, 2) := by decide +kernel
theorem dL_law_376 : decode cL_law 376 = .ok (.if_icmp .lt 20, 3) := by decide +kernel
theorem dL_law_379 : decode cL_law 379 = .ok (.iload 11, 2) := by decide +kernel
theorem dL_law_381 : decode cL_law 381 = .ok (.bipush 12, 2) := by decide +kernel
theorem dL_law_383 : decode cL_law 383 = .ok (.ishr, 1) := by decide +kernel
theorem dL_law_384 : decode cL_law 384 = .ok (.bipush 9, 2) := by decide +kernel
theorem dL_law_386 : decode cL_law 386 = .ok (.invokestatic 141, 3) := by decide +kernel
theorem dL_law_389 : decode cL_law 389 = .ok (.ifCond .le 7, 3) := by decide +kernel
theorem dL_law_392 : decode cL_law 392 = .ok (.iconst 1, 1) := by decide +kernel
theorem dL_law_393 : decode cL_law 393 = .ok (.goto 4, 3) := by decide +kernel
theorem dL_law_396 : decode cL_law 396 = .ok (.iconst 0, 1) := by decide +kernel
theorem dL_law_397 : decode cL_law 397 = .ok (.istore 22, 2) := by decide +kernel
theorem dL_law_399 : decode cL_law 399 = .ok (.iload 21, 2) := by decide +kernel
theorem dL_law_401 : decode cL_law 401 = .ok (.iload 11, 2) := by decide +kernel
theorem dL_law_403 : decode cL_law 403 = .ok (.bipush 12, 2) := by decide +kernel
theorem dL_law_405 : decode cL_law 405 = .ok (.ishr, 1) := by decide +kernel
theorem dL_law_406 : decode cL_law 406 = .ok (.bipush 9, 2) := by decide +kernel
theorem dL_law_408 : decode cL_law 408 = .ok (.invokestatic 141, 3) := by decide +kernel
theorem dL_law_411 : decode cL_law 411 = .ok (.ifCond .ne 7, 3) := by decide +kernel
theorem dL_law_414 : decode cL_law 414 = .ok (.iconst 1, 1) := by decide +kernel
theorem dL_law_415 : decode cL_law 415 = .ok (.goto 4, 3) := by decide +kernel
theorem dL_law_418 : decode cL_law 418 = .ok (.iconst 0, 1) := by decide +kernel
theorem dL_law_419 : decode cL_law 419 = .ok (.iadd, 1) := by decide +kernel
theorem dL_law_420 : decode cL_law 420 = .ok (.istore 21, 2) := by decide +kernel
theorem dL_law_422 : decode cL_law 422 = .ok (.aload 5, 2) := by decide +kernel
theorem dL_law_424 : decode cL_law 424 = .ok (.bipush 7, 2) := by decide +kernel
theorem dL_law_426 : decode cL_law 426 = .ok (.iload 13, 2) := by decide +kernel
theorem dL_law_428 : decode cL_law 428 = .ok (.imul, 1) := by decide +kernel
theorem dL_law_429 : decode cL_law 429 = .ok (.iload 22, 2) := by decide +kernel
theorem dL_law_431 : decode cL_law 431 = .ok (.ifCond .eq 8, 3) := by decide +kernel
theorem dL_law_434 : decode cL_law 434 = .ok (.iload 20, 2) := by decide +kernel
theorem dL_law_436 : decode cL_law 436 = .ok (.goto 11, 3) := by decide +kernel
theorem dL_law_439 : decode cL_law 439 = .ok (.aload 5, 2) := by decide +kernel
theorem dL_law_441 : decode cL_law 441 = .ok (.bipush 7, 2) := by decide +kernel
theorem dL_law_443 : decode cL_law 443 = .ok (.iload 13, 2) := by decide +kernel
theorem dL_law_445 : decode cL_law 445 = .ok (.imul, 1) := by decide +kernel
theorem dL_law_446 : decode cL_law 446 = .ok (.iaload, 1) := by decide +kernel
theorem dL_law_447 : decode cL_law 447 = .ok (.iastore, 1) := by decide +kernel
theorem dL_law_448 : decode cL_law 448 = .ok (.aload 5, 2) := by decide +kernel
theorem dL_law_450 : decode cL_law 450 = .ok (.bipush 7, 2) := by decide +kernel
theorem dL_law_452 : decode cL_law 452 = .ok (.iload 13, 2) := by decide +kernel
theorem dL_law_454 : decode cL_law 454 = .ok (.imul, 1) := by decide +kernel
theorem dL_law_455 : decode cL_law 455 = .ok (.iconst 1, 1) := by decide +kernel
theorem dL_law_456 : decode cL_law 456 = .ok (.iadd, 1) := by decide +kernel
theorem dL_law_457 : decode cL_law 457 = .ok (.iload 22, 2) := by decide +kernel
theorem dL_law_459 : decode cL_law 459 = .ok (.ifCond .eq 8, 3) := by decide +kernel
theorem dL_law_462 : decode cL_law 462 = .ok (.iload 18, 2) := by decide +kernel
theorem dL_law_464 : decode cL_law 464 = .ok (.goto 13, 3) := by decide +kernel
theorem dL_law_467 : decode cL_law 467 = .ok (.aload 5, 2) := by decide +kernel
theorem dL_law_469 : decode cL_law 469 = .ok (.bipush 7, 2) := by decide +kernel
theorem dL_law_471 : decode cL_law 471 = .ok (.iload 13, 2) := by decide +kernel
theorem dL_law_473 : decode cL_law 473 = .ok (.imul, 1) := by decide +kernel
theorem dL_law_474 : decode cL_law 474 = .ok (.iconst 1, 1) := by decide +kernel
theorem dL_law_475 : decode cL_law 475 = .ok (.iadd, 1) := by decide +kernel
theorem dL_law_476 : decode cL_law 476 = .ok (.iaload, 1) := by decide +kernel
theorem dL_law_477 : decode cL_law 477 = .ok (.iastore, 1) := by decide +kernel
theorem dL_law_478 : decode cL_law 478 = .ok (.aload 5, 2) := by decide +kernel
theorem dL_law_480 : decode cL_law 480 = .ok (.bipush 7, 2) := by decide +kernel
theorem dL_law_482 : decode cL_law 482 = .ok (.iload 13, 2) := by decide +kernel
theorem dL_law_484 : decode cL_law 484 = .ok (.imul, 1) := by decide +kernel
theorem dL_law_485 : decode cL_law 485 = .ok (.iconst 2, 1) := by decide +kernel
theorem dL_law_486 : decode cL_law 486 = .ok (.iadd, 1) := by decide +kernel
theorem dL_law_487 : decode cL_law 487 = .ok (.iload 22, 2) := by decide +kernel
theorem dL_law_489 : decode cL_law 489 = .ok (.ifCond .eq 8, 3) := by decide +kernel
theorem dL_law_492 : decode cL_law 492 = .ok (.iload 21, 2) := by decide +kernel
theorem dL_law_494 : decode cL_law 494 = .ok (.goto 13, 3) := by decide +kernel
theorem dL_law_497 : decode cL_law 497 = .ok (.aload 5, 2) := by decide +kernel
theorem dL_law_499 : decode cL_law 499 = .ok (.bipush 7, 2) := by decide +kernel
theorem dL_law_501 : decode cL_law 501 = .ok (.iload 13, 2) := by decide +kernel
theorem dL_law_503 : decode cL_law 503 = .ok (.imul, 1) := by decide +kernel
theorem dL_law_504 : decode cL_law 504 = .ok (.iconst 2, 1) := by decide +kernel
theorem dL_law_505 : decode cL_law 505 = .ok (.iadd, 1) := by decide +kernel
theorem dL_law_506 : decode cL_law 506 = .ok (.iaload, 1) := by decide +kernel
theorem dL_law_507 : decode cL_law 507 = .ok (.iastore, 1) := by decide +kernel
theorem dL_law_508 : decode cL_law 508 = .ok (.aload 5, 2) := by decide +kernel
theorem dL_law_510 : decode cL_law 510 = .ok (.bipush 7, 2) := by decide +kernel
theorem dL_law_512 : decode cL_law 512 = .ok (.iload 13, 2) := by decide +kernel
theorem dL_law_514 : decode cL_law 514 = .ok (.imul, 1) := by decide +kernel
theorem dL_law_515 : decode cL_law 515 = .ok (.iconst 3, 1) := by decide +kernel
theorem dL_law_516 : decode cL_law 516 = .ok (.iadd, 1) := by decide +kernel
theorem dL_law_517 : decode cL_law 517 = .ok (.iload 22, 2) := by decide +kernel
theorem dL_law_519 : decode cL_law 519 = .ok (.ifCond .eq 8, 3) := by decide +kernel
theorem dL_law_522 : decode cL_law 522 = .ok (.iload 19, 2) := by decide +kernel
theorem dL_law_524 : decode cL_law 524 = .ok (.goto 13, 3) := by decide +kernel
theorem dL_law_527 : decode cL_law 527 = .ok (.aload 5, 2) := by decide +kernel
theorem dL_law_529 : decode cL_law 529 = .ok (.bipush 7, 2) := by decide +kernel
theorem dL_law_531 : decode cL_law 531 = .ok (.iload 13, 2) := by decide +kernel
theorem dL_law_533 : decode cL_law 533 = .ok (.imul, 1) := by decide +kernel
theorem dL_law_534 : decode cL_law 534 = .ok (.iconst 3, 1) := by decide +kernel
theorem dL_law_535 : decode cL_law 535 = .ok (.iadd, 1) := by decide +kernel
theorem dL_law_536 : decode cL_law 536 = .ok (.iaload, 1) := by decide +kernel
theorem dL_law_537 : decode cL_law 537 = .ok (.iastore, 1) := by decide +kernel
theorem dL_law_538 : decode cL_law 538 = .ok (.iload 22, 2) := by decide +kernel
theorem dL_law_540 : decode cL_law 540 = .ok (.ifCond .eq 7, 3) := by decide +kernel
theorem dL_law_543 : decode cL_law 543 = .ok (.iconst 0, 1) := by decide +kernel
theorem dL_law_544 : decode cL_law 544 = .ok (.goto 5, 3) := by decide +kernel
theorem dL_law_547 : decode cL_law 547 = .ok (.bipush (-2), 2) := by decide +kernel
theorem dL_law_549 : decode cL_law 549 = .ok (.istore 15, 2) := by decide +kernel
theorem dL_law_551 : decode cL_law 551 = .ok (.aload_n 1, 1) := by decide +kernel
theorem dL_law_552 : decode cL_law 552 = .ok (.iload 13, 2) := by decide +kernel
theorem dL_law_554 : decode cL_law 554 = .ok (.iload 20, 2) := by decide +kernel
theorem dL_law_556 : decode cL_law 556 = .ok (.iload 18, 2) := by decide +kernel
theorem dL_law_558 : decode cL_law 558 = .ok (.iload 21, 2) := by decide +kernel
theorem dL_law_560 : decode cL_law 560 = .ok (.iload 19, 2) := by decide +kernel
theorem dL_law_562 : decode cL_law 562 = .ok (.invokestatic 148, 3) := by decide +kernel
theorem dL_law_565 : decode cL_law 565 = .ok (.istore 16, 2) := by decide +kernel
theorem dL_law_567 : decode cL_law 567 = .ok (.goto 348, 3) := by decide +kernel
theorem dL_law_570 : decode cL_law 570 = .ok (.iload 12, 2) := by decide +kernel
theorem dL_law_572 : decode cL_law 572 = .ok (.bipush 15, 2) := by decide +kernel
theorem dL_law_574 : decode cL_law 574 = .ok (.if_icmp .ge 113, 3) := by decide +kernel
theorem dL_law_577 : decode cL_law 577 = .ok (.aload 5, 2) := by decide +kernel
theorem dL_law_579 : decode cL_law 579 = .ok (.bipush 7, 2) := by decide +kernel
theorem dL_law_581 : decode cL_law 581 = .ok (.iload 13, 2) := by decide +kernel
theorem dL_law_583 : decode cL_law 583 = .ok (.imul, 1) := by decide +kernel
theorem dL_law_584 : decode cL_law 584 = .ok (.iconst 4, 1) := by decide +kernel
theorem dL_law_585 : decode cL_law 585 = .ok (.iadd, 1) := by decide +kernel
theorem dL_law_586 : decode cL_law 586 = .ok (.iconst 1, 1) := by decide +kernel
theorem dL_law_587 : decode cL_law 587 = .ok (.iload 11, 2) := by decide +kernel
theorem dL_law_589 : decode cL_law 589 = .ok (.bipush 7, 2) := by decide +kernel
theorem dL_law_591 : decode cL_law 591 = .ok (.ishr, 1) := by decide +kernel
theorem dL_law_592 : decode cL_law 592 = .ok (.sipush 1000, 3) := by decide +kernel
theorem dL_law_595 : decode cL_law 595 = .ok (.invokestatic 141, 3) := by decide +kernel
theorem dL_law_598 : decode cL_law 598 = .ok (.iadd, 1) := by decide +kernel
theorem dL_law_599 : decode cL_law 599 = .ok (.iastore, 1) := by decide +kernel
theorem dL_law_600 : decode cL_law 600 = .ok (.aload 5, 2) := by decide +kernel
theorem dL_law_602 : decode cL_law 602 = .ok (.bipush 7, 2) := by decide +kernel
theorem dL_law_604 : decode cL_law 604 = .ok (.iload 13, 2) := by decide +kernel
theorem dL_law_606 : decode cL_law 606 = .ok (.imul, 1) := by decide +kernel
theorem dL_law_607 : decode cL_law 607 = .ok (.iconst 5, 1) := by decide +kernel
theorem dL_law_608 : decode cL_law 608 = .ok (.iadd, 1) := by decide +kernel
theorem dL_law_609 : decode cL_law 609 = .ok (.iconst 1, 1) := by decide +kernel
theorem dL_law_610 : decode cL_law 610 = .ok (.iload 11, 2) := by decide +kernel
theorem dL_law_612 : decode cL_law 612 = .ok (.bipush 9, 2) := by decide +kernel
theorem dL_law_614 : decode cL_law 614 = .ok (.ishr, 1) := by decide +kernel
theorem dL_law_615 : decode cL_law 615 = .ok (.sipush 1000, 3) := by decide +kernel
theorem dL_law_618 : decode cL_law 618 = .ok (.invokestatic 141, 3) := by decide +kernel
theorem dL_law_621 : decode cL_law 621 = .ok (.iadd, 1) := by decide +kernel
theorem dL_law_622 : decode cL_law 622 = .ok (.iastore, 1) := by decide +kernel
theorem dL_law_623 : decode cL_law 623 = .ok (.aload 5, 2) := by decide +kernel
theorem dL_law_625 : decode cL_law 625 = .ok (.bipush 7, 2) := by decide +kernel
theorem dL_law_627 : decode cL_law 627 = .ok (.iload 13, 2) := by decide +kernel
theorem dL_law_629 : decode cL_law 629 = .ok (.imul, 1) := by decide +kernel
theorem dL_law_630 : decode cL_law 630 = .ok (.bipush 6, 2) := by decide +kernel
theorem dL_law_632 : decode cL_law 632 = .ok (.iadd, 1) := by decide +kernel
theorem dL_law_633 : decode cL_law 633 = .ok (.iconst 1, 1) := by decide +kernel
theorem dL_law_634 : decode cL_law 634 = .ok (.iload 11, 2) := by decide +kernel
theorem dL_law_636 : decode cL_law 636 = .ok (.bipush 11, 2) := by decide +kernel
theorem dL_law_638 : decode cL_law 638 = .ok (.ishr, 1) := by decide +kernel
theorem dL_law_639 : decode cL_law 639 = .ok (.sipush 1000, 3) := by decide +kernel
theorem dL_law_642 : decode cL_law 642 = .ok (.invokestatic 141, 3) := by decide +kernel
theorem dL_law_645 : decode cL_law 645 = .ok (.iadd, 1) := by decide +kernel
theorem dL_law_646 : decode cL_law 646 = .ok (.iastore, 1) := by decide +kernel
theorem dL_law_647 : decode cL_law 647 = .ok (.aload_n 1, 1) := by decide +kernel
theorem dL_law_648 : decode cL_law 648 = .ok (.iload 13, 2) := by decide +kernel
theorem dL_law_650 : decode cL_law 650 = .ok (.aload 5, 2) := by decide +kernel
theorem dL_law_652 : decode cL_law 652 = .ok (.bipush 7, 2) := by decide +kernel
theorem dL_law_654 : decode cL_law 654 = .ok (.iload 13, 2) := by decide +kernel
theorem dL_law_656 : decode cL_law 656 = .ok (.imul, 1) := by decide +kernel
theorem dL_law_657 : decode cL_law 657 = .ok (.iconst 4, 1) := by decide +kernel
theorem dL_law_658 : decode cL_law 658 = .ok (.iadd, 1) := by decide +kernel
theorem dL_law_659 : decode cL_law 659 = .ok (.iaload, 1) := by decide +kernel
theorem dL_law_660 : decode cL_law 660 = .ok (.aload 5, 2) := by decide +kernel
theorem dL_law_662 : decode cL_law 662 = .ok (.bipush 7, 2) := by decide +kernel
theorem dL_law_664 : decode cL_law 664 = .ok (.iload 13, 2) := by decide +kernel
theorem dL_law_666 : decode cL_law 666 = .ok (.imul, 1) := by decide +kernel
theorem dL_law_667 : decode cL_law 667 = .ok (.iconst 5, 1) := by decide +kernel
theorem dL_law_668 : decode cL_law 668 = .ok (.iadd, 1) := by decide +kernel
theorem dL_law_669 : decode cL_law 669 = .ok (.iaload, 1) := by decide +kernel
theorem dL_law_670 : decode cL_law 670 = .ok (.aload 5, 2) := by decide +kernel
theorem dL_law_672 : decode cL_law 672 = .ok (.bipush 7, 2) := by decide +kernel
theorem dL_law_674 : decode cL_law 674 = .ok (.iload 13, 2) := by decide +kernel
theorem dL_law_676 : decode cL_law 676 = .ok (.imul, 1) := by decide +kernel
theorem dL_law_677 : decode cL_law 677 = .ok (.bipush 6, 2) := by decide +kernel
theorem dL_law_679 : decode cL_law 679 = .ok (.iadd, 1) := by decide +kernel
theorem dL_law_680 : decode cL_law 680 = .ok (.iaload, 1) := by decide +kernel
theorem dL_law_681 : decode cL_law 681 = .ok (.invokevirtual 151, 3) := by decide +kernel
theorem dL_law_684 : decode cL_law 684 = .ok (.goto 231, 3) := by decide +kernel
theorem dL_law_687 : decode cL_law 687 = .ok (.iload 12, 2) := by decide +kernel
theorem dL_law_689 : decode cL_law 689 = .ok (.bipush 17, 2) := by decide +kernel
theorem dL_law_691 : decode cL_law 691 = .ok (.if_icmp .ge 97, 3) := by decide +kernel
theorem dL_law_694 : decode cL_law 694 = .ok (.iload 11, 2) := by decide +kernel
theorem dL_law_696 : decode cL_law 696 = .ok (.bipush 9, 2) := by decide +kernel
theorem dL_law_698 : decode cL_law 698 = .ok (.ishr, 1) := by decide +kernel
theorem dL_law_699 : decode cL_law 699 = .ok (.iload 11, 2) := by decide +kernel
theorem dL_law_701 : decode cL_law 701 = .ok (.bipush 14, 2) := by decide +kernel
theorem dL_law_703 : decode cL_law 703 = .ok (.ishr, 1) := by decide +kernel
theorem dL_law_704 : decode cL_law 704 = .ok (.iconst 2, 1) := by decide +kernel
theorem dL_law_705 : decode cL_law 705 = .ok (.invokestatic 141, 3) := by decide +kernel
theorem dL_law_708 : decode cL_law 708 = .ok (.ifCond .ne 8, 3) := by decide +kernel
theorem dL_law_711 : decode cL_law 711 = .ok (.ldc 155, 2) := by decide +kernel
theorem dL_law_713 : decode cL_law 713 = .ok (.goto 6, 3) := by decide +kernel
theorem dL_law_716 : decode cL_law 716 = .ok (.sipush 500, 3) := by decide +kernel
theorem dL_law_719 : decode cL_law 719 = .ok (.invokestatic 141, 3) := by decide +kernel
theorem dL_law_722 : decode cL_law 722 = .ok (.istore 17, 2) := by decide +kernel
theorem dL_law_724 : decode cL_law 724 = .ok (.iload 13, 2) := by decide +kernel
theorem dL_law_726 : decode cL_law 726 = .ok (.iload 14, 2) := by decide +kernel
theorem dL_law_728 : decode cL_law 728 = .ok (.if_icmp .ne 8, 3) := by decide +kernel
theorem dL_law_731 : decode cL_law 731 = .ok (.ldc 36, 2) := by decide +kernel
theorem dL_law_733 : decode cL_law 733 = .ok (.goto 13, 3) := by decide +kernel
theorem dL_law_736 : decode cL_law 736 = .ok (.aload_n 3, 1) := by decide +kernel
theorem dL_law_737 : decode cL_law 737 = .ok (.bipush 6, 2) := by decide +kernel
theorem dL_law_739 : decode cL_law 739 = .ok (.iload 13, 2) := by decide +kernel
theorem dL_law_741 : decode cL_law 741 = .ok (.imul, 1) := by decide +kernel
theorem dL_law_742 : decode cL_law 742 = .ok (.iload 14, 2) := by decide +kernel
theorem dL_law_744 : decode cL_law 744 = .ok (.iadd, 1) := by decide +kernel
theorem dL_law_745 : decode cL_law 745 = .ok (.iaload, 1) := by decide +kernel
theorem dL_law_746 : decode cL_law 746 = .ok (.istore 15, 2) := by decide +kernel
theorem dL_law_748 : decode cL_law 748 = .ok (.aload_n 3, 1) := by decide +kernel
theorem dL_law_749 : decode cL_law 749 = .ok (.bipush 6, 2) := by decide +kernel
theorem dL_law_751 : decode cL_law 751 = .ok (.iload 13, 2) := by decide +kernel
theorem dL_law_753 : decode cL_law 753 = .ok (.imul, 1) := by decide +kernel
theorem dL_law_754 : decode cL_law 754 = .ok (.iload 14, 2) := by decide +kernel
theorem dL_law_756 : decode cL_law 756 = .ok (.iadd, 1) := by decide +kernel
theorem dL_law_757 : decode cL_law 757 = .ok (.iload 13, 2) := by decide +kernel
theorem dL_law_759 : decode cL_law 759 = .ok (.iload 14, 2) := by decide +kernel
theorem dL_law_761 : decode cL_law 761 = .ok (.if_icmp .ne 7, 3) := by decide +kernel
theorem dL_law_764 : decode cL_law 764 = .ok (.iconst 0, 1) := by decide +kernel
theorem dL_law_765 : decode cL_law 765 = .ok (.goto 5, 3) := by decide +kernel
theorem dL_law_768 : decode cL_law 768 = .ok (.iload 17, 2) := by decide +kernel
theorem dL_law_770 : decode cL_law 770 = .ok (.iastore, 1) := by decide +kernel
theorem dL_law_771 : decode cL_law 771 = .ok (.aload_n 1, 1) := by decide +kernel
theorem dL_law_772 : decode cL_law 772 = .ok (.iconst 2, 1) := by decide +kernel
theorem dL_law_773 : decode cL_law 773 = .ok (.iload 13, 2) := by decide +kernel
theorem dL_law_775 : decode cL_law 775 = .ok (.iload 14, 2) := by decide +kernel
theorem dL_law_777 : decode cL_law 777 = .ok (.iload 17, 2) := by decide +kernel
theorem dL_law_779 : decode cL_law 779 = .ok (.iconst 0, 1) := by decide +kernel
theorem dL_law_780 : decode cL_law 780 = .ok (.invokestatic 103, 3) := by decide +kernel
theorem dL_law_783 : decode cL_law 783 = .ok (.istore 16, 2) := by decide +kernel
theorem dL_law_785 : decode cL_law 785 = .ok (.goto 130, 3) := by decide +kernel
theorem dL_law_788 : decode cL_law 788 = .ok (.iload 12, 2) := by decide +kernel
theorem dL_law_790 : decode cL_law 790 = .ok (.bipush 19, 2) := by decide +kernel
theorem dL_law_792 : decode cL_law 792 = .ok (.if_icmp .ge 99, 3) := by decide +kernel
theorem dL_law_795 : decode cL_law 795 = .ok (.iload 11, 2) := by decide +kernel
theorem dL_law_797 : decode cL_law 797 = .ok (.bipush 9, 2) := by decide +kernel
theorem dL_law_799 : decode cL_law 799 = .ok (.ishr, 1) := by decide +kernel
theorem dL_law_800 : decode cL_law 800 = .ok (.iload 11, 2) := by decide +kernel
theorem dL_law_802 : decode cL_law 802 = .ok (.bipush 14, 2) := by decide +kernel
theorem dL_law_804 : decode cL_law 804 = .ok (.ishr, 1) := by decide +kernel
theorem dL_law_805 : decode cL_law 805 = .ok (.iconst 2, 1) := by decide +kernel
theorem dL_law_806 : decode cL_law 806 = .ok (.invokestatic 141, 3) := by decide +kernel
theorem dL_law_809 : decode cL_law 809 = .ok (.ifCond .ne 8, 3) := by decide +kernel
theorem dL_law_812 : decode cL_law 812 = .ok (.ldc 155, 2) := by decide +kernel
theorem dL_law_814 : decode cL_law 814 = .ok (.goto 6, 3) := by decide +kernel
theorem dL_law_817 : decode cL_law 817 = .ok (.sipush 500, 3) := by decide +kernel
theorem dL_law_820 : decode cL_law 820 = .ok (.invokestatic 141, 3) := by decide +kernel
theorem dL_law_823 : decode cL_law 823 = .ok (.istore 17, 2) := by decide +kernel
theorem dL_law_825 : decode cL_law 825 = .ok (.iload 13, 2) := by decide +kernel
theorem dL_law_827 : decode cL_law 827 = .ok (.iload 14, 2) := by decide +kernel
theorem dL_law_829 : decode cL_law 829 = .ok (.if_icmp .ne 8, 3) := by decide +kernel
theorem dL_law_832 : decode cL_law 832 = .ok (.ldc 36, 2) := by decide +kernel
theorem dL_law_834 : decode cL_law 834 = .ok (.goto 14, 3) := by decide +kernel
theorem dL_law_837 : decode cL_law 837 = .ok (.aload 4, 2) := by decide +kernel
theorem dL_law_839 : decode cL_law 839 = .ok (.bipush 6, 2) := by decide +kernel
theorem dL_law_841 : decode cL_law 841 = .ok (.iload 13, 2) := by decide +kernel
theorem dL_law_843 : decode cL_law 843 = .ok (.imul, 1) := by decide +kernel
theorem dL_law_844 : decode cL_law 844 = .ok (.iload 14, 2) := by decide +kernel
theorem dL_law_846 : decode cL_law 846 = .ok (.iadd, 1) := by decide +kernel
theorem dL_law_847 : decode cL_law 847 = .ok (.iaload, 1) := by decide +kernel
theorem dL_law_848 : decode cL_law 848 = .ok (.istore 15, 2) := by decide +kernel
theorem dL_law_850 : decode cL_law 850 = .ok (.aload 4, 2) := by decide +kernel
theorem dL_law_852 : decode cL_law 852 = .ok (.bipush 6, 2) := by decide +kernel
theorem dL_law_854 : decode cL_law 854 = .ok (.iload 13, 2) := by decide +kernel
theorem dL_law_856 : decode cL_law 856 = .ok (.imul, 1) := by decide +kernel
theorem dL_law_857 : decode cL_law 857 = .ok (.iload 14, 2) := by decide +kernel
theorem dL_law_859 : decode cL_law 859 = .ok (.iadd, 1) := by decide +kernel
theorem dL_law_860 : decode cL_law 860 = .ok (.iload 13, 2) := by decide +kernel
theorem dL_law_862 : decode cL_law 862 = .ok (.iload 14, 2) := by decide +kernel
theorem dL_law_864 : decode cL_law 864 = .ok (.if_icmp .ne 7, 3) := by decide +kernel
theorem dL_law_867 : decode cL_law 867 = .ok (.iconst 0, 1) := by decide +kernel
theorem dL_law_868 : decode cL_law 868 = .ok (.goto 5, 3) := by decide +kernel
theorem dL_law_871 : decode cL_law 871 = .ok (.iload 17, 2) := by decide +kernel
theorem dL_law_873 : decode cL_law 873 = .ok (.iastore, 1) := by decide +kernel
theorem dL_law_874 : decode cL_law 874 = .ok (.aload_n 1, 1) := by decide +kernel
theorem dL_law_875 : decode cL_law 875 = .ok (.iconst 3, 1) := by decide +kernel
theorem dL_law_876 : decode cL_law 876 = .ok (.iload 14, 2) := by decide +kernel
theorem dL_law_878 : decode cL_law 878 = .ok (.iload 13, 2) := by decide +kernel
theorem dL_law_880 : decode cL_law 880 = .ok (.iload 17, 2) := by decide +kernel
theorem dL_law_882 : decode cL_law 882 = .ok (.iconst 0, 1) := by decide +kernel
theorem dL_law_883 : decode cL_law 883 = .ok (.invokestatic 103, 3) := by decide +kernel
theorem dL_law_886 : decode cL_law 886 = .ok (.istore 16, 2) := by decide +kernel
theorem dL_law_888 : decode cL_law 888 = .ok (.goto 27, 3) := by decide +kernel
theorem dL_law_891 : decode cL_law 891 = .ok (.aload_n 1, 1) := by decide +kernel
theorem dL_law_892 : decode cL_law 892 = .ok (.aload_n 2, 1) := by decide +kernel
theorem dL_law_893 : decode cL_law 893 = .ok (.aload 5, 2) := by decide +kernel
theorem dL_law_895 : decode cL_law 895 = .ok (.aload 6, 2) := by decide +kernel
theorem dL_law_897 : decode cL_law 897 = .ok (.aload 7, 2) := by decide +kernel
theorem dL_law_899 : decode cL_law 899 = .ok (.invokestatic 156, 3) := by decide +kernel
theorem dL_law_902 : decode cL_law 902 = .ok (.istore 15, 2) := by decide +kernel
theorem dL_law_904 : decode cL_law 904 = .ok (.aload_n 1, 1) := by decide +kernel
theorem dL_law_905 : decode cL_law 905 = .ok (.iconst 4, 1) := by decide +kernel
theorem dL_law_906 : decode cL_law 906 = .ok (.iconst 0, 1) := by decide +kernel
theorem dL_law_907 : decode cL_law 907 = .ok (.iconst 0, 1) := by decide +kernel
theorem dL_law_908 : decode cL_law 908 = .ok (.iconst 0, 1) := by decide +kernel
theorem dL_law_909 : decode cL_law 909 = .ok (.iconst 0, 1) := by decide +kernel
theorem dL_law_910 : decode cL_law 910 = .ok (.invokestatic 103, 3) := by decide +kernel
theorem dL_law_913 : decode cL_law 913 = .ok (.istore 16, 2) := by decide +kernel
theorem dL_law_915 : decode cL_law 915 = .ok (.iload 11, 2) := by decide +kernel
theorem dL_law_917 : decode cL_law 917 = .ok (.bipush 6, 2) := by decide +kernel
theorem dL_law_919 : decode cL_law 919 = .ok (.ishr, 1) := by decide +kernel
theorem dL_law_920 : decode cL_law 920 = .ok (.bipush 30, 2) := by decide +kernel
theorem dL_law_922 : decode cL_law 922 = .ok (.invokestatic 141, 3) := by decide +kernel
theorem dL_law_925 : decode cL_law 925 = .ok (.istore 17, 2) := by decide +kernel
theorem dL_law_927 : decode cL_law 927 = .ok (.iload 16, 2) := by decide +kernel
theorem dL_law_929 : decode cL_law 929 = .ok (.iload 15, 2) := by decide +kernel
theorem dL_law_931 : decode cL_law 931 = .ok (.if_icmp .ne 72, 3) := by decide +kernel
theorem dL_law_934 : decode cL_law 934 = .ok (.aload_n 1, 1) := by decide +kernel
theorem dL_law_935 : decode cL_law 935 = .ok (.aload_n 2, 1) := by decide +kernel
theorem dL_law_936 : decode cL_law 936 = .ok (.aload_n 3, 1) := by decide +kernel
theorem dL_law_937 : decode cL_law 937 = .ok (.aload 4, 2) := by decide +kernel
theorem dL_law_939 : decode cL_law 939 = .ok (.aload 5, 2) := by decide +kernel
theorem dL_law_941 : decode cL_law 941 = .ok (.aload 6, 2) := by decide +kernel
theorem dL_law_943 : decode cL_law 943 = .ok (.aload 7, 2) := by decide +kernel
theorem dL_law_945 : decode cL_law 945 = .ok (.invokestatic 160, 3) := by decide +kernel
theorem dL_law_948 : decode cL_law 948 = .ok (.ifCond .eq 55, 3) := by decide +kernel
theorem dL_law_951 : decode cL_law 951 = .ok (.aload_n 1, 1) := by decide +kernel
theorem dL_law_952 : decode cL_law 952 = .ok (.iload 14, 2) := by decide +kernel
theorem dL_law_954 : decode cL_law 954 = .ok (.iload 17, 2) := by decide +kernel
theorem dL_law_956 : decode cL_law 956 = .ok (.invokevirtual 164, 3) := by decide +kernel
theorem dL_law_959 : decode cL_law 959 = .ok (.iload 14, 2) := by decide +kernel
theorem dL_law_961 : decode cL_law 961 = .ok (.iload 17, 2) := by decide +kernel
theorem dL_law_963 : decode cL_law 963 = .ok (.aload_n 2, 1) := by decide +kernel
theorem dL_law_964 : decode cL_law 964 = .ok (.aload 8, 2) := by decide +kernel
theorem dL_law_966 : decode cL_law 966 = .ok (.aload 9, 2) := by decide +kernel
theorem dL_law_968 : decode cL_law 968 = .ok (.invokestatic 167, 3) := by decide +kernel
theorem dL_law_971 : decode cL_law 971 = .ok (.if_icmp .ne 32, 3) := by decide +kernel
theorem dL_law_974 : decode cL_law 974 = .ok (.iload 10, 2) := by decide +kernel
theorem dL_law_976 : decode cL_law 976 = .ok (.iconst 3, 1) := by decide +kernel
theorem dL_law_977 : decode cL_law 977 = .ok (.irem, 1) := by decide +kernel
theorem dL_law_978 : decode cL_law 978 = .ok (.ifCond .ne 27, 3) := by decide +kernel
theorem dL_law_981 : decode cL_law 981 = .ok (.aload_n 1, 1) := by decide +kernel
theorem dL_law_982 : decode cL_law 982 = .ok (.aload_n 2, 1) := by decide +kernel
theorem dL_law_983 : decode cL_law 983 = .ok (.ldc2_w 171, 3) := by decide +kernel
theorem dL_law_986 : decode cL_law 986 = .ok (.invokestatic 173, 3) := by decide +kernel
theorem dL_law_989 : decode cL_law 989 = .ok (.ifCond .eq 14, 3) := by decide +kernel
theorem dL_law_992 : decode cL_law 992 = .ok (.aload_n 1, 1) := by decide +kernel
theorem dL_law_993 : decode cL_law 993 = .ok (.aload_n 2, 1) := by decide +kernel
theorem dL_law_994 : decode cL_law 994 = .ok (.ldc2_w 177, 3) := by decide +kernel
theorem dL_law_997 : decode cL_law 997 = .ok (.invokestatic 173, 3) := by decide +kernel
theorem dL_law_1000 : decode cL_law 1000 = .ok (.ifCond .ne 5, 3) := by decide +kernel
theorem dL_law_1003 : decode cL_law 1003 = .ok (.iconst 0, 1) := by decide +kernel
theorem dL_law_1004 : decode cL_law 1004 = .ok (.ireturn, 1) := by decide +kernel
theorem dL_law_1005 : decode cL_law 1005 = .ok (.iinc 10 1, 3) := by decide +kernel
theorem dL_law_1008 : decode cL_law 1008 = .ok (.goto (-899), 3) := by decide +kernel
theorem dL_law_1011 : decode cL_law 1011 = .ok (.iconst 1, 1) := by decide +kernel
theorem dL_law_1012 : decode cL_law 1012 = .ok (.ireturn, 1) := by decide +kernel
