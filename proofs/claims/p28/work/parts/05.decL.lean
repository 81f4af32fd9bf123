theorem dL_cell_0 : decode cL_cell 0 = .ok (.iload_n 1, 1) := by decide +kernel
theorem dL_cell_1 : decode cL_cell 1 = .ok (.aload_n 0, 1) := by decide +kernel
theorem dL_cell_2 : decode cL_cell 2 = .ok (.arraylength, 1) := by decide +kernel
theorem dL_cell_3 : decode cL_cell 3 = .ok (.if_icmp .ge 9, 3) := by decide +kernel
theorem dL_cell_6 : decode cL_cell 6 = .ok (.aload_n 0, 1) := by decide +kernel
theorem dL_cell_7 : decode cL_cell 7 = .ok (.iload_n 1, 1) := by decide +kernel
theorem dL_cell_8 : decode cL_cell 8 = .ok (.iaload, 1) := by decide +kernel
theorem dL_cell_9 : decode cL_cell 9 = .ok (.goto 13, 3) := by decide +kernel
theorem dL_cell_12 : decode cL_cell 12 = .ok (.ldc 7, 2) := by decide +kernel
theorem dL_cell_14 : decode cL_cell 14 = .ok (.iload_n 1, 1) := by decide +kernel
theorem dL_cell_15 : decode cL_cell 15 = .ok (.bipush 37, 2) := by decide +kernel
theorem dL_cell_17 : decode cL_cell 17 = .ok (.iadd, 1) := by decide +kernel
theorem dL_cell_18 : decode cL_cell 18 = .ok (.imul, 1) := by decide +kernel
theorem dL_cell_19 : decode cL_cell 19 = .ok (.ldc 8, 2) := by decide +kernel
theorem dL_cell_21 : decode cL_cell 21 = .ok (.iadd, 1) := by decide +kernel
theorem dL_cell_22 : decode cL_cell 22 = .ok (.ireturn, 1) := by decide +kernel
theorem dL_low_0 : decode cL_low 0 = .ok (.iload_n 0, 1) := by decide +kernel
theorem dL_low_1 : decode cL_low 1 = .ok (.ldc 9, 2) := by decide +kernel
theorem dL_low_3 : decode cL_low 3 = .ok (.iand, 1) := by decide +kernel
theorem dL_low_4 : decode cL_low 4 = .ok (.iload_n 1, 1) := by decide +kernel
theorem dL_low_5 : decode cL_low 5 = .ok (.irem, 1) := by decide +kernel
theorem dL_low_6 : decode cL_low 6 = .ok (.ireturn, 1) := by decide +kernel
set_option maxRecDepth 20000 in
theorem ggL_calls_X3_hold : GoodIn wsL_calls wsX3_hold := goodIn_ca (goodIn_ca (goodIn_r _ [9, 10, 11, 12, 8, 13, 14, 15, 16, 17, 18, 19, 20, 21, 22, 23, 24, 25, 26, 27, 28, 29, 30, 31, 32, 33, 34, 35, 36, 37, 38, 39, 40, 41, 42, 43, 44, 45, 46, 47, 48, 49, 50, 51, 52, 53, 54, 55, 56, 57, 58, 59, 60, 61, 62, 63, 64, 65, 66, 67, 165, 166, 167, 168, 169, 170, 171, 172, 173, 174, 175, 176] (by decide +kernel) (by decide +kernel)) (goodIn_sub (fun _ h => List.mem_cons_of_mem _ (List.mem_append_left _ (List.mem_append_right _ h))) (by decide +kernel))) (goodIn_sub (fun _ h => List.mem_cons_of_mem _ (List.mem_append_right _ h)) (by decide +kernel))
set_option maxRecDepth 20000 in
theorem gL_calls_X3_hold : GoodIn wsL_calls (wsV RL 10 RX3 yX3_hold wsX3_hold) := goodIn_app (goodIn_of _ (by decide +kernel)) ggL_calls_X3_hold
set_option maxRecDepth 20000 in
theorem ggL_calls_X3_acquire : GoodIn wsL_calls wsX3_acquire := goodIn_ca (goodIn_ca (goodIn_r _ [71, 72, 10, 73, 74, 11, 12, 8, 13, 14, 15, 16, 17, 18, 19, 20, 21, 22, 23, 24, 25, 26, 27, 28, 29, 30, 31, 32, 33, 34, 35, 36, 37, 38, 39, 40, 41, 42, 43, 44, 45, 46, 47, 48, 49, 50, 51, 52, 53, 54, 55, 56, 57, 58, 59, 60, 61, 62, 63, 64, 65, 66, 67, 75, 76, 77, 78, 79, 80, 81, 82, 83, 84, 85, 86, 87, 88, 89, 90, 91, 92, 93, 94, 95, 96, 97, 165, 166, 167, 168, 169, 170, 171, 172, 173, 174, 175, 176, 177, 178, 179, 180, 181, 182, 183] (by decide +kernel) (by decide +kernel)) (goodIn_sub (fun _ h => List.mem_cons_of_mem _ (List.mem_append_left _ (List.mem_append_right _ h))) (by decide +kernel))) (goodIn_sub (fun _ h => List.mem_cons_of_mem _ (List.mem_append_right _ h)) (by decide +kernel))
set_option maxRecDepth 20000 in
theorem gL_calls_X3_acquire : GoodIn wsL_calls (wsV RL 16 RX3 yX3_acquire wsX3_acquire) := goodIn_app (goodIn_of _ (by decide +kernel)) ggL_calls_X3_acquire
set_option maxRecDepth 20000 in
theorem ggL_calls_X3_claim : GoodIn wsL_calls wsX3_claim := goodIn_ca (goodIn_r _ [101, 72, 102, 11, 12, 8, 13, 14, 15, 16, 17, 18, 19, 20, 21, 103, 104, 105, 106, 107, 27, 28, 165, 166, 167, 168, 169, 170, 184, 185] (by decide +kernel) (by decide +kernel)) (goodIn_sub (fun _ h => List.mem_cons_of_mem _ (List.mem_append_left _ (List.mem_append_right _ h))) (by decide +kernel))
set_option maxRecDepth 20000 in
theorem gL_calls_X3_claim : GoodIn wsL_calls (wsV RL 20 RX3 yX3_claim wsX3_claim) := goodIn_app (goodIn_of _ (by decide +kernel)) ggL_calls_X3_claim
set_option maxRecDepth 20000 in
theorem ggL_calls_X3_admit : GoodIn wsL_calls wsX3_admit := goodIn_ca (goodIn_r _ [111, 72, 102, 11, 12, 8, 13, 14, 15, 16, 17, 18, 19, 20, 21, 112, 104, 113, 114, 115, 27, 28, 165, 166, 167, 168, 169, 170, 184, 185] (by decide +kernel) (by decide +kernel)) (goodIn_sub (fun _ h => List.mem_cons_of_mem _ (List.mem_append_left _ (List.mem_append_right _ h))) (by decide +kernel))
set_option maxRecDepth 20000 in
theorem gL_calls_X3_admit : GoodIn wsL_calls (wsV RL 23 RX3 yX3_admit wsX3_admit) := goodIn_app (goodIn_of _ (by decide +kernel)) ggL_calls_X3_admit
set_option maxRecDepth 20000 in
theorem ggL_calls_X3_close : GoodIn wsL_calls wsX3_close := goodIn_ca (goodIn_r _ [119, 66, 67, 120, 121, 74, 122, 123, 124, 8, 125, 10, 126, 23, 127, 128, 129, 130, 131, 132, 133, 134, 135, 136, 26, 137, 138, 27, 28, 139, 140, 76, 141, 142, 143, 144, 85, 86, 87, 88, 89, 90, 91, 145, 146, 147, 58, 59, 148, 149, 150, 151, 152, 153, 154, 155, 156, 157, 165, 166, 167, 168, 169, 170, 171, 172, 173, 174, 175, 176, 177, 178, 179, 180, 181, 182, 183] (by decide +kernel) (by decide +kernel)) (goodIn_sub (fun _ h => List.mem_cons_of_mem _ (List.mem_append_right _ h)) (by decide +kernel))
set_option maxRecDepth 20000 in
theorem gL_calls_X3_close : GoodIn wsL_calls (wsV RL 26 RX3 yX3_close wsX3_close) := goodIn_app (goodIn_of _ (by decide +kernel)) ggL_calls_X3_close
set_option maxRecDepth 20000 in
theorem ggL_calls_X3_difference : GoodIn wsL_calls wsX3_difference := goodIn_ca (goodIn_r _ [161, 102, 11, 12, 8, 13, 14, 15, 16, 17, 18, 19, 20, 21, 162, 104, 163, 164, 107, 115, 27, 28, 165, 166, 167, 168, 169, 170, 184, 185] (by decide +kernel) (by decide +kernel)) (goodIn_sub (fun _ h => List.mem_cons_of_mem _ (List.mem_append_left _ (List.mem_append_right _ h))) (by decide +kernel))
set_option maxRecDepth 20000 in
theorem gL_calls_X3_difference : GoodIn wsL_calls (wsV RL 30 RX3 yX3_difference wsX3_difference) := goodIn_app (goodIn_of _ (by decide +kernel)) ggL_calls_X3_difference
theorem dL_calls_0 : decode cL_calls 0 = .ok (.iload_n 1, 1) := by decide +kernel
theorem dL_calls_1 : decode cL_calls 1 = .ok (.ifCond .ne 14, 3) := by decide +kernel
theorem dL_calls_4 : decode cL_calls 4 = .ok (.aload_n 0, 1) := by decide +kernel
theorem dL_calls_5 : decode cL_calls 5 = .ok (.iload_n 2, 1) := by decide +kernel
theorem dL_calls_6 : decode cL_calls 6 = .ok (.iload_n 3, 1) := by decide +kernel
theorem dL_calls_7 : decode cL_calls 7 = .ok (.iload 4, 2) := by decide +kernel
theorem dL_calls_9 : decode cL_calls 9 = .ok (.invokevirtual 10, 3) := by decide +kernel
theorem dL_calls_12 : decode cL_calls 12 = .ok (.goto 71, 3) := by decide +kernel
theorem dL_calls_15 : decode cL_calls 15 = .ok (.iload_n 1, 1) := by decide +kernel
theorem dL_calls_16 : decode cL_calls 16 = .ok (.iconst 1, 1) := by decide +kernel
theorem dL_calls_17 : decode cL_calls 17 = .ok (.if_icmp .ne 16, 3) := by decide +kernel
theorem dL_calls_20 : decode cL_calls 20 = .ok (.aload_n 0, 1) := by decide +kernel
theorem dL_calls_21 : decode cL_calls 21 = .ok (.iload_n 2, 1) := by decide +kernel
theorem dL_calls_22 : decode cL_calls 22 = .ok (.iload_n 3, 1) := by decide +kernel
theorem dL_calls_23 : decode cL_calls 23 = .ok (.iload 4, 2) := by decide +kernel
theorem dL_calls_25 : decode cL_calls 25 = .ok (.iload 5, 2) := by decide +kernel
theorem dL_calls_27 : decode cL_calls 27 = .ok (.invokevirtual 16, 3) := by decide +kernel
theorem dL_calls_30 : decode cL_calls 30 = .ok (.goto 53, 3) := by decide +kernel
theorem dL_calls_33 : decode cL_calls 33 = .ok (.iload_n 1, 1) := by decide +kernel
theorem dL_calls_34 : decode cL_calls 34 = .ok (.iconst 2, 1) := by decide +kernel
theorem dL_calls_35 : decode cL_calls 35 = .ok (.if_icmp .ne 14, 3) := by decide +kernel
theorem dL_calls_38 : decode cL_calls 38 = .ok (.aload_n 0, 1) := by decide +kernel
theorem dL_calls_39 : decode cL_calls 39 = .ok (.iload_n 2, 1) := by decide +kernel
theorem dL_calls_40 : decode cL_calls 40 = .ok (.iload_n 3, 1) := by decide +kernel
theorem dL_calls_41 : decode cL_calls 41 = .ok (.iload 4, 2) := by decide +kernel
theorem dL_calls_43 : decode cL_calls 43 = .ok (.invokevirtual 20, 3) := by decide +kernel
theorem dL_calls_46 : decode cL_calls 46 = .ok (.goto 37, 3) := by decide +kernel
theorem dL_calls_49 : decode cL_calls 49 = .ok (.iload_n 1, 1) := by decide +kernel
theorem dL_calls_50 : decode cL_calls 50 = .ok (.iconst 3, 1) := by decide +kernel
theorem dL_calls_51 : decode cL_calls 51 = .ok (.if_icmp .ne 14, 3) := by decide +kernel
theorem dL_calls_54 : decode cL_calls 54 = .ok (.aload_n 0, 1) := by decide +kernel
theorem dL_calls_55 : decode cL_calls 55 = .ok (.iload_n 2, 1) := by decide +kernel
theorem dL_calls_56 : decode cL_calls 56 = .ok (.iload_n 3, 1) := by decide +kernel
theorem dL_calls_57 : decode cL_calls 57 = .ok (.iload 4, 2) := by decide +kernel
theorem dL_calls_59 : decode cL_calls 59 = .ok (.invokevirtual 23, 3) := by decide +kernel
theorem dL_calls_62 : decode cL_calls 62 = .ok (.goto 21, 3) := by decide +kernel
theorem dL_calls_65 : decode cL_calls 65 = .ok (.iload_n 1, 1) := by decide +kernel
theorem dL_calls_66 : decode cL_calls 66 = .ok (.iconst 4, 1) := by decide +kernel
theorem dL_calls_67 : decode cL_calls 67 = .ok (.if_icmp .ne 10, 3) := by decide +kernel
theorem dL_calls_70 : decode cL_calls 70 = .ok (.aload_n 0, 1) := by decide +kernel
theorem dL_calls_71 : decode cL_calls 71 = .ok (.invokevirtual 26, 3) := by decide +kernel
theorem dL_calls_74 : decode cL_calls 74 = .ok (.goto 9, 3) := by decide +kernel
theorem dL_calls_77 : decode cL_calls 77 = .ok (.aload_n 0, 1) := by decide +kernel
theorem dL_calls_78 : decode cL_calls 78 = .ok (.iload_n 2, 1) := by decide +kernel
theorem dL_calls_79 : decode cL_calls 79 = .ok (.iload_n 3, 1) := by decide +kernel
theorem dL_calls_80 : decode cL_calls 80 = .ok (.invokevirtual 30, 3) := by decide +kernel
theorem dL_calls_83 : decode cL_calls 83 = .ok (.ireturn, 1) := by decide +kernel
theorem dL_calls_84 : decode cL_calls 84 = .ok (.astore 6, 2) := by decide +kernel
theorem dL_calls_86 : decode cL_calls 86 = .ok (.ldc 36, 2) := by decide +kernel
theorem dL_calls_88 : decode cL_calls 88 = .ok (.ireturn, 1) := by decide +kernel
theorem dL_calls_89 : decode cL_calls 89 = .ok (.astore 6, 2) := by decide +kernel
theorem dL_calls_91 : decode cL_calls 91 = .ok (.ldc 39, 2) := by decide +kernel
theorem dL_calls_93 : decode cL_calls 93 = .ok (.ireturn, 1) := by decide +kernel
theorem dL_floor_0 : decode cL_floor 0 = .ok (.lload_n 0, 1) := by decide +kernel
theorem dL_floor_1 : decode cL_floor 1 = .ok (.lconst 0, 1) := by decide +kernel
theorem dL_floor_2 : decode cL_floor 2 = .ok (.lcmp, 1) := by decide +kernel
theorem dL_floor_3 : decode cL_floor 3 = .ok (.ifCond .lt 9, 3) := by decide +kernel
theorem dL_floor_6 : decode cL_floor 6 = .ok (.lload_n 0, 1) := by decide +kernel
theorem dL_floor_7 : decode cL_floor 7 = .ok (.lload_n 2, 1) := by decide +kernel
theorem dL_floor_8 : decode cL_floor 8 = .ok (.ldiv, 1) := by decide +kernel
theorem dL_floor_9 : decode cL_floor 9 = .ok (.goto 11, 3) := by decide +kernel
theorem dL_floor_12 : decode cL_floor 12 = .ok (.lload_n 2, 1) := by decide +kernel
theorem dL_floor_13 : decode cL_floor 13 = .ok (.lconst 1, 1) := by decide +kernel
theorem dL_floor_14 : decode cL_floor 14 = .ok (.lsub, 1) := by decide +kernel
theorem dL_floor_15 : decode cL_floor 15 = .ok (.lload_n 0, 1) := by decide +kernel
theorem dL_floor_16 : decode cL_floor 16 = .ok (.lsub, 1) := by decide +kernel
theorem dL_floor_17 : decode cL_floor 17 = .ok (.lload_n 2, 1) := by decide +kernel
theorem dL_floor_18 : decode cL_floor 18 = .ok (.ldiv, 1) := by decide +kernel
theorem dL_floor_19 : decode cL_floor 19 = .ok (.lneg, 1) := by decide +kernel
theorem dL_floor_20 : decode cL_floor 20 = .ok (.lreturn, 1) := by decide +kernel
set_option maxRecDepth 20000 in
theorem ggL_at_L_floor : GoodIn wsL_at wsL_floor := goodIn_r _ [5] (by decide +kernel) (by decide +kernel)
set_option maxRecDepth 20000 in
theorem gL_at_L_floor : GoodIn wsL_at (va_wsS RL 46 yL_floor wsL_floor) := goodIn_app (goodIn_of _ (by decide +kernel)) ggL_at_L_floor
theorem dL_at_0 : decode cL_at 0 = .ok (.iload_n 0, 1) := by decide +kernel
theorem dL_at_1 : decode cL_at 1 = .ok (.i2l, 1) := by decide +kernel
theorem dL_at_2 : decode cL_at 2 = .ok (.iload_n 1, 1) := by decide +kernel
theorem dL_at_3 : decode cL_at 3 = .ok (.i2l, 1) := by decide +kernel
theorem dL_at_4 : decode cL_at 4 = .ok (.lmul, 1) := by decide +kernel
theorem dL_at_5 : decode cL_at 5 = .ok (.ldc2_w 44, 3) := by decide +kernel
theorem dL_at_8 : decode cL_at 8 = .ok (.invokestatic 46, 3) := by decide +kernel
theorem dL_at_11 : decode cL_at 11 = .ok (.l2i, 1) := by decide +kernel
theorem dL_at_12 : decode cL_at 12 = .ok (.ireturn, 1) := by decide +kernel
set_option maxRecDepth 20000 in
theorem ggL_net_L_at : GoodIn wsL_net wsL_at := goodIn_r _ [4, 5, 6, 7, 3, 8] (by decide +kernel) (by decide +kernel)
set_option maxRecDepth 20000 in
theorem gL_net_L_at : GoodIn wsL_net (va_wsS RL 52 yL_at wsL_at) := goodIn_app (goodIn_of _ (by decide +kernel)) ggL_net_L_at
theorem dL_net_0 : decode cL_net 0 = .ok (.aload_n 1, 1) := by decide +kernel
theorem dL_net_1 : decode cL_net 1 = .ok (.bipush 7, 2) := by decide +kernel
theorem dL_net_3 : decode cL_net 3 = .ok (.iload_n 0, 1) := by decide +kernel
theorem dL_net_4 : decode cL_net 4 = .ok (.imul, 1) := by decide +kernel
theorem dL_net_5 : decode cL_net 5 = .ok (.iaload, 1) := by decide +kernel
theorem dL_net_6 : decode cL_net 6 = .ok (.aload_n 1, 1) := by decide +kernel
theorem dL_net_7 : decode cL_net 7 = .ok (.bipush 7, 2) := by decide +kernel
theorem dL_net_9 : decode cL_net 9 = .ok (.iload_n 0, 1) := by decide +kernel
theorem dL_net_10 : decode cL_net 10 = .ok (.imul, 1) := by decide +kernel
theorem dL_net_11 : decode cL_net 11 = .ok (.iconst 4, 1) := by decide +kernel
theorem dL_net_12 : decode cL_net 12 = .ok (.iadd, 1) := by decide +kernel
theorem dL_net_13 : decode cL_net 13 = .ok (.iaload, 1) := by decide +kernel
theorem dL_net_14 : decode cL_net 14 = .ok (.invokestatic 52, 3) := by decide +kernel
theorem dL_net_17 : decode cL_net 17 = .ok (.aload_n 1, 1) := by decide +kernel
theorem dL_net_18 : decode cL_net 18 = .ok (.bipush 7, 2) := by decide +kernel
theorem dL_net_20 : decode cL_net 20 = .ok (.iload_n 0, 1) := by decide +kernel
theorem dL_net_21 : decode cL_net 21 = .ok (.imul, 1) := by decide +kernel
theorem dL_net_22 : decode cL_net 22 = .ok (.iconst 1, 1) := by decide +kernel
theorem dL_net_23 : decode cL_net 23 = .ok (.iadd, 1) := by decide +kernel
theorem dL_net_24 : decode cL_net 24 = .ok (.iaload, 1) := by decide +kernel
theorem dL_net_25 : decode cL_net 25 = .ok (.aload_n 1, 1) := by decide +kernel
theorem dL_net_26 : decode cL_net 26 = .ok (.bipush 7, 2) := by decide +kernel
theorem dL_net_28 : decode cL_net 28 = .ok (.iload_n 0, 1) := by decide +kernel
theorem dL_net_29 : decode cL_net 29 = .ok (.imul, 1) := by decide +kernel
theorem dL_net_30 : decode cL_net 30 = .ok (.iconst 4, 1) := by decide +kernel
theorem dL_net_31 : decode cL_net 31 = .ok (.iadd, 1) := by decide +kernel
theorem dL_net_32 : decode cL_net 32 = .ok (.iaload, 1) := by decide +kernel
theorem dL_net_33 : decode cL_net 33 = .ok (.invokestatic 52, 3) := by decide +kernel
theorem dL_net_36 : decode cL_net 36 = .ok (.isub, 1) := by decide +kernel
theorem dL_net_37 : decode cL_net 37 = .ok (.ireturn, 1) := by decide +kernel
theorem dL_group_0 : decode cL_group 0 = .ok (.iconst 1, 1) := by decide +kernel
theorem dL_group_1 : decode cL_group 1 = .ok (.istore_n 1, 1) := by decide +kernel
theorem dL_group_2 : decode cL_group 2 = .ok (.iconst 0, 1) := by decide +kernel
theorem dL_group_3 : decode cL_group 3 = .ok (.istore_n 2, 1) := by decide +kernel
theorem dL_group_4 : decode cL_group 4 = .ok (.iload_n 2, 1) := by decide +kernel
theorem dL_group_5 : decode cL_group 5 = .ok (.bipush 6, 2) := by decide +kernel
theorem dL_group_7 : decode cL_group 7 = .ok (.if_icmp .ge 88, 3) := by decide +kernel
theorem dL_group_10 : decode cL_group 10 = .ok (.iload_n 1, 1) := by decide +kernel
theorem dL_group_11 : decode cL_group 11 = .ok (.istore_n 3, 1) := by decide +kernel
theorem dL_group_12 : decode cL_group 12 = .ok (.iconst 1, 1) := by decide +kernel
theorem dL_group_13 : decode cL_group 13 = .ok (.istore 4, 2) := by decide +kernel
theorem dL_group_15 : decode cL_group 15 = .ok (.iload 4, 2) := by decide +kernel
theorem dL_group_17 : decode cL_group 17 = .ok (.bipush 6, 2) := by decide +kernel
theorem dL_group_19 : decode cL_group 19 = .ok (.if_icmp .ge 68, 3) := by decide +kernel
theorem dL_group_22 : decode cL_group 22 = .ok (.iconst 0, 1) := by decide +kernel
theorem dL_group_23 : decode cL_group 23 = .ok (.istore 5, 2) := by decide +kernel
theorem dL_group_25 : decode cL_group 25 = .ok (.iconst 0, 1) := by decide +kernel
theorem dL_group_26 : decode cL_group 26 = .ok (.istore 6, 2) := by decide +kernel
theorem dL_group_28 : decode cL_group 28 = .ok (.iload 6, 2) := by decide +kernel
theorem dL_group_30 : decode cL_group 30 = .ok (.bipush 6, 2) := by decide +kernel
theorem dL_group_32 : decode cL_group 32 = .ok (.if_icmp .ge 31, 3) := by decide +kernel
theorem dL_group_35 : decode cL_group 35 = .ok (.iload 5, 2) := by decide +kernel
theorem dL_group_37 : decode cL_group 37 = .ok (.iload_n 1, 1) := by decide +kernel
theorem dL_group_38 : decode cL_group 38 = .ok (.iload 6, 2) := by decide +kernel
theorem dL_group_40 : decode cL_group 40 = .ok (.ishr, 1) := by decide +kernel
theorem dL_group_41 : decode cL_group 41 = .ok (.iconst 1, 1) := by decide +kernel
theorem dL_group_42 : decode cL_group 42 = .ok (.iand, 1) := by decide +kernel
theorem dL_group_43 : decode cL_group 43 = .ok (.aload_n 0, 1) := by decide +kernel
theorem dL_group_44 : decode cL_group 44 = .ok (.bipush 6, 2) := by decide +kernel
theorem dL_group_46 : decode cL_group 46 = .ok (.iload 6, 2) := by decide +kernel
theorem dL_group_48 : decode cL_group 48 = .ok (.imul, 1) := by decide +kernel
theorem dL_group_49 : decode cL_group 49 = .ok (.iload 4, 2) := by decide +kernel
theorem dL_group_51 : decode cL_group 51 = .ok (.iadd, 1) := by decide +kernel
theorem dL_group_52 : decode cL_group 52 = .ok (.iaload, 1) := by decide +kernel
theorem dL_group_53 : decode cL_group 53 = .ok (.imul, 1) := by decide +kernel
theorem dL_group_54 : decode cL_group 54 = .ok (.iadd, 1) := by decide +kernel
theorem dL_group_55 : decode cL_group 55 = .ok (.istore 5, 2) := by decide +kernel
theorem dL_group_57 : decode cL_group 57 = .ok (.iinc 6 1, 3) := by decide +kernel
theorem dL_group_60 : decode cL_group 60 = .ok (.goto (-32), 3) := by decide +kernel
theorem dL_group_63 : decode cL_group 63 = .ok (.iload_n 3, 1) := by decide +kernel
theorem dL_group_64 : decode cL_group 64 = .ok (.iload 5, 2) := by decide +kernel
theorem dL_group_66 : decode cL_group 66 = .ok (.bipush 50, 2) := by decide +kernel
theorem dL_group_68 : decode cL_group 68 = .ok (.if_icmp .le 10, 3) := by decide +kernel
theorem dL_group_71 : decode cL_group 71 = .ok (.iconst 1, 1) := by decide +kernel
theorem dL_group_72 : decode cL_group 72 = .ok (.iload 4, 2) := by decide +kernel
theorem dL_group_74 : decode cL_group 74 = .ok (.ishl, 1) := by decide +kernel
theorem dL_group_75 : decode cL_group 75 = .ok (.goto 4, 3) := by decide +kernel
theorem dL_group_78 : decode cL_group 78 = .ok (.iconst 0, 1) := by decide +kernel
theorem dL_group_79 : decode cL_group 79 = .ok (.ior, 1) := by decide +kernel
theorem dL_group_80 : decode cL_group 80 = .ok (.istore_n 3, 1) := by decide +kernel
theorem dL_group_81 : decode cL_group 81 = .ok (.iinc 4 1, 3) := by decide +kernel
theorem dL_group_84 : decode cL_group 84 = .ok (.goto (-69), 3) := by decide +kernel
theorem dL_group_87 : decode cL_group 87 = .ok (.iload_n 3, 1) := by decide +kernel
theorem dL_group_88 : decode cL_group 88 = .ok (.istore_n 1, 1) := by decide +kernel
theorem dL_group_89 : decode cL_group 89 = .ok (.iinc 2 1, 3) := by decide +kernel
theorem dL_group_92 : decode cL_group 92 = .ok (.goto (-88), 3) := by decide +kernel
theorem dL_group_95 : decode cL_group 95 = .ok (.iload_n 1, 1) := by decide +kernel
theorem dL_group_96 : decode cL_group 96 = .ok (.ireturn, 1) := by decide +kernel
theorem dL_inverse_0 : decode cL_inverse 0 = .ok (.lconst 1, 1) := by decide +kernel
theorem dL_inverse_1 : decode cL_inverse 1 = .ok (.lstore 4, 2) := by decide +kernel
theorem dL_inverse_3 : decode cL_inverse 3 = .ok (.lload_n 0, 1) := by decide +kernel
theorem dL_inverse_4 : decode cL_inverse 4 = .ok (.lload_n 2, 1) := by decide +kernel
theorem dL_inverse_5 : decode cL_inverse 5 = .ok (.lrem, 1) := by decide +kernel
theorem dL_inverse_6 : decode cL_inverse 6 = .ok (.lstore 6, 2) := by decide +kernel
theorem dL_inverse_8 : decode cL_inverse 8 = .ok (.lload_n 2, 1) := by decide +kernel
theorem dL_inverse_9 : decode cL_inverse 9 = .ok (.ldc2_w 55, 3) := by decide +kernel
theorem dL_inverse_12 : decode cL_inverse 12 = .ok (.lsub, 1) := by decide +kernel
theorem dL_inverse_13 : decode cL_inverse 13 = .ok (.lstore 8, 2) := by decide +kernel
theorem dL_inverse_15 : decode cL_inverse 15 = .ok (.lload 8, 2) := by decide +kernel
theorem dL_inverse_17 : decode cL_inverse 17 = .ok (.lconst 0, 1) := by decide +kernel
theorem dL_inverse_18 : decode cL_inverse 18 = .ok (.lcmp, 1) := by decide +kernel
theorem dL_inverse_19 : decode cL_inverse 19 = .ok (.ifCond .le 48, 3) := by decide +kernel
theorem dL_inverse_22 : decode cL_inverse 22 = .ok (.lload 8, 2) := by decide +kernel
theorem dL_inverse_24 : decode cL_inverse 24 = .ok (.ldc2_w 55, 3) := by decide +kernel
theorem dL_inverse_27 : decode cL_inverse 27 = .ok (.lrem, 1) := by decide +kernel
theorem dL_inverse_28 : decode cL_inverse 28 = .ok (.lconst 1, 1) := by decide +kernel
theorem dL_inverse_29 : decode cL_inverse 29 = .ok (.lcmp, 1) := by decide +kernel
theorem dL_inverse_30 : decode cL_inverse 30 = .ok (.ifCond .ne 13, 3) := by decide +kernel
theorem dL_inverse_33 : decode cL_inverse 33 = .ok (.lload 4, 2) := by decide +kernel
theorem dL_inverse_35 : decode cL_inverse 35 = .ok (.lload 6, 2) := by decide +kernel
theorem dL_inverse_37 : decode cL_inverse 37 = .ok (.lmul, 1) := by decide +kernel
theorem dL_inverse_38 : decode cL_inverse 38 = .ok (.lload_n 2, 1) := by decide +kernel
theorem dL_inverse_39 : decode cL_inverse 39 = .ok (.lrem, 1) := by decide +kernel
theorem dL_inverse_40 : decode cL_inverse 40 = .ok (.goto 5, 3) := by decide +kernel
theorem dL_inverse_43 : decode cL_inverse 43 = .ok (.lload 4, 2) := by decide +kernel
theorem dL_inverse_45 : decode cL_inverse 45 = .ok (.lstore 4, 2) := by decide +kernel
theorem dL_inverse_47 : decode cL_inverse 47 = .ok (.lload 6, 2) := by decide +kernel
theorem dL_inverse_49 : decode cL_inverse 49 = .ok (.lload 6, 2) := by decide +kernel
theorem dL_inverse_51 : decode cL_inverse 51 = .ok (.lmul, 1) := by decide +kernel
theorem dL_inverse_52 : decode cL_inverse 52 = .ok (.lload_n 2, 1) := by decide +kernel
theorem dL_inverse_53 : decode cL_inverse 53 = .ok (.lrem, 1) := by decide +kernel
theorem dL_inverse_54 : decode cL_inverse 54 = .ok (.lstore 6, 2) := by decide +kernel
theorem dL_inverse_56 : decode cL_inverse 56 = .ok (.lload 8, 2) := by decide +kernel
theorem dL_inverse_58 : decode cL_inverse 58 = .ok (.ldc2_w 55, 3) := by decide +kernel
theorem dL_inverse_61 : decode cL_inverse 61 = .ok (.ldiv, 1) := by decide +kernel
theorem dL_inverse_62 : decode cL_inverse 62 = .ok (.lstore 8, 2) := by decide +kernel
theorem dL_inverse_64 : decode cL_inverse 64 = .ok (.goto (-49), 3) := by decide +kernel
theorem dL_inverse_67 : decode cL_inverse 67 = .ok (.lload 4, 2) := by decide +kernel
theorem dL_inverse_69 : decode cL_inverse 69 = .ok (.lreturn, 1) := by decide +kernel
theorem dL_common_0 : decode cL_common 0 = .ok (.lload_n 0, 1) := by decide +kernel
theorem dL_common_1 : decode cL_common 1 = .ok (.lstore 4, 2) := by decide +kernel
theorem dL_common_3 : decode cL_common 3 = .ok (.lload_n 2, 1) := by decide +kernel
theorem dL_common_4 : decode cL_common 4 = .ok (.lstore 6, 2) := by decide +kernel
theorem dL_common_6 : decode cL_common 6 = .ok (.lload 6, 2) := by decide +kernel
theorem dL_common_8 : decode cL_common 8 = .ok (.lconst 0, 1) := by decide +kernel
theorem dL_common_9 : decode cL_common 9 = .ok (.lcmp, 1) := by decide +kernel
theorem dL_common_10 : decode cL_common 10 = .ok (.ifCond .eq 21, 3) := by decide +kernel
theorem dL_common_13 : decode cL_common 13 = .ok (.lload 4, 2) := by decide +kernel
theorem dL_common_15 : decode cL_common 15 = .ok (.lload 6, 2) := by decide +kernel
theorem dL_common_17 : decode cL_common 17 = .ok (.lrem, 1) := by decide +kernel
theorem dL_common_18 : decode cL_common 18 = .ok (.lstore 8, 2) := by decide +kernel
theorem dL_common_20 : decode cL_common 20 = .ok (.lload 6, 2) := by decide +kernel
theorem dL_common_22 : decode cL_common 22 = .ok (.lstore 4, 2) := by decide +kernel
theorem dL_common_24 : decode cL_common 24 = .ok (.lload 8, 2) := by decide +kernel
theorem dL_common_26 : decode cL_common 26 = .ok (.lstore 6, 2) := by decide +kernel
theorem dL_common_28 : decode cL_common 28 = .ok (.goto (-22), 3) := by decide +kernel
theorem dL_common_31 : decode cL_common 31 = .ok (.lload 4, 2) := by decide +kernel
theorem dL_common_33 : decode cL_common 33 = .ok (.lreturn, 1) := by decide +kernel
set_option maxRecDepth 20000 in
theorem ggL_shares_X3_shareNumerator : GoodIn wsL_shares wsX3_shareNumerator := goodIn_ca (goodIn_r _ [6, 7, 8, 9, 5, 10, 11, 12, 13, 14, 15, 16, 17, 18, 19, 20, 37, 38, 39, 40, 41, 42, 43, 44, 45, 46, 47, 48] (by decide +kernel) (by decide +kernel)) (goodIn_sub (fun _ h => List.mem_cons_of_mem _ (List.mem_append_right _ h)) (by decide +kernel))
set_option maxRecDepth 20000 in
theorem gL_shares_X3_shareNumerator : GoodIn wsL_shares (wsV RL 57 RX3 yX3_shareNumerator wsX3_shareNumerator) := goodIn_app (goodIn_of _ (by decide +kernel)) ggL_shares_X3_shareNumerator
set_option maxRecDepth 20000 in
theorem ggL_shares_X3_shareDenominator : GoodIn wsL_shares wsX3_shareDenominator := goodIn_ca (goodIn_r _ [24, 7, 8, 9, 5, 10, 11, 12, 13, 14, 15, 25, 17, 26, 27, 28, 37, 38, 39, 40, 41, 42, 43, 44, 45, 46, 47, 48] (by decide +kernel) (by decide +kernel)) (goodIn_sub (fun _ h => List.mem_cons_of_mem _ (List.mem_append_right _ h)) (by decide +kernel))
set_option maxRecDepth 20000 in
theorem gL_shares_X3_shareDenominator : GoodIn wsL_shares (wsV RL 61 RX3 yX3_shareDenominator wsX3_shareDenominator) := goodIn_app (goodIn_of _ (by decide +kernel)) ggL_shares_X3_shareDenominator
set_option maxRecDepth 20000 in
theorem ggL_shares_L_common : GoodIn wsL_shares wsL_common := goodIn_r _ [32] (by decide +kernel) (by decide +kernel)
set_option maxRecDepth 20000 in
theorem gL_shares_L_common : GoodIn wsL_shares (va_wsS RL 64 yL_common wsL_common) := goodIn_app (goodIn_of _ (by decide +kernel)) ggL_shares_L_common
set_option maxRecDepth 20000 in
theorem ggL_shares_L_inverse : GoodIn wsL_shares wsL_inverse := goodIn_r _ [35, 36] (by decide +kernel) (by decide +kernel)
set_option maxRecDepth 20000 in
theorem gL_shares_L_inverse : GoodIn wsL_shares (va_wsS RL 67 yL_inverse wsL_inverse) := goodIn_app (goodIn_of _ (by decide +kernel)) ggL_shares_L_inverse
theorem dL_shares_0 : decode cL_shares 0 = .ok (.aload_n 0, 1) := by decide +kernel
theorem dL_shares_1 : decode cL_shares 1 = .ok (.iconst 0, 1) := by decide +kernel
theorem dL_shares_2 : decode cL_shares 2 = .ok (.invokevirtual 57, 3) := by decide +kernel
theorem dL_shares_5 : decode cL_shares 5 = .ok (.lconst 1, 1) := by decide +kernel
theorem dL_shares_6 : decode cL_shares 6 = .ok (.lcmp, 1) := by decide +kernel
theorem dL_shares_7 : decode cL_shares 7 = .ok (.ifCond .ne 17, 3) := by decide +kernel
theorem dL_shares_10 : decode cL_shares 10 = .ok (.aload_n 0, 1) := by decide +kernel
theorem dL_shares_11 : decode cL_shares 11 = .ok (.iconst 0, 1) := by decide +kernel
theorem dL_shares_12 : decode cL_shares 12 = .ok (.invokevirtual 61, 3) := by decide +kernel
theorem dL_shares_15 : decode cL_shares 15 = .ok (.lconst 1, 1) := by decide +kernel
theorem dL_shares_16 : decode cL_shares 16 = .ok (.lcmp, 1) := by decide +kernel
theorem dL_shares_17 : decode cL_shares 17 = .ok (.ifCond .ne 7, 3) := by decide +kernel
theorem dL_shares_20 : decode cL_shares 20 = .ok (.iconst 1, 1) := by decide +kernel
theorem dL_shares_21 : decode cL_shares 21 = .ok (.goto 4, 3) := by decide +kernel
theorem dL_shares_24 : decode cL_shares 24 = .ok (.iconst 0, 1) := by decide +kernel
theorem dL_shares_25 : decode cL_shares 25 = .ok (.istore 4, 2) := by decide +kernel
theorem dL_shares_27 : decode cL_shares 27 = .ok (.iconst 1, 1) := by decide +kernel
theorem dL_shares_28 : decode cL_shares 28 = .ok (.istore 5, 2) := by decide +kernel
theorem dL_shares_30 : decode cL_shares 30 = .ok (.iconst 1, 1) := by decide +kernel
theorem dL_shares_31 : decode cL_shares 31 = .ok (.istore 6, 2) := by decide +kernel
theorem dL_shares_33 : decode cL_shares 33 = .ok (.iload 6, 2) := by decide +kernel
theorem dL_shares_35 : decode cL_shares 35 = .ok (.bipush 6, 2) := by decide +kernel
theorem dL_shares_37 : decode cL_shares 37 = .ok (.if_icmp .ge 92, 3) := by decide +kernel
theorem dL_shares_40 : decode cL_shares 40 = .ok (.iload 4, 2) := by decide +kernel
theorem dL_shares_42 : decode cL_shares 42 = .ok (.ifCond .eq 87, 3) := by decide +kernel
theorem dL_shares_45 : decode cL_shares 45 = .ok (.aload_n 0, 1) := by decide +kernel
theorem dL_shares_46 : decode cL_shares 46 = .ok (.iload 6, 2) := by decide +kernel
theorem dL_shares_48 : decode cL_shares 48 = .ok (.invokevirtual 57, 3) := by decide +kernel
theorem dL_shares_51 : decode cL_shares 51 = .ok (.lstore 7, 2) := by decide +kernel
theorem dL_shares_53 : decode cL_shares 53 = .ok (.aload_n 0, 1) := by decide +kernel
theorem dL_shares_54 : decode cL_shares 54 = .ok (.iload 6, 2) := by decide +kernel
theorem dL_shares_56 : decode cL_shares 56 = .ok (.invokevirtual 61, 3) := by decide +kernel
theorem dL_shares_59 : decode cL_shares 59 = .ok (.lstore 9, 2) := by decide +kernel
theorem dL_shares_61 : decode cL_shares 61 = .ok (.lload 9, 2) := by decide +kernel
theorem dL_shares_63 : decode cL_shares 63 = .ok (.lconst 0, 1) := by decide +kernel
theorem dL_shares_64 : decode cL_shares 64 = .ok (.lcmp, 1) := by decide +kernel
theorem dL_shares_65 : decode cL_shares 65 = .ok (.ifCond .le 34, 3) := by decide +kernel
theorem dL_shares_68 : decode cL_shares 68 = .ok (.lload 7, 2) := by decide +kernel
theorem dL_shares_70 : decode cL_shares 70 = .ok (.lconst 0, 1) := by decide +kernel
theorem dL_shares_71 : decode cL_shares 71 = .ok (.lcmp, 1) := by decide +kernel
theorem dL_shares_72 : decode cL_shares 72 = .ok (.ifCond .lt 27, 3) := by decide +kernel
theorem dL_shares_75 : decode cL_shares 75 = .ok (.lload 7, 2) := by decide +kernel
theorem dL_shares_77 : decode cL_shares 77 = .ok (.lload 9, 2) := by decide +kernel
theorem dL_shares_79 : decode cL_shares 79 = .ok (.lcmp, 1) := by decide +kernel
theorem dL_shares_80 : decode cL_shares 80 = .ok (.ifCond .gt 19, 3) := by decide +kernel
theorem dL_shares_83 : decode cL_shares 83 = .ok (.lload 9, 2) := by decide +kernel
theorem dL_shares_85 : decode cL_shares 85 = .ok (.lload 7, 2) := by decide +kernel
theorem dL_shares_87 : decode cL_shares 87 = .ok (.invokestatic 64, 3) := by decide +kernel
theorem dL_shares_90 : decode cL_shares 90 = .ok (.lconst 1, 1) := by decide +kernel
theorem dL_shares_91 : decode cL_shares 91 = .ok (.lcmp, 1) := by decide +kernel
theorem dL_shares_92 : decode cL_shares 92 = .ok (.ifCond .ne 7, 3) := by decide +kernel
theorem dL_shares_95 : decode cL_shares 95 = .ok (.iconst 1, 1) := by decide +kernel
theorem dL_shares_96 : decode cL_shares 96 = .ok (.goto 4, 3) := by decide +kernel
theorem dL_shares_99 : decode cL_shares 99 = .ok (.iconst 0, 1) := by decide +kernel
theorem dL_shares_100 : decode cL_shares 100 = .ok (.istore 4, 2) := by decide +kernel
theorem dL_shares_102 : decode cL_shares 102 = .ok (.iload 5, 2) := by decide +kernel
theorem dL_shares_104 : decode cL_shares 104 = .ok (.ifCond .eq 16, 3) := by decide +kernel
theorem dL_shares_107 : decode cL_shares 107 = .ok (.lload 9, 2) := by decide +kernel
theorem dL_shares_109 : decode cL_shares 109 = .ok (.lload_n 2, 1) := by decide +kernel
theorem dL_shares_110 : decode cL_shares 110 = .ok (.lrem, 1) := by decide +kernel
theorem dL_shares_111 : decode cL_shares 111 = .ok (.lconst 0, 1) := by decide +kernel
theorem dL_shares_112 : decode cL_shares 112 = .ok (.lcmp, 1) := by decide +kernel
theorem dL_shares_113 : decode cL_shares 113 = .ok (.ifCond .eq 7, 3) := by decide +kernel
theorem dL_shares_116 : decode cL_shares 116 = .ok (.iconst 1, 1) := by decide +kernel
theorem dL_shares_117 : decode cL_shares 117 = .ok (.goto 4, 3) := by decide +kernel
theorem dL_shares_120 : decode cL_shares 120 = .ok (.iconst 0, 1) := by decide +kernel
theorem dL_shares_121 : decode cL_shares 121 = .ok (.istore 5, 2) := by decide +kernel
theorem dL_shares_123 : decode cL_shares 123 = .ok (.iinc 6 1, 3) := by decide +kernel
theorem dL_shares_126 : decode cL_shares 126 = .ok (.goto (-93), 3) := by decide +kernel
theorem dL_shares_129 : decode cL_shares 129 = .ok (.iconst 1, 1) := by decide +kernel
theorem dL_shares_130 : decode cL_shares 130 = .ok (.istore 6, 2) := by decide +kernel
theorem dL_shares_132 : decode cL_shares 132 = .ok (.iload 6, 2) := by decide +kernel
theorem dL_shares_134 : decode cL_shares 134 = .ok (.bipush 6, 2) := by decide +kernel
theorem dL_shares_136 : decode cL_shares 136 = .ok (.if_icmp .ge 122, 3) := by decide +kernel
theorem dL_shares_139 : decode cL_shares 139 = .ok (.iload 4, 2) := by decide +kernel
theorem dL_shares_141 : decode cL_shares 141 = .ok (.ifCond .eq 117, 3) := by decide +kernel
theorem dL_shares_144 : decode cL_shares 144 = .ok (.iload 5, 2) := by decide +kernel
theorem dL_shares_146 : decode cL_shares 146 = .ok (.ifCond .eq 112, 3) := by decide +kernel
theorem dL_shares_149 : decode cL_shares 149 = .ok (.lconst 0, 1) := by decide +kernel
theorem dL_shares_150 : decode cL_shares 150 = .ok (.lstore 7, 2) := by decide +kernel
theorem dL_shares_152 : decode cL_shares 152 = .ok (.iconst 0, 1) := by decide +kernel
theorem dL_shares_153 : decode cL_shares 153 = .ok (.istore 9, 2) := by decide +kernel
theorem dL_shares_155 : decode cL_shares 155 = .ok (.iload 9, 2) := by decide +kernel
theorem dL_shares_157 : decode cL_shares 157 = .ok (.bipush 6, 2) := by decide +kernel
theorem dL_shares_159 : decode cL_shares 159 = .ok (.if_icmp .ge 53, 3) := by decide +kernel
theorem dL_shares_162 : decode cL_shares 162 = .ok (.aload_n 0, 1) := by decide +kernel
theorem dL_shares_163 : decode cL_shares 163 = .ok (.iload 9, 2) := by decide +kernel
theorem dL_shares_165 : decode cL_shares 165 = .ok (.invokevirtual 57, 3) := by decide +kernel
theorem dL_shares_168 : decode cL_shares 168 = .ok (.lload_n 2, 1) := by decide +kernel
theorem dL_shares_169 : decode cL_shares 169 = .ok (.lrem, 1) := by decide +kernel
theorem dL_shares_170 : decode cL_shares 170 = .ok (.aload_n 0, 1) := by decide +kernel
theorem dL_shares_171 : decode cL_shares 171 = .ok (.iload 9, 2) := by decide +kernel
theorem dL_shares_173 : decode cL_shares 173 = .ok (.invokevirtual 61, 3) := by decide +kernel
theorem dL_shares_176 : decode cL_shares 176 = .ok (.lload_n 2, 1) := by decide +kernel
theorem dL_shares_177 : decode cL_shares 177 = .ok (.invokestatic 67, 3) := by decide +kernel
theorem dL_shares_180 : decode cL_shares 180 = .ok (.lmul, 1) := by decide +kernel
theorem dL_shares_181 : decode cL_shares 181 = .ok (.lload_n 2, 1) := by decide +kernel
theorem dL_shares_182 : decode cL_shares 182 = .ok (.lrem, 1) := by decide +kernel
theorem dL_shares_183 : decode cL_shares 183 = .ok (.lstore 10, 2) := by decide +kernel
theorem dL_shares_185 : decode cL_shares 185 = .ok (.lload 7, 2) := by decide +kernel
theorem dL_shares_187 : decode cL_shares 187 = .ok (.aload_n 1, 1) := by decide +kernel
theorem dL_shares_188 : decode cL_shares 188 = .ok (.bipush 6, 2) := by decide +kernel
theorem dL_shares_190 : decode cL_shares 190 = .ok (.iload 9, 2) := by decide +kernel
theorem dL_shares_192 : decode cL_shares 192 = .ok (.imul, 1) := by decide +kernel
theorem dL_shares_193 : decode cL_shares 193 = .ok (.iload 6, 2) := by decide +kernel
theorem dL_shares_195 : decode cL_shares 195 = .ok (.iadd, 1) := by decide +kernel
theorem dL_shares_196 : decode cL_shares 196 = .ok (.iaload, 1) := by decide +kernel
theorem dL_shares_197 : decode cL_shares 197 = .ok (.i2l, 1) := by decide +kernel
theorem dL_shares_198 : decode cL_shares 198 = .ok (.lload 10, 2) := by decide +kernel
theorem dL_shares_200 : decode cL_shares 200 = .ok (.lmul, 1) := by decide +kernel
theorem dL_shares_201 : decode cL_shares 201 = .ok (.ladd, 1) := by decide +kernel
theorem dL_shares_202 : decode cL_shares 202 = .ok (.lload_n 2, 1) := by decide +kernel
theorem dL_shares_203 : decode cL_shares 203 = .ok (.lrem, 1) := by decide +kernel
theorem dL_shares_204 : decode cL_shares 204 = .ok (.lstore 7, 2) := by decide +kernel
theorem dL_shares_206 : decode cL_shares 206 = .ok (.iinc 9 1, 3) := by decide +kernel
theorem dL_shares_209 : decode cL_shares 209 = .ok (.goto (-54), 3) := by decide +kernel
theorem dL_shares_212 : decode cL_shares 212 = .ok (.lload 7, 2) := by decide +kernel
theorem dL_shares_214 : decode cL_shares 214 = .ok (.ldc2_w 44, 3) := by decide +kernel
theorem dL_shares_217 : decode cL_shares 217 = .ok (.aload_n 0, 1) := by decide +kernel
theorem dL_shares_218 : decode cL_shares 218 = .ok (.iload 6, 2) := by decide +kernel
theorem dL_shares_220 : decode cL_shares 220 = .ok (.invokevirtual 57, 3) := by decide +kernel
theorem dL_shares_223 : decode cL_shares 223 = .ok (.lload_n 2, 1) := by decide +kernel
theorem dL_shares_224 : decode cL_shares 224 = .ok (.lrem, 1) := by decide +kernel
theorem dL_shares_225 : decode cL_shares 225 = .ok (.aload_n 0, 1) := by decide +kernel
theorem dL_shares_226 : decode cL_shares 226 = .ok (.iload 6, 2) := by decide +kernel
theorem dL_shares_228 : decode cL_shares 228 = .ok (.invokevirtual 61, 3) := by decide +kernel
theorem dL_shares_231 : decode cL_shares 231 = .ok (.lload_n 2, 1) := by decide +kernel
theorem dL_shares_232 : decode cL_shares 232 = .ok (.invokestatic 67, 3) := by decide +kernel
theorem dL_shares_235 : decode cL_shares 235 = .ok (.lmul, 1) := by decide +kernel
theorem dL_shares_236 : decode cL_shares 236 = .ok (.lload_n 2, 1) := by decide +kernel
theorem dL_shares_237 : decode cL_shares 237 = .ok (.lrem, 1) := by decide +kernel
theorem dL_shares_238 : decode cL_shares 238 = .ok (.lmul, 1) := by decide +kernel
theorem dL_shares_239 : decode cL_shares 239 = .ok (.lload_n 2, 1) := by decide +kernel
theorem dL_shares_240 : decode cL_shares 240 = .ok (.lrem, 1) := by decide +kernel
theorem dL_shares_241 : decode cL_shares 241 = .ok (.lcmp, 1) := by decide +kernel
theorem dL_shares_242 : decode cL_shares 242 = .ok (.ifCond .ne 7, 3) := by decide +kernel
theorem dL_shares_245 : decode cL_shares 245 = .ok (.iconst 1, 1) := by decide +kernel
theorem dL_shares_246 : decode cL_shares 246 = .ok (.goto 4, 3) := by decide +kernel
theorem dL_shares_249 : decode cL_shares 249 = .ok (.iconst 0, 1) := by decide +kernel
theorem dL_shares_250 : decode cL_shares 250 = .ok (.istore 4, 2) := by decide +kernel
theorem dL_shares_252 : decode cL_shares 252 = .ok (.iinc 6 1, 3) := by decide +kernel
theorem dL_shares_255 : decode cL_shares 255 = .ok (.goto (-123), 3) := by decide +kernel
theorem dL_shares_258 : decode cL_shares 258 = .ok (.iload 4, 2) := by decide +kernel
theorem dL_shares_260 : decode cL_shares 260 = .ok (.ireturn, 1) := by decide +kernel
theorem dL_rounds_0 : decode cL_rounds 0 = .ok (.iconst 0, 1) := by decide +kernel
theorem dL_rounds_1 : decode cL_rounds 1 = .ok (.istore 5, 2) := by decide +kernel
theorem dL_rounds_3 : decode cL_rounds 3 = .ok (.iload 5, 2) := by decide +kernel
theorem dL_rounds_5 : decode cL_rounds 5 = .ok (.bipush 6, 2) := by decide +kernel
theorem dL_rounds_7 : decode cL_rounds 7 = .ok (.if_icmp .ge 24, 3) := by decide +kernel
theorem dL_rounds_10 : decode cL_rounds 10 = .ok (.aload_n 3, 1) := by decide +kernel
theorem dL_rounds_11 : decode cL_rounds 11 = .ok (.iload 5, 2) := by decide +kernel
theorem dL_rounds_13 : decode cL_rounds 13 = .ok (.iload 5, 2) := by decide +kernel
theorem dL_rounds_15 : decode cL_rounds 15 = .ok (.ifCond .ne 8, 3) := by decide +kernel
theorem dL_rounds_18 : decode cL_rounds 18 = .ok (.ldc 70, 2) := by decide +kernel
theorem dL_rounds_20 : decode cL_rounds 20 = .ok (.goto 4, 3) := by decide +kernel
theorem dL_rounds_23 : decode cL_rounds 23 = .ok (.iconst 0, 1) := by decide +kernel
theorem dL_rounds_24 : decode cL_rounds 24 = .ok (.iastore, 1) := by decide +kernel
theorem dL_rounds_25 : decode cL_rounds 25 = .ok (.iinc 5 1, 3) := by decide +kernel
theorem dL_rounds_28 : decode cL_rounds 28 = .ok (.goto (-25), 3) := by decide +kernel
theorem dL_rounds_31 : decode cL_rounds 31 = .ok (.iconst 0, 1) := by decide +kernel
theorem dL_rounds_32 : decode cL_rounds 32 = .ok (.istore 5, 2) := by decide +kernel
theorem dL_rounds_34 : decode cL_rounds 34 = .ok (.iload 5, 2) := by decide +kernel
theorem dL_rounds_36 : decode cL_rounds 36 = .ok (.iload_n 1, 1) := by decide +kernel
theorem dL_rounds_37 : decode cL_rounds 37 = .ok (.if_icmp .ge 98, 3) := by decide +kernel
theorem dL_rounds_40 : decode cL_rounds 40 = .ok (.iconst 0, 1) := by decide +kernel
theorem dL_rounds_41 : decode cL_rounds 41 = .ok (.istore 6, 2) := by decide +kernel
theorem dL_rounds_43 : decode cL_rounds 43 = .ok (.iload 6, 2) := by decide +kernel
theorem dL_rounds_45 : decode cL_rounds 45 = .ok (.bipush 6, 2) := by decide +kernel
theorem dL_rounds_47 : decode cL_rounds 47 = .ok (.if_icmp .ge 54, 3) := by decide +kernel
theorem dL_rounds_50 : decode cL_rounds 50 = .ok (.aload 4, 2) := by decide +kernel
theorem dL_rounds_52 : decode cL_rounds 52 = .ok (.iload 6, 2) := by decide +kernel
theorem dL_rounds_54 : decode cL_rounds 54 = .ok (.iconst 0, 1) := by decide +kernel
theorem dL_rounds_55 : decode cL_rounds 55 = .ok (.iastore, 1) := by decide +kernel
theorem dL_rounds_56 : decode cL_rounds 56 = .ok (.iconst 0, 1) := by decide +kernel
theorem dL_rounds_57 : decode cL_rounds 57 = .ok (.istore 7, 2) := by decide +kernel
theorem dL_rounds_59 : decode cL_rounds 59 = .ok (.iload 7, 2) := by decide +kernel
theorem dL_rounds_61 : decode cL_rounds 61 = .ok (.bipush 6, 2) := by decide +kernel
theorem dL_rounds_63 : decode cL_rounds 63 = .ok (.if_icmp .ge 32, 3) := by decide +kernel
theorem dL_rounds_66 : decode cL_rounds 66 = .ok (.aload 4, 2) := by decide +kernel
theorem dL_rounds_68 : decode cL_rounds 68 = .ok (.iload 6, 2) := by decide +kernel
theorem dL_rounds_70 : decode cL_rounds 70 = .ok (.dup2, 1) := by decide +kernel
theorem dL_rounds_71 : decode cL_rounds 71 = .ok (.iaload, 1) := by decide +kernel
theorem dL_rounds_72 : decode cL_rounds 72 = .ok (.aload_n 2, 1) := by decide +kernel
theorem dL_rounds_73 : decode cL_rounds 73 = .ok (.bipush 6, 2) := by decide +kernel
theorem dL_rounds_75 : decode cL_rounds 75 = .ok (.iload 7, 2) := by decide +kernel
theorem dL_rounds_77 : decode cL_rounds 77 = .ok (.imul, 1) := by decide +kernel
theorem dL_rounds_78 : decode cL_rounds 78 = .ok (.iload 6, 2) := by decide +kernel
theorem dL_rounds_80 : decode cL_rounds 80 = .ok (.iadd, 1) := by decide +kernel
theorem dL_rounds_81 : decode cL_rounds 81 = .ok (.iaload, 1) := by decide +kernel
theorem dL_rounds_82 : decode cL_rounds 82 = .ok (.aload_n 3, 1) := by decide +kernel
theorem dL_rounds_83 : decode cL_rounds 83 = .ok (.iload 7, 2) := by decide +kernel
theorem dL_rounds_85 : decode cL_rounds 85 = .ok (.iaload, 1) := by decide +kernel
theorem dL_rounds_86 : decode cL_rounds 86 = .ok (.imul, 1) := by decide +kernel
theorem dL_rounds_87 : decode cL_rounds 87 = .ok (.iadd, 1) := by decide +kernel
theorem dL_rounds_88 : decode cL_rounds 88 = .ok (.iastore, 1) := by decide +kernel
theorem dL_rounds_89 : decode cL_rounds 89 = .ok (.iinc 7 1, 3) := by decide +kernel
theorem dL_rounds_92 : decode cL_rounds 92 = .ok (.goto (-33), 3) := by decide +kernel
theorem dL_rounds_95 : decode cL_rounds 95 = .ok (.iinc 6 1, 3) := by decide +kernel
theorem dL_rounds_98 : decode cL_rounds 98 = .ok (.goto (-55), 3) := by decide +kernel
theorem dL_rounds_101 : decode cL_rounds 101 = .ok (.iconst 1, 1) := by decide +kernel
theorem dL_rounds_102 : decode cL_rounds 102 = .ok (.istore 6, 2) := by decide +kernel
theorem dL_rounds_104 : decode cL_rounds 104 = .ok (.iload 6, 2) := by decide +kernel
theorem dL_rounds_106 : decode cL_rounds 106 = .ok (.bipush 6, 2) := by decide +kernel
theorem dL_rounds_108 : decode cL_rounds 108 = .ok (.if_icmp .ge 21, 3) := by decide +kernel
theorem dL_rounds_111 : decode cL_rounds 111 = .ok (.aload_n 3, 1) := by decide +kernel
theorem dL_rounds_112 : decode cL_rounds 112 = .ok (.iload 6, 2) := by decide +kernel
theorem dL_rounds_114 : decode cL_rounds 114 = .ok (.aload 4, 2) := by decide +kernel
theorem dL_rounds_116 : decode cL_rounds 116 = .ok (.iload 6, 2) := by decide +kernel
theorem dL_rounds_118 : decode cL_rounds 118 = .ok (.iaload, 1) := by decide +kernel
theorem dL_rounds_119 : decode cL_rounds 119 = .ok (.bipush 100, 2) := by decide +kernel
theorem dL_rounds_121 : decode cL_rounds 121 = .ok (.idiv, 1) := by decide +kernel
theorem dL_rounds_122 : decode cL_rounds 122 = .ok (.iastore, 1) := by decide +kernel
theorem dL_rounds_123 : decode cL_rounds 123 = .ok (.iinc 6 1, 3) := by decide +kernel
theorem dL_rounds_126 : decode cL_rounds 126 = .ok (.goto (-22), 3) := by decide +kernel
theorem dL_rounds_129 : decode cL_rounds 129 = .ok (.iinc 5 1, 3) := by decide +kernel
theorem dL_rounds_132 : decode cL_rounds 132 = .ok (.goto (-98), 3) := by decide +kernel
theorem dL_rounds_135 : decode cL_rounds 135 = .ok (.aload_n 3, 1) := by decide +kernel
theorem dL_rounds_136 : decode cL_rounds 136 = .ok (.iload_n 0, 1) := by decide +kernel
theorem dL_rounds_137 : decode cL_rounds 137 = .ok (.iaload, 1) := by decide +kernel
theorem dL_rounds_138 : decode cL_rounds 138 = .ok (.ireturn, 1) := by decide +kernel
set_option maxRecDepth 20000 in
theorem ggL_result_L_at : GoodIn wsL_result wsL_at := goodIn_r _ [4, 5, 6, 7, 3, 8] (by decide +kernel) (by decide +kernel)
set_option maxRecDepth 20000 in
theorem gL_result_L_at : GoodIn wsL_result (va_wsS RL 52 yL_at wsL_at) := goodIn_app (goodIn_of _ (by decide +kernel)) ggL_result_L_at
set_option maxRecDepth 20000 in
theorem ggL_result_X3_shareNumerator : GoodIn wsL_result wsX3_shareNumerator := goodIn_ca (goodIn_r _ [13, 14, 15, 16, 12, 17, 18, 19, 20, 21, 22, 23, 24, 25, 26, 27, 36, 37, 38, 39, 40, 41, 42, 43, 44, 45, 46, 47] (by decide +kernel) (by decide +kernel)) (goodIn_sub (fun _ h => List.mem_cons_of_mem _ (List.mem_append_right _ h)) (by decide +kernel))
set_option maxRecDepth 20000 in
theorem gL_result_X3_shareNumerator : GoodIn wsL_result (wsV RL 57 RX3 yX3_shareNumerator wsX3_shareNumerator) := goodIn_app (goodIn_of _ (by decide +kernel)) ggL_result_X3_shareNumerator
set_option maxRecDepth 20000 in
theorem ggL_result_X3_shareDenominator : GoodIn wsL_result wsX3_shareDenominator := goodIn_ca (goodIn_r _ [31, 14, 15, 16, 12, 17, 18, 19, 20, 21, 22, 32, 24, 33, 34, 35, 36, 37, 38, 39, 40, 41, 42, 43, 44, 45, 46, 47] (by decide +kernel) (by decide +kernel)) (goodIn_sub (fun _ h => List.mem_cons_of_mem _ (List.mem_append_right _ h)) (by decide +kernel))
set_option maxRecDepth 20000 in
theorem gL_result_X3_shareDenominator : GoodIn wsL_result (wsV RL 61 RX3 yX3_shareDenominator wsX3_shareDenominator) := goodIn_app (goodIn_of _ (by decide +kernel)) ggL_result_X3_shareDenominator
set_option maxRecDepth 20000 in
theorem ggL_result_L_floor : GoodIn wsL_result wsL_floor := goodIn_r _ [8] (by decide +kernel) (by decide +kernel)
set_option maxRecDepth 20000 in
theorem gL_result_L_floor : GoodIn wsL_result (va_wsS RL 46 yL_floor wsL_floor) := goodIn_app (goodIn_of _ (by decide +kernel)) ggL_result_L_floor
theorem dL_result_0 : decode cL_result 0 = .ok (.iconst 0, 1) := by decide +kernel
theorem dL_result_1 : decode cL_result 1 = .ok (.istore_n 3, 1) := by decide +kernel
theorem dL_result_2 : decode cL_result 2 = .ok (.iconst 0, 1) := by decide +kernel
theorem dL_result_3 : decode cL_result 3 = .ok (.istore 4, 2) := by decide +kernel
theorem dL_result_5 : decode cL_result 5 = .ok (.iload 4, 2) := by decide +kernel
theorem dL_result_7 : decode cL_result 7 = .ok (.bipush 6, 2) := by decide +kernel
theorem dL_result_9 : decode cL_result 9 = .ok (.if_icmp .ge 64, 3) := by decide +kernel
theorem dL_result_12 : decode cL_result 12 = .ok (.iload_n 3, 1) := by decide +kernel
theorem dL_result_13 : decode cL_result 13 = .ok (.iload_n 1, 1) := by decide +kernel
theorem dL_result_14 : decode cL_result 14 = .ok (.iload 4, 2) := by decide +kernel
theorem dL_result_16 : decode cL_result 16 = .ok (.ishr, 1) := by decide +kernel
theorem dL_result_17 : decode cL_result 17 = .ok (.iconst 1, 1) := by decide +kernel
theorem dL_result_18 : decode cL_result 18 = .ok (.iand, 1) := by decide +kernel
theorem dL_result_19 : decode cL_result 19 = .ok (.ifCond .ne 7, 3) := by decide +kernel
theorem dL_result_22 : decode cL_result 22 = .ok (.iconst 0, 1) := by decide +kernel
theorem dL_result_23 : decode cL_result 23 = .ok (.goto 42, 3) := by decide +kernel
theorem dL_result_26 : decode cL_result 26 = .ok (.aload_n 2, 1) := by decide +kernel
theorem dL_result_27 : decode cL_result 27 = .ok (.bipush 7, 2) := by decide +kernel
theorem dL_result_29 : decode cL_result 29 = .ok (.iload 4, 2) := by decide +kernel
theorem dL_result_31 : decode cL_result 31 = .ok (.imul, 1) := by decide +kernel
theorem dL_result_32 : decode cL_result 32 = .ok (.iconst 3, 1) := by decide +kernel
theorem dL_result_33 : decode cL_result 33 = .ok (.iadd, 1) := by decide +kernel
theorem dL_result_34 : decode cL_result 34 = .ok (.iaload, 1) := by decide +kernel
theorem dL_result_35 : decode cL_result 35 = .ok (.aload_n 2, 1) := by decide +kernel
theorem dL_result_36 : decode cL_result 36 = .ok (.bipush 7, 2) := by decide +kernel
theorem dL_result_38 : decode cL_result 38 = .ok (.iload 4, 2) := by decide +kernel
theorem dL_result_40 : decode cL_result 40 = .ok (.imul, 1) := by decide +kernel
theorem dL_result_41 : decode cL_result 41 = .ok (.iconst 5, 1) := by decide +kernel
theorem dL_result_42 : decode cL_result 42 = .ok (.iadd, 1) := by decide +kernel
theorem dL_result_43 : decode cL_result 43 = .ok (.iaload, 1) := by decide +kernel
theorem dL_result_44 : decode cL_result 44 = .ok (.invokestatic 52, 3) := by decide +kernel
theorem dL_result_47 : decode cL_result 47 = .ok (.i2l, 1) := by decide +kernel
theorem dL_result_48 : decode cL_result 48 = .ok (.aload_n 0, 1) := by decide +kernel
theorem dL_result_49 : decode cL_result 49 = .ok (.iload 4, 2) := by decide +kernel
theorem dL_result_51 : decode cL_result 51 = .ok (.invokevirtual 57, 3) := by decide +kernel
theorem dL_result_54 : decode cL_result 54 = .ok (.lmul, 1) := by decide +kernel
theorem dL_result_55 : decode cL_result 55 = .ok (.aload_n 0, 1) := by decide +kernel
theorem dL_result_56 : decode cL_result 56 = .ok (.iload 4, 2) := by decide +kernel
theorem dL_result_58 : decode cL_result 58 = .ok (.invokevirtual 61, 3) := by decide +kernel
theorem dL_result_61 : decode cL_result 61 = .ok (.invokestatic 46, 3) := by decide +kernel
theorem dL_result_64 : decode cL_result 64 = .ok (.l2i, 1) := by decide +kernel
theorem dL_result_65 : decode cL_result 65 = .ok (.iadd, 1) := by decide +kernel
theorem dL_result_66 : decode cL_result 66 = .ok (.istore_n 3, 1) := by decide +kernel
theorem dL_result_67 : decode cL_result 67 = .ok (.iinc 4 1, 3) := by decide +kernel
theorem dL_result_70 : decode cL_result 70 = .ok (.goto (-65), 3) := by decide +kernel
theorem dL_result_73 : decode cL_result 73 = .ok (.iload_n 3, 1) := by decide +kernel
theorem dL_result_74 : decode cL_result 74 = .ok (.ireturn, 1) := by decide +kernel
set_option maxRecDepth 20000 in
theorem ggL_isSo_L_group : GoodIn wsL_isSo wsL_group := goodIn_r _ [5] (by decide +kernel) (by decide +kernel)
set_option maxRecDepth 20000 in
theorem gL_isSo_L_group : GoodIn wsL_isSo (va_wsS RL 71 yL_group wsL_group) := goodIn_app (goodIn_of _ (by decide +kernel)) ggL_isSo_L_group
set_option maxRecDepth 20000 in
theorem ggL_isSo_X3_group : GoodIn wsL_isSo wsX3_group := goodIn_r _ [10, 11, 12, 13, 14, 15, 16, 17, 18, 19, 20, 21, 22, 23, 24, 25, 9, 26, 27, 28, 272, 273, 274, 275, 276, 277, 278, 279, 280, 281, 282, 283] (by decide +kernel) (by decide +kernel)
set_option maxRecDepth 20000 in
theorem gL_isSo_X3_group : GoodIn wsL_isSo (wsV RL 75 RX3 yX3_group wsX3_group) := goodIn_app (goodIn_of _ (by decide +kernel)) ggL_isSo_X3_group
set_option maxRecDepth 20000 in
theorem ggL_isSo_L_at : GoodIn wsL_isSo wsL_at := goodIn_r _ [31, 32, 33, 34, 4, 35] (by decide +kernel) (by decide +kernel)
set_option maxRecDepth 20000 in
theorem gL_isSo_L_at : GoodIn wsL_isSo (va_wsS RL 52 yL_at wsL_at) := goodIn_app (goodIn_of _ (by decide +kernel)) ggL_isSo_L_at
set_option maxRecDepth 20000 in
theorem ggL_isSo_L_net : GoodIn wsL_isSo wsL_net := goodIn_r _ [38, 29, 30, 4, 31, 32, 33, 34, 35] (by decide +kernel) (by decide +kernel)
set_option maxRecDepth 20000 in
theorem gL_isSo_L_net : GoodIn wsL_isSo (va_wsS RL 77 yL_net wsL_net) := goodIn_app (goodIn_of _ (by decide +kernel)) ggL_isSo_L_net
set_option maxRecDepth 20000 in
theorem ggL_isSo_X3_shareDenominator : GoodIn wsL_isSo wsX3_shareDenominator := goodIn_ca (goodIn_r _ [42, 11, 43, 44, 9, 45, 46, 47, 48, 49, 50, 51, 13, 52, 53, 54, 272, 273, 274, 275, 276, 277, 278, 279, 280, 281, 282, 283] (by decide +kernel) (by decide +kernel)) (goodIn_sub (fun _ h => List.mem_cons_of_mem _ (List.mem_append_left _ (List.mem_append_right _ h))) (by decide +kernel))
set_option maxRecDepth 20000 in
theorem gL_isSo_X3_shareDenominator : GoodIn wsL_isSo (wsV RL 61 RX3 yX3_shareDenominator wsX3_shareDenominator) := goodIn_app (goodIn_of _ (by decide +kernel)) ggL_isSo_X3_shareDenominator
set_option maxRecDepth 20000 in
theorem ggL_isSo_X3_shareNumerator : GoodIn wsL_isSo wsX3_shareNumerator := goodIn_ca (goodIn_r _ [58, 11, 43, 44, 9, 45, 46, 47, 48, 49, 50, 59, 13, 60, 61, 62, 272, 273, 274, 275, 276, 277, 278, 279, 280, 281, 282, 283] (by decide +kernel) (by decide +kernel)) (goodIn_sub (fun _ h => List.mem_cons_of_mem _ (List.mem_append_left _ (List.mem_append_right _ h))) (by decide +kernel))
set_option maxRecDepth 20000 in
theorem gL_isSo_X3_shareNumerator : GoodIn wsL_isSo (wsV RL 57 RX3 yX3_shareNumerator wsX3_shareNumerator) := goodIn_app (goodIn_of _ (by decide +kernel)) ggL_isSo_X3_shareNumerator
set_option maxRecDepth 20000 in
theorem ggL_isSo_L_floor : GoodIn wsL_isSo wsL_floor := goodIn_r _ [35] (by decide +kernel) (by decide +kernel)
set_option maxRecDepth 20000 in
theorem gL_isSo_L_floor : GoodIn wsL_isSo (va_wsS RL 46 yL_floor wsL_floor) := goodIn_app (goodIn_of _ (by decide +kernel)) ggL_isSo_L_floor
set_option maxRecDepth 20000 in
theorem ggL_isSo_X3_netValue : GoodIn wsL_isSo wsX3_netValue := goodIn_ca (goodIn_r _ [66, 67, 43, 44, 9, 45, 46, 47, 48, 49, 50, 68, 69, 70, 71, 72, 73, 74, 75, 76, 77, 78, 79, 80, 81, 82, 83, 84, 85, 86, 87, 88, 89, 272, 273, 274, 275, 276, 277, 284, 285, 286, 287, 288, 289, 290] (by decide +kernel) (by decide +kernel)) (goodIn_sub (fun _ h => List.mem_cons_of_mem _ (List.mem_append_left _ (List.mem_append_right _ h))) (by decide +kernel))
set_option maxRecDepth 20000 in
theorem gL_isSo_X3_netValue : GoodIn wsL_isSo (wsV RL 81 RX3 yX3_netValue wsX3_netValue) := goodIn_app (goodIn_of _ (by decide +kernel)) ggL_isSo_X3_netValue
set_option maxRecDepth 20000 in
theorem ggL_isSo_X3_translatedEquity : GoodIn wsL_isSo wsX3_translatedEquity := goodIn_ca (goodIn_r _ [93, 67, 43, 44, 9, 45, 46, 47, 48, 49, 50, 94, 69, 95, 96, 97, 98, 78, 79, 80, 81, 82, 83, 84, 272, 273, 274, 275, 276, 277, 284, 285, 286, 287, 288, 289, 290] (by decide +kernel) (by decide +kernel)) (goodIn_sub (fun _ h => List.mem_cons_of_mem _ (List.mem_append_left _ (List.mem_append_right _ h))) (by decide +kernel))
set_option maxRecDepth 20000 in
theorem gL_isSo_X3_translatedEquity : GoodIn wsL_isSo (wsV RL 85 RX3 yX3_translatedEquity wsX3_translatedEquity) := goodIn_app (goodIn_of _ (by decide +kernel)) ggL_isSo_X3_translatedEquity
set_option maxRecDepth 20000 in
theorem ggL_isSo_X3_translatedResult : GoodIn wsL_isSo wsX3_translatedResult := goodIn_ca (goodIn_r _ [102, 67, 43, 44, 9, 45, 46, 47, 48, 49, 50, 103, 69, 104, 105, 106, 107, 78, 79, 80, 81, 82, 83, 84, 272, 273, 274, 275, 276, 277, 284, 285, 286, 287, 288, 289, 290] (by decide +kernel) (by decide +kernel)) (goodIn_sub (fun _ h => List.mem_cons_of_mem _ (List.mem_append_left _ (List.mem_append_right _ h))) (by decide +kernel))
set_option maxRecDepth 20000 in
theorem gL_isSo_X3_translatedResult : GoodIn wsL_isSo (wsV RL 88 RX3 yX3_translatedResult wsX3_translatedResult) := goodIn_app (goodIn_of _ (by decide +kernel)) ggL_isSo_X3_translatedResult
set_option maxRecDepth 20000 in
theorem ggL_isSo_X3_reserve : GoodIn wsL_isSo wsX3_reserve := goodIn_ca (goodIn_r _ [111, 67, 43, 44, 9, 45, 46, 47, 48, 49, 50, 68, 69, 70, 71, 72, 73, 74, 75, 76, 77, 78, 79, 80, 81, 82, 83, 84, 85, 86, 87, 88, 89, 94, 95, 96, 97, 98, 103, 104, 105, 106, 107, 272, 273, 274, 275, 276, 277, 284, 285, 286, 287, 288, 289, 290] (by decide +kernel) (by decide +kernel)) (goodIn_sub (fun _ h => List.mem_cons_of_mem _ (List.mem_append_left _ (List.mem_append_right _ h))) (by decide +kernel))
set_option maxRecDepth 20000 in
theorem gL_isSo_X3_reserve : GoodIn wsL_isSo (wsV RL 91 RX3 yX3_reserve wsX3_reserve) := goodIn_app (goodIn_of _ (by decide +kernel)) ggL_isSo_X3_reserve
set_option maxRecDepth 20000 in
theorem ggL_isSo_X3_minority : GoodIn wsL_isSo wsX3_minority := goodIn_ca (goodIn_r _ [115, 11, 43, 44, 9, 45, 46, 47, 48, 49, 50, 12, 13, 14, 15, 16, 17, 18, 19, 20, 21, 22, 23, 24, 25, 26, 27, 28, 116, 117, 118, 119, 67, 120, 68, 69, 70, 71, 72, 73, 74, 75, 76, 77, 78, 79, 80, 81, 82, 83, 84, 85, 86, 87, 88, 89, 121, 122, 123, 54, 62, 124, 125, 126, 127, 128, 129, 272, 273, 274, 275, 276, 277, 278, 279, 280, 281, 282, 283, 284, 285, 286, 287, 288, 289, 290] (by decide +kernel) (by decide +kernel)) (goodIn_sub (fun _ h => List.mem_cons_of_mem _ (List.mem_append_left _ (List.mem_append_right _ h))) (by decide +kernel))
set_option maxRecDepth 20000 in
theorem gL_isSo_X3_minority : GoodIn wsL_isSo (wsV RL 94 RX3 yX3_minority wsX3_minority) := goodIn_app (goodIn_of _ (by decide +kernel)) ggL_isSo_X3_minority
set_option maxRecDepth 20000 in
theorem ggL_isSo_X3_goodwill : GoodIn wsL_isSo wsX3_goodwill := goodIn_ca (goodIn_r _ [133, 134, 43, 44, 9, 45, 46, 47, 48, 49, 50, 272, 273, 274, 275, 276, 277] (by decide +kernel) (by decide +kernel)) (goodIn_sub (fun _ h => List.mem_cons_of_mem _ (List.mem_append_left _ (List.mem_append_right _ h))) (by decide +kernel))
set_option maxRecDepth 20000 in
theorem gL_isSo_X3_goodwill : GoodIn wsL_isSo (wsV RL 97 RX3 yX3_goodwill wsX3_goodwill) := goodIn_app (goodIn_of _ (by decide +kernel)) ggL_isSo_X3_goodwill
set_option maxRecDepth 20000 in
theorem ggL_isSo_X3_held : GoodIn wsL_isSo wsX3_held := goodIn_ca (goodIn_r _ [138, 11, 43, 44, 9, 45, 46, 47, 48, 49, 50, 139, 13, 140, 141, 24, 27, 28, 272, 273, 274, 275, 276, 277, 278, 279, 280, 281, 282, 283] (by decide +kernel) (by decide +kernel)) (goodIn_sub (fun _ h => List.mem_cons_of_mem _ (List.mem_append_left _ (List.mem_append_right _ h))) (by decide +kernel))
set_option maxRecDepth 20000 in
theorem gL_isSo_X3_held : GoodIn wsL_isSo (wsV RL 100 RX3 yX3_held wsX3_held) := goodIn_app (goodIn_of _ (by decide +kernel)) ggL_isSo_X3_held
set_option maxRecDepth 20000 in
theorem ggL_isSo_L_calls : GoodIn wsL_isSo wsL_calls := goodIn_ca (goodIn_ca (goodIn_r _ [144, 145, 146, 1, 147, 148, 149, 150, 9, 151, 11, 152, 153, 154, 49, 50, 43, 44, 45, 46, 47, 48, 139, 13, 140, 141, 24, 27, 28, 155, 156, 157, 158, 159, 160, 161, 162, 163, 164, 165, 166, 167, 168, 169, 170, 171, 172, 173, 174, 175, 176, 177, 178, 179, 180, 181, 182, 183, 62, 54, 184, 185, 186, 187, 188, 189, 190, 191, 192, 193, 194, 195, 196, 134, 67, 68, 69, 70, 71, 72, 73, 74, 75, 76, 77, 78, 79, 80, 81, 82, 83, 84, 85, 86, 87, 88, 89, 197, 198, 199, 200, 201, 202, 203, 204, 205, 206, 207, 208, 209, 210, 211, 212, 213, 214, 215, 216, 217, 218, 219, 220, 221, 222, 223, 224, 225, 12, 14, 15, 16, 17, 18, 19, 20, 21, 22, 23, 25, 26, 120, 103, 104, 105, 106, 107, 226, 227, 228, 124, 125, 126, 127, 128, 129, 229, 230, 231, 97, 232, 233, 234, 235, 236, 237, 238, 272, 273, 274, 275, 276, 277, 278, 279, 280, 281, 282, 283, 284, 285, 286, 287, 288, 289, 290, 291, 292] (by decide +kernel) (by decide +kernel)) (goodIn_sub (fun _ h => List.mem_cons_of_mem _ (List.mem_append_left _ (List.mem_append_right _ h))) (by decide +kernel))) (goodIn_sub (fun _ h => List.mem_cons_of_mem _ (List.mem_append_right _ h)) (by decide +kernel))
set_option maxRecDepth 20000 in
theorem gL_isSo_L_calls : GoodIn wsL_isSo (va_wsS RL 103 yL_calls wsL_calls) := goodIn_app (goodIn_of _ (by decide +kernel)) ggL_isSo_L_calls
set_option maxRecDepth 20000 in
theorem ggL_isSo_X3_resultOf : GoodIn wsL_isSo wsX3_resultOf := goodIn_ca (goodIn_r _ [242, 49, 50, 220, 221, 46, 47, 9, 48, 272, 273, 274, 275, 276, 277] (by decide +kernel) (by decide +kernel)) (goodIn_sub (fun _ h => List.mem_cons_of_mem _ (List.mem_append_left _ (List.mem_append_right _ h))) (by decide +kernel))
set_option maxRecDepth 20000 in
theorem gL_isSo_X3_resultOf : GoodIn wsL_isSo (wsV RL 107 RX3 yX3_resultOf wsX3_resultOf) := goodIn_app (goodIn_of _ (by decide +kernel)) ggL_isSo_X3_resultOf
set_option maxRecDepth 20000 in
theorem ggL_isSo_X3_eliminated : GoodIn wsL_isSo wsX3_eliminated := goodIn_r _ [246, 202, 11, 12, 13, 14, 15, 16, 17, 18, 19, 20, 21, 22, 23, 24, 25, 9, 26, 27, 28, 247, 204, 248, 249, 207, 215, 250, 251, 252, 253, 272, 273, 274, 275, 276, 277, 278, 279, 280, 281, 282, 283, 291, 292] (by decide +kernel) (by decide +kernel)
set_option maxRecDepth 20000 in
theorem gL_isSo_X3_eliminated : GoodIn wsL_isSo (wsV RL 110 RX3 yX3_eliminated wsX3_eliminated) := goodIn_app (goodIn_of _ (by decide +kernel)) ggL_isSo_X3_eliminated
set_option maxRecDepth 20000 in
theorem ggL_isSo_X3_assets : GoodIn wsL_isSo wsX3_assets := goodIn_r _ [257, 11, 67, 202, 12, 13, 14, 15, 16, 17, 18, 19, 20, 21, 22, 23, 24, 25, 9, 26, 27, 28, 120, 73, 69, 74, 75, 76, 77, 78, 79, 80, 81, 82, 83, 84, 247, 204, 248, 249, 207, 215, 250, 251, 252, 253, 272, 273, 274, 275, 276, 277, 278, 279, 280, 281, 282, 283, 284, 285, 286, 287, 288, 289, 290, 291, 292] (by decide +kernel) (by decide +kernel)
set_option maxRecDepth 20000 in
theorem gL_isSo_X3_assets : GoodIn wsL_isSo (wsV RL 113 RX3 yX3_assets wsX3_assets) := goodIn_app (goodIn_of _ (by decide +kernel)) ggL_isSo_X3_assets
set_option maxRecDepth 20000 in
theorem ggL_isSo_X3_debts : GoodIn wsL_isSo wsX3_debts := goodIn_r _ [261, 11, 67, 202, 12, 13, 14, 15, 16, 17, 18, 19, 20, 21, 22, 23, 24, 25, 9, 26, 27, 28, 120, 86, 69, 87, 88, 89, 77, 78, 79, 80, 81, 82, 83, 84, 247, 204, 248, 249, 207, 215, 250, 251, 252, 253, 272, 273, 274, 275, 276, 277, 278, 279, 280, 281, 282, 283, 284, 285, 286, 287, 288, 289, 290, 291, 292] (by decide +kernel) (by decide +kernel)
set_option maxRecDepth 20000 in
theorem gL_isSo_X3_debts : GoodIn wsL_isSo (wsV RL 116 RX3 yX3_debts wsX3_debts) := goodIn_app (goodIn_of _ (by decide +kernel)) ggL_isSo_X3_debts
set_option maxRecDepth 20000 in
theorem ggL_isSo_X3_equity : GoodIn wsL_isSo wsX3_equity := goodIn_r _ [265, 11, 12, 13, 14, 15, 16, 17, 18, 19, 20, 21, 22, 23, 24, 25, 9, 26, 27, 28, 116, 117, 118, 119, 67, 120, 68, 69, 70, 71, 72, 73, 74, 75, 76, 77, 78, 79, 80, 81, 82, 83, 84, 85, 86, 87, 88, 89, 121, 122, 123, 54, 62, 124, 125, 126, 127, 128, 129, 266, 255, 256, 257, 202, 247, 204, 248, 249, 207, 215, 250, 251, 252, 253, 267, 259, 260, 261, 272, 273, 274, 275, 276, 277, 278, 279, 280, 281, 282, 283, 284, 285, 286, 287, 288, 289, 290, 291, 292] (by decide +kernel) (by decide +kernel)
set_option maxRecDepth 20000 in
theorem gL_isSo_X3_equity : GoodIn wsL_isSo (wsV RL 119 RX3 yX3_equity wsX3_equity) := goodIn_app (goodIn_of _ (by decide +kernel)) ggL_isSo_X3_equity
set_option maxRecDepth 20000 in
theorem ggL_isSo_X3_result : GoodIn wsL_isSo wsX3_result := goodIn_r _ [225, 11, 67, 12, 13, 14, 15, 16, 17, 18, 19, 20, 21, 22, 23, 24, 25, 9, 26, 27, 28, 120, 103, 69, 104, 105, 106, 107, 78, 79, 80, 81, 82, 83, 84, 226, 227, 228, 62, 54, 124, 125, 126, 127, 128, 129, 272, 273, 274, 275, 276, 277, 278, 279, 280, 281, 282, 283, 284, 285, 286, 287, 288, 289, 290] (by decide +kernel) (by decide +kernel)
set_option maxRecDepth 20000 in
theorem gL_isSo_X3_result : GoodIn wsL_isSo (wsV RL 122 RX3 yX3_result wsX3_result) := goodIn_app (goodIn_of _ (by decide +kernel)) ggL_isSo_X3_result
set_option maxRecDepth 20000 in
theorem ggL_isSo_L_result : GoodIn wsL_isSo wsL_result := goodIn_ca (goodIn_r _ [271, 29, 30, 4, 31, 32, 33, 34, 35, 55, 56, 57, 9, 58, 11, 43, 44, 45, 46, 47, 48, 49, 50, 59, 13, 60, 61, 62, 39, 40, 41, 42, 51, 52, 53, 54, 272, 273, 274, 275, 276, 277, 278, 279, 280, 281, 282, 283] (by decide +kernel) (by decide +kernel)) (goodIn_sub (fun _ h => List.mem_cons_of_mem _ (List.mem_append_left _ (List.mem_append_right _ h))) (by decide +kernel))
set_option maxRecDepth 20000 in
theorem gL_isSo_L_result : GoodIn wsL_isSo (va_wsS RL 125 yL_result wsL_result) := goodIn_app (goodIn_of _ (by decide +kernel)) ggL_isSo_L_result
theorem dL_isSo_0 : decode cL_isSo 0 = .ok (.aload_n 1, 1) := by decide +kernel
theorem dL_isSo_1 : decode cL_isSo 1 = .ok (.invokestatic 71, 3) := by decide +kernel
theorem dL_isSo_4 : decode cL_isSo 4 = .ok (.istore 7, 2) := by decide +kernel
theorem dL_isSo_6 : decode cL_isSo 6 = .ok (.iconst 0, 1) := by decide +kernel
theorem dL_isSo_7 : decode cL_isSo 7 = .ok (.istore 8, 2) := by decide +kernel
theorem dL_isSo_9 : decode cL_isSo 9 = .ok (.iconst 0, 1) := by decide +kernel
theorem dL_isSo_10 : decode cL_isSo 10 = .ok (.istore 9, 2) := by decide +kernel
theorem dL_isSo_12 : decode cL_isSo 12 = .ok (.iconst 0, 1) := by decide +kernel
theorem dL_isSo_13 : decode cL_isSo 13 = .ok (.istore 10, 2) := by decide +kernel
theorem dL_isSo_15 : decode cL_isSo 15 = .ok (.iconst 0, 1) := by decide +kernel
theorem dL_isSo_16 : decode cL_isSo 16 = .ok (.istore 11, 2) := by decide +kernel
theorem dL_isSo_18 : decode cL_isSo 18 = .ok (.aload_n 0, 1) := by decide +kernel
theorem dL_isSo_19 : decode cL_isSo 19 = .ok (.invokevirtual 75, 3) := by decide +kernel
theorem dL_isSo_22 : decode cL_isSo 22 = .ok (.iload 7, 2) := by decide +kernel
theorem dL_isSo_24 : decode cL_isSo 24 = .ok (.if_icmp .ne 7, 3) := by decide +kernel
theorem dL_isSo_27 : decode cL_isSo 27 = .ok (.iconst 1, 1) := by decide +kernel
theorem dL_isSo_28 : decode cL_isSo 28 = .ok (.goto 4, 3) := by decide +kernel
theorem dL_isSo_31 : decode cL_isSo 31 = .ok (.iconst 0, 1) := by decide +kernel
theorem dL_isSo_32 : decode cL_isSo 32 = .ok (.istore 12, 2) := by decide +kernel
theorem dL_isSo_34 : decode cL_isSo 34 = .ok (.iconst 0, 1) := by decide +kernel
theorem dL_isSo_35 : decode cL_isSo 35 = .ok (.istore 13, 2) := by decide +kernel
theorem dL_isSo_37 : decode cL_isSo 37 = .ok (.iload 13, 2) := by decide +kernel
theorem dL_isSo_39 : decode cL_isSo 39 = .ok (.bipush 6, 2) := by decide +kernel
theorem dL_isSo_41 : decode cL_isSo 41 = .ok (.if_icmp .ge 468, 3) := by decide +kernel
theorem dL_isSo_44 : decode cL_isSo 44 = .ok (.iload 12, 2) := by decide +kernel
theorem dL_isSo_46 : decode cL_isSo 46 = .ok (.ifCond .eq 463, 3) := by decide +kernel
theorem dL_isSo_49 : decode cL_isSo 49 = .ok (.iload 7, 2) := by decide +kernel
theorem dL_isSo_51 : decode cL_isSo 51 = .ok (.iload 13, 2) := by decide +kernel
theorem dL_isSo_53 : decode cL_isSo 53 = .ok (.ishr, 1) := by decide +kernel
theorem dL_isSo_54 : decode cL_isSo 54 = .ok (.iconst 1, 1) := by decide +kernel
theorem dL_isSo_55 : decode cL_isSo 55 = .ok (.iand, 1) := by decide +kernel
theorem dL_isSo_56 : decode cL_isSo 56 = .ok (.iconst 1, 1) := by decide +kernel
theorem dL_isSo_57 : decode cL_isSo 57 = .ok (.if_icmp .ne 7, 3) := by decide +kernel
theorem dL_isSo_60 : decode cL_isSo 60 = .ok (.iconst 1, 1) := by decide +kernel
theorem dL_isSo_61 : decode cL_isSo 61 = .ok (.goto 4, 3) := by decide +kernel
theorem dL_isSo_64 : decode cL_isSo 64 = .ok (.iconst 0, 1) := by decide +kernel
theorem dL_isSo_65 : decode cL_isSo 65 = .ok (.istore 14, 2) := by decide +kernel
theorem dL_isSo_67 : decode cL_isSo 67 = .ok (.aload 4, 2) := by decide +kernel
theorem dL_isSo_69 : decode cL_isSo 69 = .ok (.bipush 7, 2) := by decide +kernel
theorem dL_isSo_71 : decode cL_isSo 71 = .ok (.iload 13, 2) := by decide +kernel
theorem dL_isSo_73 : decode cL_isSo 73 = .ok (.imul, 1) := by decide +kernel
theorem dL_isSo_74 : decode cL_isSo 74 = .ok (.iconst 2, 1) := by decide +kernel
theorem dL_isSo_75 : decode cL_isSo 75 = .ok (.iadd, 1) := by decide +kernel
theorem dL_isSo_76 : decode cL_isSo 76 = .ok (.iaload, 1) := by decide +kernel
theorem dL_isSo_77 : decode cL_isSo 77 = .ok (.aload 4, 2) := by decide +kernel
theorem dL_isSo_79 : decode cL_isSo 79 = .ok (.bipush 7, 2) := by decide +kernel
theorem dL_isSo_81 : decode cL_isSo 81 = .ok (.iload 13, 2) := by decide +kernel
theorem dL_isSo_83 : decode cL_isSo 83 = .ok (.imul, 1) := by decide +kernel
theorem dL_isSo_84 : decode cL_isSo 84 = .ok (.bipush 6, 2) := by decide +kernel
theorem dL_isSo_86 : decode cL_isSo 86 = .ok (.iadd, 1) := by decide +kernel
theorem dL_isSo_87 : decode cL_isSo 87 = .ok (.iaload, 1) := by decide +kernel
theorem dL_isSo_88 : decode cL_isSo 88 = .ok (.invokestatic 52, 3) := by decide +kernel
theorem dL_isSo_91 : decode cL_isSo 91 = .ok (.istore 15, 2) := by decide +kernel
theorem dL_isSo_93 : decode cL_isSo 93 = .ok (.aload 4, 2) := by decide +kernel
theorem dL_isSo_95 : decode cL_isSo 95 = .ok (.bipush 7, 2) := by decide +kernel
theorem dL_isSo_97 : decode cL_isSo 97 = .ok (.iload 13, 2) := by decide +kernel
theorem dL_isSo_99 : decode cL_isSo 99 = .ok (.imul, 1) := by decide +kernel
theorem dL_isSo_100 : decode cL_isSo 100 = .ok (.iconst 3, 1) := by decide +kernel
theorem dL_isSo_101 : decode cL_isSo 101 = .ok (.iadd, 1) := by decide +kernel
theorem dL_isSo_102 : decode cL_isSo 102 = .ok (.iaload, 1) := by decide +kernel
theorem dL_isSo_103 : decode cL_isSo 103 = .ok (.aload 4, 2) := by decide +kernel
theorem dL_isSo_105 : decode cL_isSo 105 = .ok (.bipush 7, 2) := by decide +kernel
theorem dL_isSo_107 : decode cL_isSo 107 = .ok (.iload 13, 2) := by decide +kernel
theorem dL_isSo_109 : decode cL_isSo 109 = .ok (.imul, 1) := by decide +kernel
theorem dL_isSo_110 : decode cL_isSo 110 = .ok (.iconst 5, 1) := by decide +kernel
theorem dL_isSo_111 : decode cL_isSo 111 = .ok (.iadd, 1) := by decide +kernel
theorem dL_isSo_112 : decode cL_isSo 112 = .ok (.iaload, 1) := by decide +kernel
theorem dL_isSo_113 : decode cL_isSo 113 = .ok (.invokestatic 52, 3) := by decide +kernel
theorem dL_isSo_116 : decode cL_isSo 116 = .ok (.istore 16, 2) := by decide +kernel
theorem dL_isSo_118 : decode cL_isSo 118 = .ok (.iload 14, 2) := by decide +kernel
theorem dL_isSo_120 : decode cL_isSo 120 = .ok (.ifCond .eq 38, 3) := by decide +kernel
theorem dL_isSo_123 : decode cL_isSo 123 = .ok (.iload 13, 2) := by decide +kernel
theorem dL_isSo_125 : decode cL_isSo 125 = .ok (.aload 4, 2) := by decide +kernel
theorem dL_isSo_127 : decode cL_isSo 127 = .ok (.invokestatic 77, 3) := by decide +kernel
theorem dL_isSo_130 : decode cL_isSo 130 = .ok (.i2l, 1) := by decide +kernel
theorem dL_isSo_131 : decode cL_isSo 131 = .ok (.aload_n 0, 1) := by decide +kernel
theorem dL_isSo_132 : decode cL_isSo 132 = .ok (.iload 13, 2) := by decide +kernel
theorem dL_isSo_134 : decode cL_isSo 134 = .ok (.invokevirtual 61, 3) := by decide +kernel
theorem dL_isSo_137 : decode cL_isSo 137 = .ok (.aload_n 0, 1) := by decide +kernel
theorem dL_isSo_138 : decode cL_isSo 138 = .ok (.iload 13, 2) := by decide +kernel
theorem dL_isSo_140 : decode cL_isSo 140 = .ok (.invokevirtual 57, 3) := by decide +kernel
theorem dL_isSo_143 : decode cL_isSo 143 = .ok (.lsub, 1) := by decide +kernel
theorem dL_isSo_144 : decode cL_isSo 144 = .ok (.lmul, 1) := by decide +kernel
theorem dL_isSo_145 : decode cL_isSo 145 = .ok (.aload_n 0, 1) := by decide +kernel
theorem dL_isSo_146 : decode cL_isSo 146 = .ok (.iload 13, 2) := by decide +kernel
theorem dL_isSo_148 : decode cL_isSo 148 = .ok (.invokevirtual 61, 3) := by decide +kernel
theorem dL_isSo_151 : decode cL_isSo 151 = .ok (.invokestatic 46, 3) := by decide +kernel
theorem dL_isSo_154 : decode cL_isSo 154 = .ok (.l2i, 1) := by decide +kernel
theorem dL_isSo_155 : decode cL_isSo 155 = .ok (.goto 4, 3) := by decide +kernel
theorem dL_isSo_158 : decode cL_isSo 158 = .ok (.iconst 0, 1) := by decide +kernel
theorem dL_isSo_159 : decode cL_isSo 159 = .ok (.istore 17, 2) := by decide +kernel
theorem dL_isSo_161 : decode cL_isSo 161 = .ok (.iload 8, 2) := by decide +kernel
theorem dL_isSo_163 : decode cL_isSo 163 = .ok (.iload 14, 2) := by decide +kernel
theorem dL_isSo_165 : decode cL_isSo 165 = .ok (.ifCond .eq 27, 3) := by decide +kernel
theorem dL_isSo_168 : decode cL_isSo 168 = .ok (.aload 4, 2) := by decide +kernel
theorem dL_isSo_170 : decode cL_isSo 170 = .ok (.bipush 7, 2) := by decide +kernel
theorem dL_isSo_172 : decode cL_isSo 172 = .ok (.iload 13, 2) := by decide +kernel
theorem dL_isSo_174 : decode cL_isSo 174 = .ok (.imul, 1) := by decide +kernel
theorem dL_isSo_175 : decode cL_isSo 175 = .ok (.iaload, 1) := by decide +kernel
theorem dL_isSo_176 : decode cL_isSo 176 = .ok (.aload 4, 2) := by decide +kernel
theorem dL_isSo_178 : decode cL_isSo 178 = .ok (.bipush 7, 2) := by decide +kernel
theorem dL_isSo_180 : decode cL_isSo 180 = .ok (.iload 13, 2) := by decide +kernel
theorem dL_isSo_182 : decode cL_isSo 182 = .ok (.imul, 1) := by decide +kernel
theorem dL_isSo_183 : decode cL_isSo 183 = .ok (.iconst 4, 1) := by decide +kernel
theorem dL_isSo_184 : decode cL_isSo 184 = .ok (.iadd, 1) := by decide +kernel
theorem dL_isSo_185 : decode cL_isSo 185 = .ok (.iaload, 1) := by decide +kernel
theorem dL_isSo_186 : decode cL_isSo 186 = .ok (.invokestatic 52, 3) := by decide +kernel
theorem dL_isSo_189 : decode cL_isSo 189 = .ok (.goto 4, 3) := by decide +kernel
theorem dL_isSo_192 : decode cL_isSo 192 = .ok (.iconst 0, 1) := by decide +kernel
theorem dL_isSo_193 : decode cL_isSo 193 = .ok (.iadd, 1) := by decide +kernel
theorem dL_isSo_194 : decode cL_isSo 194 = .ok (.istore 8, 2) := by decide +kernel
theorem dL_isSo_196 : decode cL_isSo 196 = .ok (.iload 9, 2) := by decide +kernel
theorem dL_isSo_198 : decode cL_isSo 198 = .ok (.iload 14, 2) := by decide +kernel
theorem dL_isSo_200 : decode cL_isSo 200 = .ok (.ifCond .eq 29, 3) := by decide +kernel
theorem dL_isSo_203 : decode cL_isSo 203 = .ok (.aload 4, 2) := by decide +kernel
theorem dL_isSo_205 : decode cL_isSo 205 = .ok (.bipush 7, 2) := by decide +kernel
theorem dL_isSo_207 : decode cL_isSo 207 = .ok (.iload 13, 2) := by decide +kernel
theorem dL_isSo_209 : decode cL_isSo 209 = .ok (.imul, 1) := by decide +kernel
theorem dL_isSo_210 : decode cL_isSo 210 = .ok (.iconst 1, 1) := by decide +kernel
theorem dL_isSo_211 : decode cL_isSo 211 = .ok (.iadd, 1) := by decide +kernel
theorem dL_isSo_212 : decode cL_isSo 212 = .ok (.iaload, 1) := by decide +kernel
theorem dL_isSo_213 : decode cL_isSo 213 = .ok (.aload 4, 2) := by decide +kernel
theorem dL_isSo_215 : decode cL_isSo 215 = .ok (.bipush 7, 2) := by decide +kernel
theorem dL_isSo_217 : decode cL_isSo 217 = .ok (.iload 13, 2) := by decide +kernel
theorem dL_isSo_219 : decode cL_isSo 219 = .ok (.imul, 1) := by decide +kernel
theorem dL_isSo_220 : decode cL_isSo 220 = .ok (.iconst 4, 1) := by decide +kernel
theorem dL_isSo_221 : decode cL_isSo 221 = .ok (.iadd, 1) := by decide +kernel
theorem dL_isSo_222 : decode cL_isSo 222 = .ok (.iaload, 1) := by decide +kernel
theorem dL_isSo_223 : decode cL_isSo 223 = .ok (.invokestatic 52, 3) := by decide +kernel
theorem dL_isSo_226 : decode cL_isSo 226 = .ok (.goto 4, 3) := by decide +kernel
theorem dL_isSo_229 : decode cL_isSo 229 = .ok (.iconst 0, 1) := by decide +kernel
theorem dL_isSo_230 : decode cL_isSo 230 = .ok (.iadd, 1) := by decide +kernel
theorem dL_isSo_231 : decode cL_isSo 231 = .ok (.istore 9, 2) := by decide +kernel
theorem dL_isSo_233 : decode cL_isSo 233 = .ok (.iload 11, 2) := by decide +kernel
theorem dL_isSo_235 : decode cL_isSo 235 = .ok (.iload 17, 2) := by decide +kernel
theorem dL_isSo_237 : decode cL_isSo 237 = .ok (.iadd, 1) := by decide +kernel
theorem dL_isSo_238 : decode cL_isSo 238 = .ok (.istore 11, 2) := by decide +kernel
theorem dL_isSo_240 : decode cL_isSo 240 = .ok (.aload_n 0, 1) := by decide +kernel
theorem dL_isSo_241 : decode cL_isSo 241 = .ok (.iload 13, 2) := by decide +kernel
theorem dL_isSo_243 : decode cL_isSo 243 = .ok (.invokevirtual 81, 3) := by decide +kernel
theorem dL_isSo_246 : decode cL_isSo 246 = .ok (.iload 13, 2) := by decide +kernel
theorem dL_isSo_248 : decode cL_isSo 248 = .ok (.aload 4, 2) := by decide +kernel
theorem dL_isSo_250 : decode cL_isSo 250 = .ok (.invokestatic 77, 3) := by decide +kernel
theorem dL_isSo_253 : decode cL_isSo 253 = .ok (.if_icmp .ne 76, 3) := by decide +kernel
theorem dL_isSo_256 : decode cL_isSo 256 = .ok (.aload_n 0, 1) := by decide +kernel
theorem dL_isSo_257 : decode cL_isSo 257 = .ok (.iload 13, 2) := by decide +kernel
theorem dL_isSo_259 : decode cL_isSo 259 = .ok (.invokevirtual 85, 3) := by decide +kernel
theorem dL_isSo_262 : decode cL_isSo 262 = .ok (.iload 15, 2) := by decide +kernel
theorem dL_isSo_264 : decode cL_isSo 264 = .ok (.if_icmp .ne 65, 3) := by decide +kernel
theorem dL_isSo_267 : decode cL_isSo 267 = .ok (.aload_n 0, 1) := by decide +kernel
theorem dL_isSo_268 : decode cL_isSo 268 = .ok (.iload 13, 2) := by decide +kernel
theorem dL_isSo_270 : decode cL_isSo 270 = .ok (.invokevirtual 88, 3) := by decide +kernel
theorem dL_isSo_273 : decode cL_isSo 273 = .ok (.iload 16, 2) := by decide +kernel
theorem dL_isSo_275 : decode cL_isSo 275 = .ok (.if_icmp .ne 54, 3) := by decide +kernel
theorem dL_isSo_278 : decode cL_isSo 278 = .ok (.aload_n 0, 1) := by decide +kernel
theorem dL_isSo_279 : decode cL_isSo 279 = .ok (.iload 13, 2) := by decide +kernel
theorem dL_isSo_281 : decode cL_isSo 281 = .ok (.invokevirtual 91, 3) := by decide +kernel
theorem dL_isSo_284 : decode cL_isSo 284 = .ok (.iload 13, 2) := by decide +kernel
theorem dL_isSo_286 : decode cL_isSo 286 = .ok (.aload 4, 2) := by decide +kernel
theorem dL_isSo_288 : decode cL_isSo 288 = .ok (.invokestatic 77, 3) := by decide +kernel
theorem dL_isSo_291 : decode cL_isSo 291 = .ok (.iload 15, 2) := by decide +kernel
theorem dL_isSo_293 : decode cL_isSo 293 = .ok (.isub, 1) := by decide +kernel
theorem dL_isSo_294 : decode cL_isSo 294 = .ok (.iload 16, 2) := by decide +kernel
theorem dL_isSo_296 : decode cL_isSo 296 = .ok (.isub, 1) := by decide +kernel
theorem dL_isSo_297 : decode cL_isSo 297 = .ok (.if_icmp .ne 32, 3) := by decide +kernel
theorem dL_isSo_300 : decode cL_isSo 300 = .ok (.aload_n 0, 1) := by decide +kernel
theorem dL_isSo_301 : decode cL_isSo 301 = .ok (.iload 13, 2) := by decide +kernel
theorem dL_isSo_303 : decode cL_isSo 303 = .ok (.invokevirtual 94, 3) := by decide +kernel
theorem dL_isSo_306 : decode cL_isSo 306 = .ok (.iload 17, 2) := by decide +kernel
theorem dL_isSo_308 : decode cL_isSo 308 = .ok (.if_icmp .ne 21, 3) := by decide +kernel
theorem dL_isSo_311 : decode cL_isSo 311 = .ok (.aload_n 0, 1) := by decide +kernel
theorem dL_isSo_312 : decode cL_isSo 312 = .ok (.iload 13, 2) := by decide +kernel
theorem dL_isSo_314 : decode cL_isSo 314 = .ok (.invokevirtual 97, 3) := by decide +kernel
theorem dL_isSo_317 : decode cL_isSo 317 = .ok (.aload 5, 2) := by decide +kernel
theorem dL_isSo_319 : decode cL_isSo 319 = .ok (.iload 13, 2) := by decide +kernel
theorem dL_isSo_321 : decode cL_isSo 321 = .ok (.iaload, 1) := by decide +kernel
theorem dL_isSo_322 : decode cL_isSo 322 = .ok (.if_icmp .ne 7, 3) := by decide +kernel
theorem dL_isSo_325 : decode cL_isSo 325 = .ok (.iconst 1, 1) := by decide +kernel
theorem dL_isSo_326 : decode cL_isSo 326 = .ok (.goto 4, 3) := by decide +kernel
theorem dL_isSo_329 : decode cL_isSo 329 = .ok (.iconst 0, 1) := by decide +kernel
theorem dL_isSo_330 : decode cL_isSo 330 = .ok (.istore 12, 2) := by decide +kernel
theorem dL_isSo_332 : decode cL_isSo 332 = .ok (.iconst 0, 1) := by decide +kernel
theorem dL_isSo_333 : decode cL_isSo 333 = .ok (.istore 18, 2) := by decide +kernel
theorem dL_isSo_335 : decode cL_isSo 335 = .ok (.iload 18, 2) := by decide +kernel
theorem dL_isSo_337 : decode cL_isSo 337 = .ok (.bipush 6, 2) := by decide +kernel
theorem dL_isSo_339 : decode cL_isSo 339 = .ok (.if_icmp .ge 164, 3) := by decide +kernel
theorem dL_isSo_342 : decode cL_isSo 342 = .ok (.iload 12, 2) := by decide +kernel
theorem dL_isSo_344 : decode cL_isSo 344 = .ok (.ifCond .eq 159, 3) := by decide +kernel
theorem dL_isSo_347 : decode cL_isSo 347 = .ok (.aload_n 2, 1) := by decide +kernel
theorem dL_isSo_348 : decode cL_isSo 348 = .ok (.bipush 6, 2) := by decide +kernel
theorem dL_isSo_350 : decode cL_isSo 350 = .ok (.iload 13, 2) := by decide +kernel
theorem dL_isSo_352 : decode cL_isSo 352 = .ok (.imul, 1) := by decide +kernel
theorem dL_isSo_353 : decode cL_isSo 353 = .ok (.iload 18, 2) := by decide +kernel
theorem dL_isSo_355 : decode cL_isSo 355 = .ok (.iadd, 1) := by decide +kernel
theorem dL_isSo_356 : decode cL_isSo 356 = .ok (.iaload, 1) := by decide +kernel
theorem dL_isSo_357 : decode cL_isSo 357 = .ok (.aload_n 3, 1) := by decide +kernel
theorem dL_isSo_358 : decode cL_isSo 358 = .ok (.bipush 6, 2) := by decide +kernel
theorem dL_isSo_360 : decode cL_isSo 360 = .ok (.iload 13, 2) := by decide +kernel
theorem dL_isSo_362 : decode cL_isSo 362 = .ok (.imul, 1) := by decide +kernel
theorem dL_isSo_363 : decode cL_isSo 363 = .ok (.iload 18, 2) := by decide +kernel
theorem dL_isSo_365 : decode cL_isSo 365 = .ok (.iadd, 1) := by decide +kernel
theorem dL_isSo_366 : decode cL_isSo 366 = .ok (.iaload, 1) := by decide +kernel
theorem dL_isSo_367 : decode cL_isSo 367 = .ok (.if_icmp .ge 16, 3) := by decide +kernel
theorem dL_isSo_370 : decode cL_isSo 370 = .ok (.aload_n 2, 1) := by decide +kernel
theorem dL_isSo_371 : decode cL_isSo 371 = .ok (.bipush 6, 2) := by decide +kernel
theorem dL_isSo_373 : decode cL_isSo 373 = .ok (.iload 13, 2) := by decide +kernel
theorem dL_isSo_375 : decode cL_isSo 375 = .ok (.imul, 1) := by decide +kernel
theorem dL_isSo_376 : decode cL_isSo 376 = .ok (.iload 18, 2) := by decide +kernel
theorem dL_isSo_378 : decode cL_isSo 378 = .ok (.iadd, 1) := by decide +kernel
theorem dL_isSo_379 : decode cL_isSo 379 = .ok (.iaload, 1) := by decide +kernel
theorem dL_isSo_380 : decode cL_isSo 380 = .ok (.goto 13, 3) := by decide +kernel
theorem dL_isSo_383 : decode cL_isSo 383 = .ok (.aload_n 3, 1) := by decide +kernel
theorem dL_isSo_384 : decode cL_isSo 384 = .ok (.bipush 6, 2) := by decide +kernel
theorem dL_isSo_386 : decode cL_isSo 386 = .ok (.iload 13, 2) := by decide +kernel
theorem dL_isSo_388 : decode cL_isSo 388 = .ok (.imul, 1) := by decide +kernel
theorem dL_isSo_389 : decode cL_isSo 389 = .ok (.iload 18, 2) := by decide +kernel
theorem dL_isSo_391 : decode cL_isSo 391 = .ok (.iadd, 1) := by decide +kernel
theorem dL_isSo_392 : decode cL_isSo 392 = .ok (.iaload, 1) := by decide +kernel
theorem dL_isSo_393 : decode cL_isSo 393 = .ok (.istore 19, 2) := by decide +kernel
theorem dL_isSo_395 : decode cL_isSo 395 = .ok (.iload 10, 2) := by decide +kernel
theorem dL_isSo_397 : decode cL_isSo 397 = .ok (.iload 14, 2) := by decide +kernel
theorem dL_isSo_399 : decode cL_isSo 399 = .ok (.ifCond .eq 19, 3) := by decide +kernel
theorem dL_isSo_402 : decode cL_isSo 402 = .ok (.iload 7, 2) := by decide +kernel
theorem dL_isSo_404 : decode cL_isSo 404 = .ok (.iload 18, 2) := by decide +kernel
theorem dL_isSo_406 : decode cL_isSo 406 = .ok (.ishr, 1) := by decide +kernel
theorem dL_isSo_407 : decode cL_isSo 407 = .ok (.iconst 1, 1) := by decide +kernel
theorem dL_isSo_408 : decode cL_isSo 408 = .ok (.iand, 1) := by decide +kernel
theorem dL_isSo_409 : decode cL_isSo 409 = .ok (.iconst 1, 1) := by decide +kernel
theorem dL_isSo_410 : decode cL_isSo 410 = .ok (.if_icmp .ne 8, 3) := by decide +kernel
theorem dL_isSo_413 : decode cL_isSo 413 = .ok (.iload 19, 2) := by decide +kernel
theorem dL_isSo_415 : decode cL_isSo 415 = .ok (.goto 4, 3) := by decide +kernel
theorem dL_isSo_418 : decode cL_isSo 418 = .ok (.iconst 0, 1) := by decide +kernel
theorem dL_isSo_419 : decode cL_isSo 419 = .ok (.iadd, 1) := by decide +kernel
theorem dL_isSo_420 : decode cL_isSo 420 = .ok (.istore 10, 2) := by decide +kernel
theorem dL_isSo_422 : decode cL_isSo 422 = .ok (.aload_n 0, 1) := by decide +kernel
theorem dL_isSo_423 : decode cL_isSo 423 = .ok (.iload 13, 2) := by decide +kernel
theorem dL_isSo_425 : decode cL_isSo 425 = .ok (.iload 18, 2) := by decide +kernel
theorem dL_isSo_427 : decode cL_isSo 427 = .ok (.invokevirtual 100, 3) := by decide +kernel
theorem dL_isSo_430 : decode cL_isSo 430 = .ok (.aload_n 1, 1) := by decide +kernel
theorem dL_isSo_431 : decode cL_isSo 431 = .ok (.bipush 6, 2) := by decide +kernel
theorem dL_isSo_433 : decode cL_isSo 433 = .ok (.iload 13, 2) := by decide +kernel
theorem dL_isSo_435 : decode cL_isSo 435 = .ok (.imul, 1) := by decide +kernel
theorem dL_isSo_436 : decode cL_isSo 436 = .ok (.iload 18, 2) := by decide +kernel
theorem dL_isSo_438 : decode cL_isSo 438 = .ok (.iadd, 1) := by decide +kernel
theorem dL_isSo_439 : decode cL_isSo 439 = .ok (.iaload, 1) := by decide +kernel
theorem dL_isSo_440 : decode cL_isSo 440 = .ok (.if_icmp .ne 54, 3) := by decide +kernel
theorem dL_isSo_443 : decode cL_isSo 443 = .ok (.aload_n 0, 1) := by decide +kernel
theorem dL_isSo_444 : decode cL_isSo 444 = .ok (.iconst 5, 1) := by decide +kernel
theorem dL_isSo_445 : decode cL_isSo 445 = .ok (.iload 13, 2) := by decide +kernel
theorem dL_isSo_447 : decode cL_isSo 447 = .ok (.iload 18, 2) := by decide +kernel
theorem dL_isSo_449 : decode cL_isSo 449 = .ok (.iconst 0, 1) := by decide +kernel
theorem dL_isSo_450 : decode cL_isSo 450 = .ok (.iconst 0, 1) := by decide +kernel
theorem dL_isSo_451 : decode cL_isSo 451 = .ok (.invokestatic 103, 3) := by decide +kernel
theorem dL_isSo_454 : decode cL_isSo 454 = .ok (.iload 13, 2) := by decide +kernel
theorem dL_isSo_456 : decode cL_isSo 456 = .ok (.iload 18, 2) := by decide +kernel
theorem dL_isSo_458 : decode cL_isSo 458 = .ok (.if_icmp .ne 8, 3) := by decide +kernel
theorem dL_isSo_461 : decode cL_isSo 461 = .ok (.ldc 36, 2) := by decide +kernel
theorem dL_isSo_463 : decode cL_isSo 463 = .ok (.goto 24, 3) := by decide +kernel
theorem dL_isSo_466 : decode cL_isSo 466 = .ok (.aload_n 2, 1) := by decide +kernel
theorem dL_isSo_467 : decode cL_isSo 467 = .ok (.bipush 6, 2) := by decide +kernel
theorem dL_isSo_469 : decode cL_isSo 469 = .ok (.iload 13, 2) := by decide +kernel
theorem dL_isSo_471 : decode cL_isSo 471 = .ok (.imul, 1) := by decide +kernel
theorem dL_isSo_472 : decode cL_isSo 472 = .ok (.iload 18, 2) := by decide +kernel
theorem dL_isSo_474 : decode cL_isSo 474 = .ok (.iadd, 1) := by decide +kernel
theorem dL_isSo_475 : decode cL_isSo 475 = .ok (.iaload, 1) := by decide +kernel
theorem dL_isSo_476 : decode cL_isSo 476 = .ok (.aload_n 3, 1) := by decide +kernel
theorem dL_isSo_477 : decode cL_isSo 477 = .ok (.bipush 6, 2) := by decide +kernel
theorem dL_isSo_479 : decode cL_isSo 479 = .ok (.iload 13, 2) := by decide +kernel
theorem dL_isSo_481 : decode cL_isSo 481 = .ok (.imul, 1) := by decide +kernel
theorem dL_isSo_482 : decode cL_isSo 482 = .ok (.iload 18, 2) := by decide +kernel
theorem dL_isSo_484 : decode cL_isSo 484 = .ok (.iadd, 1) := by decide +kernel
theorem dL_isSo_485 : decode cL_isSo 485 = .ok (.iaload, 1) := by decide +kernel
theorem dL_isSo_486 : decode cL_isSo 486 = .ok (.isub, 1) := by decide +kernel
theorem dL_isSo_487 : decode cL_isSo 487 = .ok (.if_icmp .ne 7, 3) := by decide +kernel
theorem dL_isSo_490 : decode cL_isSo 490 = .ok (.iconst 1, 1) := by decide +kernel
theorem dL_isSo_491 : decode cL_isSo 491 = .ok (.goto 4, 3) := by decide +kernel
theorem dL_isSo_494 : decode cL_isSo 494 = .ok (.iconst 0, 1) := by decide +kernel
theorem dL_isSo_495 : decode cL_isSo 495 = .ok (.istore 12, 2) := by decide +kernel
theorem dL_isSo_497 : decode cL_isSo 497 = .ok (.iinc 18 1, 3) := by decide +kernel
theorem dL_isSo_500 : decode cL_isSo 500 = .ok (.goto (-165), 3) := by decide +kernel
theorem dL_isSo_503 : decode cL_isSo 503 = .ok (.iinc 13 1, 3) := by decide +kernel
theorem dL_isSo_506 : decode cL_isSo 506 = .ok (.goto (-469), 3) := by decide +kernel
theorem dL_isSo_509 : decode cL_isSo 509 = .ok (.iconst 0, 1) := by decide +kernel
theorem dL_isSo_510 : decode cL_isSo 510 = .ok (.istore 13, 2) := by decide +kernel
theorem dL_isSo_512 : decode cL_isSo 512 = .ok (.iload 13, 2) := by decide +kernel
theorem dL_isSo_514 : decode cL_isSo 514 = .ok (.aload 6, 2) := by decide +kernel
theorem dL_isSo_516 : decode cL_isSo 516 = .ok (.iconst 0, 1) := by decide +kernel
theorem dL_isSo_517 : decode cL_isSo 517 = .ok (.iaload, 1) := by decide +kernel
theorem dL_isSo_518 : decode cL_isSo 518 = .ok (.if_icmp .ge 38, 3) := by decide +kernel
theorem dL_isSo_521 : decode cL_isSo 521 = .ok (.iload 12, 2) := by decide +kernel
theorem dL_isSo_523 : decode cL_isSo 523 = .ok (.ifCond .eq 33, 3) := by decide +kernel
theorem dL_isSo_526 : decode cL_isSo 526 = .ok (.aload_n 0, 1) := by decide +kernel
theorem dL_isSo_527 : decode cL_isSo 527 = .ok (.iload 13, 2) := by decide +kernel
theorem dL_isSo_529 : decode cL_isSo 529 = .ok (.invokevirtual 107, 3) := by decide +kernel
theorem dL_isSo_532 : decode cL_isSo 532 = .ok (.aload 5, 2) := by decide +kernel
theorem dL_isSo_534 : decode cL_isSo 534 = .ok (.bipush 6, 2) := by decide +kernel
theorem dL_isSo_536 : decode cL_isSo 536 = .ok (.iload 13, 2) := by decide +kernel
theorem dL_isSo_538 : decode cL_isSo 538 = .ok (.iadd, 1) := by decide +kernel
theorem dL_isSo_539 : decode cL_isSo 539 = .ok (.iaload, 1) := by decide +kernel
theorem dL_isSo_540 : decode cL_isSo 540 = .ok (.if_icmp .ne 7, 3) := by decide +kernel
theorem dL_isSo_543 : decode cL_isSo 543 = .ok (.iconst 1, 1) := by decide +kernel
theorem dL_isSo_544 : decode cL_isSo 544 = .ok (.goto 4, 3) := by decide +kernel
theorem dL_isSo_547 : decode cL_isSo 547 = .ok (.iconst 0, 1) := by decide +kernel
theorem dL_isSo_548 : decode cL_isSo 548 = .ok (.istore 12, 2) := by decide +kernel
theorem dL_isSo_550 : decode cL_isSo 550 = .ok (.iinc 13 1, 3) := by decide +kernel
theorem dL_isSo_553 : decode cL_isSo 553 = .ok (.goto (-41), 3) := by decide +kernel
theorem dL_isSo_556 : decode cL_isSo 556 = .ok (.iload 12, 2) := by decide +kernel
theorem dL_isSo_558 : decode cL_isSo 558 = .ok (.ifCond .eq 70, 3) := by decide +kernel
theorem dL_isSo_561 : decode cL_isSo 561 = .ok (.aload_n 0, 1) := by decide +kernel
theorem dL_isSo_562 : decode cL_isSo 562 = .ok (.invokevirtual 110, 3) := by decide +kernel
theorem dL_isSo_565 : decode cL_isSo 565 = .ok (.iload 10, 2) := by decide +kernel
theorem dL_isSo_567 : decode cL_isSo 567 = .ok (.if_icmp .ne 61, 3) := by decide +kernel
theorem dL_isSo_570 : decode cL_isSo 570 = .ok (.aload_n 0, 1) := by decide +kernel
theorem dL_isSo_571 : decode cL_isSo 571 = .ok (.invokevirtual 113, 3) := by decide +kernel
theorem dL_isSo_574 : decode cL_isSo 574 = .ok (.iload 8, 2) := by decide +kernel
theorem dL_isSo_576 : decode cL_isSo 576 = .ok (.iload 10, 2) := by decide +kernel
theorem dL_isSo_578 : decode cL_isSo 578 = .ok (.isub, 1) := by decide +kernel
theorem dL_isSo_579 : decode cL_isSo 579 = .ok (.if_icmp .ne 49, 3) := by decide +kernel
theorem dL_isSo_582 : decode cL_isSo 582 = .ok (.aload_n 0, 1) := by decide +kernel
theorem dL_isSo_583 : decode cL_isSo 583 = .ok (.invokevirtual 116, 3) := by decide +kernel
theorem dL_isSo_586 : decode cL_isSo 586 = .ok (.iload 9, 2) := by decide +kernel
theorem dL_isSo_588 : decode cL_isSo 588 = .ok (.iload 10, 2) := by decide +kernel
theorem dL_isSo_590 : decode cL_isSo 590 = .ok (.isub, 1) := by decide +kernel
theorem dL_isSo_591 : decode cL_isSo 591 = .ok (.if_icmp .ne 37, 3) := by decide +kernel
theorem dL_isSo_594 : decode cL_isSo 594 = .ok (.aload_n 0, 1) := by decide +kernel
theorem dL_isSo_595 : decode cL_isSo 595 = .ok (.invokevirtual 119, 3) := by decide +kernel
theorem dL_isSo_598 : decode cL_isSo 598 = .ok (.iload 8, 2) := by decide +kernel
theorem dL_isSo_600 : decode cL_isSo 600 = .ok (.iload 9, 2) := by decide +kernel
theorem dL_isSo_602 : decode cL_isSo 602 = .ok (.isub, 1) := by decide +kernel
theorem dL_isSo_603 : decode cL_isSo 603 = .ok (.iload 11, 2) := by decide +kernel
theorem dL_isSo_605 : decode cL_isSo 605 = .ok (.isub, 1) := by decide +kernel
theorem dL_isSo_606 : decode cL_isSo 606 = .ok (.if_icmp .ne 22, 3) := by decide +kernel
theorem dL_isSo_609 : decode cL_isSo 609 = .ok (.aload_n 0, 1) := by decide +kernel
theorem dL_isSo_610 : decode cL_isSo 610 = .ok (.invokevirtual 122, 3) := by decide +kernel
theorem dL_isSo_613 : decode cL_isSo 613 = .ok (.aload_n 0, 1) := by decide +kernel
theorem dL_isSo_614 : decode cL_isSo 614 = .ok (.iload 7, 2) := by decide +kernel
theorem dL_isSo_616 : decode cL_isSo 616 = .ok (.aload 4, 2) := by decide +kernel
theorem dL_isSo_618 : decode cL_isSo 618 = .ok (.invokestatic 125, 3) := by decide +kernel
theorem dL_isSo_621 : decode cL_isSo 621 = .ok (.if_icmp .ne 7, 3) := by decide +kernel
theorem dL_isSo_624 : decode cL_isSo 624 = .ok (.iconst 1, 1) := by decide +kernel
theorem dL_isSo_625 : decode cL_isSo 625 = .ok (.goto 4, 3) := by decide +kernel
theorem dL_isSo_628 : decode cL_isSo 628 = .ok (.iconst 0, 1) := by decide +kernel
theorem dL_isSo_629 : decode cL_isSo 629 = .ok (.ireturn, 1) := by decide +kernel
set_option maxRecDepth 20000 in
theorem ggL_due_L_total : GoodIn wsL_due wsL_total := goodIn_r _ [7] (by decide +kernel) (by decide +kernel)
set_option maxRecDepth 20000 in
theorem gL_due_L_total : GoodIn wsL_due (va_wsS RL 128 yL_total wsL_total) := goodIn_app (goodIn_of _ (by decide +kernel)) ggL_due_L_total
set_option maxRecDepth 20000 in
theorem ggL_due_L_closedRing : GoodIn wsL_due wsL_closedRing := goodIn_r _ [10] (by decide +kernel) (by decide +kernel)
set_option maxRecDepth 20000 in
theorem gL_due_L_closedRing : GoodIn wsL_due (va_wsS RL 131 yL_closedRing wsL_closedRing) := goodIn_app (goodIn_of _ (by decide +kernel)) ggL_due_L_closedRing
set_option maxRecDepth 20000 in
theorem ggL_due_L_net : GoodIn wsL_due wsL_net := goodIn_r _ [13, 14, 15, 6, 16, 3, 17, 18, 19] (by decide +kernel) (by decide +kernel)
set_option maxRecDepth 20000 in
theorem gL_due_L_net : GoodIn wsL_due (va_wsS RL 77 yL_net wsL_net) := goodIn_app (goodIn_of _ (by decide +kernel)) ggL_due_L_net
set_option maxRecDepth 20000 in
theorem ggL_due_L_floor : GoodIn wsL_due wsL_floor := goodIn_r _ [19] (by decide +kernel) (by decide +kernel)
set_option maxRecDepth 20000 in
theorem gL_due_L_floor : GoodIn wsL_due (va_wsS RL 46 yL_floor wsL_floor) := goodIn_app (goodIn_of _ (by decide +kernel)) ggL_due_L_floor
theorem dL_due_0 : decode cL_due 0 = .ok (.bipush 6, 2) := by decide +kernel
theorem dL_due_2 : decode cL_due 2 = .ok (.iload_n 1, 1) := by decide +kernel
theorem dL_due_3 : decode cL_due 3 = .ok (.imul, 1) := by decide +kernel
theorem dL_due_4 : decode cL_due 4 = .ok (.iload_n 2, 1) := by decide +kernel
theorem dL_due_5 : decode cL_due 5 = .ok (.iadd, 1) := by decide +kernel
theorem dL_due_6 : decode cL_due 6 = .ok (.istore 8, 2) := by decide +kernel
theorem dL_due_8 : decode cL_due 8 = .ok (.aload 5, 2) := by decide +kernel
theorem dL_due_10 : decode cL_due 10 = .ok (.iload 8, 2) := by decide +kernel
theorem dL_due_12 : decode cL_due 12 = .ok (.iaload, 1) := by decide +kernel
theorem dL_due_13 : decode cL_due 13 = .ok (.istore 9, 2) := by decide +kernel
theorem dL_due_15 : decode cL_due 15 = .ok (.iload_n 1, 1) := by decide +kernel
theorem dL_due_16 : decode cL_due 16 = .ok (.iload_n 2, 1) := by decide +kernel
theorem dL_due_17 : decode cL_due 17 = .ok (.if_icmp .eq 12, 3) := by decide +kernel
theorem dL_due_20 : decode cL_due 20 = .ok (.iload_n 0, 1) := by decide +kernel
theorem dL_due_21 : decode cL_due 21 = .ok (.iconst 1, 1) := by decide +kernel
theorem dL_due_22 : decode cL_due 22 = .ok (.if_icmp .ne 10, 3) := by decide +kernel
theorem dL_due_25 : decode cL_due 25 = .ok (.iload_n 3, 1) := by decide +kernel
theorem dL_due_26 : decode cL_due 26 = .ok (.ifCond .ne 6, 3) := by decide +kernel
theorem dL_due_29 : decode cL_due 29 = .ok (.ldc 36, 2) := by decide +kernel
theorem dL_due_31 : decode cL_due 31 = .ok (.ireturn, 1) := by decide +kernel
theorem dL_due_32 : decode cL_due 32 = .ok (.aload 5, 2) := by decide +kernel
theorem dL_due_34 : decode cL_due 34 = .ok (.iload 8, 2) := by decide +kernel
theorem dL_due_36 : decode cL_due 36 = .ok (.iload_n 0, 1) := by decide +kernel
theorem dL_due_37 : decode cL_due 37 = .ok (.ifCond .ne 7, 3) := by decide +kernel
theorem dL_due_40 : decode cL_due 40 = .ok (.iload_n 3, 1) := by decide +kernel
theorem dL_due_41 : decode cL_due 41 = .ok (.goto 7, 3) := by decide +kernel
theorem dL_due_44 : decode cL_due 44 = .ok (.iload 9, 2) := by decide +kernel
theorem dL_due_46 : decode cL_due 46 = .ok (.iload_n 3, 1) := by decide +kernel
theorem dL_due_47 : decode cL_due 47 = .ok (.iadd, 1) := by decide +kernel
theorem dL_due_48 : decode cL_due 48 = .ok (.iastore, 1) := by decide +kernel
theorem dL_due_49 : decode cL_due 49 = .ok (.iload_n 2, 1) := by decide +kernel
theorem dL_due_50 : decode cL_due 50 = .ok (.aload 5, 2) := by decide +kernel
theorem dL_due_52 : decode cL_due 52 = .ok (.invokestatic 128, 3) := by decide +kernel
theorem dL_due_55 : decode cL_due 55 = .ok (.bipush 100, 2) := by decide +kernel
theorem dL_due_57 : decode cL_due 57 = .ok (.if_icmp .gt 11, 3) := by decide +kernel
theorem dL_due_60 : decode cL_due 60 = .ok (.aload 5, 2) := by decide +kernel
theorem dL_due_62 : decode cL_due 62 = .ok (.invokestatic 131, 3) := by decide +kernel
theorem dL_due_65 : decode cL_due 65 = .ok (.ifCond .eq 13, 3) := by decide +kernel
theorem dL_due_68 : decode cL_due 68 = .ok (.aload 5, 2) := by decide +kernel
theorem dL_due_70 : decode cL_due 70 = .ok (.iload 8, 2) := by decide +kernel
theorem dL_due_72 : decode cL_due 72 = .ok (.iload 9, 2) := by decide +kernel
theorem dL_due_74 : decode cL_due 74 = .ok (.iastore, 1) := by decide +kernel
theorem dL_due_75 : decode cL_due 75 = .ok (.ldc 39, 2) := by decide +kernel
theorem dL_due_77 : decode cL_due 77 = .ok (.ireturn, 1) := by decide +kernel
theorem dL_due_78 : decode cL_due 78 = .ok (.aload 7, 2) := by decide +kernel
theorem dL_due_80 : decode cL_due 80 = .ok (.iload_n 2, 1) := by decide +kernel
theorem dL_due_81 : decode cL_due 81 = .ok (.dup2, 1) := by decide +kernel
theorem dL_due_82 : decode cL_due 82 = .ok (.iaload, 1) := by decide +kernel
theorem dL_due_83 : decode cL_due 83 = .ok (.iload_n 0, 1) := by decide +kernel
theorem dL_due_84 : decode cL_due 84 = .ok (.iconst 1, 1) := by decide +kernel
theorem dL_due_85 : decode cL_due 85 = .ok (.if_icmp .ne 26, 3) := by decide +kernel
theorem dL_due_88 : decode cL_due 88 = .ok (.iload 4, 2) := by decide +kernel
theorem dL_due_90 : decode cL_due 90 = .ok (.iload_n 3, 1) := by decide +kernel
theorem dL_due_91 : decode cL_due 91 = .ok (.i2l, 1) := by decide +kernel
theorem dL_due_92 : decode cL_due 92 = .ok (.iload_n 2, 1) := by decide +kernel
theorem dL_due_93 : decode cL_due 93 = .ok (.aload 6, 2) := by decide +kernel
theorem dL_due_95 : decode cL_due 95 = .ok (.invokestatic 77, 3) := by decide +kernel
theorem dL_due_98 : decode cL_due 98 = .ok (.i2l, 1) := by decide +kernel
theorem dL_due_99 : decode cL_due 99 = .ok (.lmul, 1) := by decide +kernel
theorem dL_due_100 : decode cL_due 100 = .ok (.ldc2_w 44, 3) := by decide +kernel
theorem dL_due_103 : decode cL_due 103 = .ok (.invokestatic 46, 3) := by decide +kernel
theorem dL_due_106 : decode cL_due 106 = .ok (.l2i, 1) := by decide +kernel
theorem dL_due_107 : decode cL_due 107 = .ok (.isub, 1) := by decide +kernel
theorem dL_due_108 : decode cL_due 108 = .ok (.goto 4, 3) := by decide +kernel
theorem dL_due_111 : decode cL_due 111 = .ok (.iconst 0, 1) := by decide +kernel
theorem dL_due_112 : decode cL_due 112 = .ok (.iadd, 1) := by decide +kernel
theorem dL_due_113 : decode cL_due 113 = .ok (.iastore, 1) := by decide +kernel
theorem dL_due_114 : decode cL_due 114 = .ok (.iload_n 0, 1) := by decide +kernel
theorem dL_due_115 : decode cL_due 115 = .ok (.ifCond .ne 8, 3) := by decide +kernel
theorem dL_due_118 : decode cL_due 118 = .ok (.iload 9, 2) := by decide +kernel
theorem dL_due_120 : decode cL_due 120 = .ok (.goto 8, 3) := by decide +kernel
theorem dL_due_123 : decode cL_due 123 = .ok (.aload 5, 2) := by decide +kernel
theorem dL_due_125 : decode cL_due 125 = .ok (.iload 8, 2) := by decide +kernel
theorem dL_due_127 : decode cL_due 127 = .ok (.iaload, 1) := by decide +kernel
theorem dL_due_128 : decode cL_due 128 = .ok (.ireturn, 1) := by decide +kernel
