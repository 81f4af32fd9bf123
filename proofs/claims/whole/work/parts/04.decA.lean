theorem dX0_init_0 : decode cX0_init 0 = .ok (.aload_n 0, 1) := by decide +kernel
theorem dX0_init_1 : decode cX0_init 1 = .ok (.invokespecial 3, 3) := by decide +kernel
theorem dX0_init_4 : decode cX0_init 4 = .ok (.aload_n 0, 1) := by decide +kernel
theorem dX0_init_5 : decode cX0_init 5 = .ok (.bipush 36, 2) := by decide +kernel
theorem dX0_init_7 : decode cX0_init 7 = .ok (.newarray .int, 2) := by decide +kernel
theorem dX0_init_9 : decode cX0_init 9 = .ok (.putfield 9, 3) := by decide +kernel
theorem dX0_init_12 : decode cX0_init 12 = .ok (.aload_n 0, 1) := by decide +kernel
theorem dX0_init_13 : decode cX0_init 13 = .ok (.bipush 36, 2) := by decide +kernel
theorem dX0_init_15 : decode cX0_init 15 = .ok (.newarray .int, 2) := by decide +kernel
theorem dX0_init_17 : decode cX0_init 17 = .ok (.putfield 15, 3) := by decide +kernel
theorem dX0_init_20 : decode cX0_init 20 = .ok (.return_, 1) := by decide +kernel
set_option maxRecDepth 20000 in
theorem ggX0_replaceClaim_X3_pair : GoodIn wsX0_replaceClaim wsX3_pair := goodIn_r _ [4] (by decide +kernel) (by decide +kernel)
set_option maxRecDepth 20000 in
theorem gX0_replaceClaim_X3_pair_n18 : GoodIn wsX0_replaceClaim (wsX3_pair) := ggX0_replaceClaim_X3_pair
theorem dX0_replaceClaim_0 : decode cX0_replaceClaim 0 = .ok (.iload_n 1, 1) := by decide +kernel
theorem dX0_replaceClaim_1 : decode cX0_replaceClaim 1 = .ok (.iload_n 2, 1) := by decide +kernel
theorem dX0_replaceClaim_2 : decode cX0_replaceClaim 2 = .ok (.invokestatic 18, 3) := by decide +kernel
theorem dX0_replaceClaim_5 : decode cX0_replaceClaim 5 = .ok (.istore 4, 2) := by decide +kernel
theorem dX0_replaceClaim_7 : decode cX0_replaceClaim 7 = .ok (.aload_n 0, 1) := by decide +kernel
theorem dX0_replaceClaim_8 : decode cX0_replaceClaim 8 = .ok (.getfield 9, 3) := by decide +kernel
theorem dX0_replaceClaim_11 : decode cX0_replaceClaim 11 = .ok (.iload 4, 2) := by decide +kernel
theorem dX0_replaceClaim_13 : decode cX0_replaceClaim 13 = .ok (.iaload, 1) := by decide +kernel
theorem dX0_replaceClaim_14 : decode cX0_replaceClaim 14 = .ok (.istore 5, 2) := by decide +kernel
theorem dX0_replaceClaim_16 : decode cX0_replaceClaim 16 = .ok (.aload_n 0, 1) := by decide +kernel
theorem dX0_replaceClaim_17 : decode cX0_replaceClaim 17 = .ok (.getfield 9, 3) := by decide +kernel
theorem dX0_replaceClaim_20 : decode cX0_replaceClaim 20 = .ok (.iload 4, 2) := by decide +kernel
theorem dX0_replaceClaim_22 : decode cX0_replaceClaim 22 = .ok (.iload_n 3, 1) := by decide +kernel
theorem dX0_replaceClaim_23 : decode cX0_replaceClaim 23 = .ok (.iastore, 1) := by decide +kernel
theorem dX0_replaceClaim_24 : decode cX0_replaceClaim 24 = .ok (.iload 5, 2) := by decide +kernel
theorem dX0_replaceClaim_26 : decode cX0_replaceClaim 26 = .ok (.ireturn, 1) := by decide +kernel
set_option maxRecDepth 20000 in
theorem ggX0_replaceAdmitted_X3_pair : GoodIn wsX0_replaceAdmitted wsX3_pair := goodIn_r _ [4] (by decide +kernel) (by decide +kernel)
set_option maxRecDepth 20000 in
theorem gX0_replaceAdmitted_X3_pair_n18 : GoodIn wsX0_replaceAdmitted (wsX3_pair) := ggX0_replaceAdmitted_X3_pair
theorem dX0_replaceAdmitted_0 : decode cX0_replaceAdmitted 0 = .ok (.iload_n 1, 1) := by decide +kernel
theorem dX0_replaceAdmitted_1 : decode cX0_replaceAdmitted 1 = .ok (.iload_n 2, 1) := by decide +kernel
theorem dX0_replaceAdmitted_2 : decode cX0_replaceAdmitted 2 = .ok (.invokestatic 18, 3) := by decide +kernel
theorem dX0_replaceAdmitted_5 : decode cX0_replaceAdmitted 5 = .ok (.istore 4, 2) := by decide +kernel
theorem dX0_replaceAdmitted_7 : decode cX0_replaceAdmitted 7 = .ok (.aload_n 0, 1) := by decide +kernel
theorem dX0_replaceAdmitted_8 : decode cX0_replaceAdmitted 8 = .ok (.getfield 15, 3) := by decide +kernel
theorem dX0_replaceAdmitted_11 : decode cX0_replaceAdmitted 11 = .ok (.iload 4, 2) := by decide +kernel
theorem dX0_replaceAdmitted_13 : decode cX0_replaceAdmitted 13 = .ok (.iaload, 1) := by decide +kernel
theorem dX0_replaceAdmitted_14 : decode cX0_replaceAdmitted 14 = .ok (.istore 5, 2) := by decide +kernel
theorem dX0_replaceAdmitted_16 : decode cX0_replaceAdmitted 16 = .ok (.aload_n 0, 1) := by decide +kernel
theorem dX0_replaceAdmitted_17 : decode cX0_replaceAdmitted 17 = .ok (.getfield 15, 3) := by decide +kernel
theorem dX0_replaceAdmitted_20 : decode cX0_replaceAdmitted 20 = .ok (.iload 4, 2) := by decide +kernel
theorem dX0_replaceAdmitted_22 : decode cX0_replaceAdmitted 22 = .ok (.iload_n 3, 1) := by decide +kernel
theorem dX0_replaceAdmitted_23 : decode cX0_replaceAdmitted 23 = .ok (.iastore, 1) := by decide +kernel
theorem dX0_replaceAdmitted_24 : decode cX0_replaceAdmitted 24 = .ok (.iload 5, 2) := by decide +kernel
theorem dX0_replaceAdmitted_26 : decode cX0_replaceAdmitted 26 = .ok (.ireturn, 1) := by decide +kernel
set_option maxRecDepth 20000 in
theorem ggX0_disputed_X3_pair : GoodIn wsX0_disputed wsX3_pair := goodIn_r _ [5] (by decide +kernel) (by decide +kernel)
set_option maxRecDepth 20000 in
theorem gX0_disputed_X3_pair_n18 : GoodIn wsX0_disputed (wsX3_pair) := ggX0_disputed_X3_pair
theorem dX0_disputed_0 : decode cX0_disputed 0 = .ok (.iload_n 1, 1) := by decide +kernel
theorem dX0_disputed_1 : decode cX0_disputed 1 = .ok (.iload_n 2, 1) := by decide +kernel
theorem dX0_disputed_2 : decode cX0_disputed 2 = .ok (.invokestatic 18, 3) := by decide +kernel
theorem dX0_disputed_5 : decode cX0_disputed 5 = .ok (.istore_n 3, 1) := by decide +kernel
theorem dX0_disputed_6 : decode cX0_disputed 6 = .ok (.aload_n 0, 1) := by decide +kernel
theorem dX0_disputed_7 : decode cX0_disputed 7 = .ok (.getfield 9, 3) := by decide +kernel
theorem dX0_disputed_10 : decode cX0_disputed 10 = .ok (.iload_n 3, 1) := by decide +kernel
theorem dX0_disputed_11 : decode cX0_disputed 11 = .ok (.iaload, 1) := by decide +kernel
theorem dX0_disputed_12 : decode cX0_disputed 12 = .ok (.aload_n 0, 1) := by decide +kernel
theorem dX0_disputed_13 : decode cX0_disputed 13 = .ok (.getfield 15, 3) := by decide +kernel
theorem dX0_disputed_16 : decode cX0_disputed 16 = .ok (.iload_n 3, 1) := by decide +kernel
theorem dX0_disputed_17 : decode cX0_disputed 17 = .ok (.iaload, 1) := by decide +kernel
theorem dX0_disputed_18 : decode cX0_disputed 18 = .ok (.isub, 1) := by decide +kernel
theorem dX0_disputed_19 : decode cX0_disputed 19 = .ok (.ireturn, 1) := by decide +kernel
set_option maxRecDepth 20000 in
theorem ggX0_agreedAmong_X3_isMember : GoodIn wsX0_agreedAmong wsX3_isMember := goodIn_r _ [9] (by decide +kernel) (by decide +kernel)
set_option maxRecDepth 20000 in
theorem gX0_agreedAmong_X3_isMember_n22 : GoodIn wsX0_agreedAmong (wsX3_isMember) := ggX0_agreedAmong_X3_isMember
set_option maxRecDepth 20000 in
theorem ggX0_agreedAmong_X3_pair : GoodIn wsX0_agreedAmong wsX3_pair := goodIn_r _ [11] (by decide +kernel) (by decide +kernel)
set_option maxRecDepth 20000 in
theorem gX0_agreedAmong_X3_pair_n18 : GoodIn wsX0_agreedAmong (wsX3_pair) := ggX0_agreedAmong_X3_pair
theorem dX0_agreedAmong_0 : decode cX0_agreedAmong 0 = .ok (.iconst 0, 1) := by decide +kernel
theorem dX0_agreedAmong_1 : decode cX0_agreedAmong 1 = .ok (.istore_n 2, 1) := by decide +kernel
theorem dX0_agreedAmong_2 : decode cX0_agreedAmong 2 = .ok (.iconst 0, 1) := by decide +kernel
theorem dX0_agreedAmong_3 : decode cX0_agreedAmong 3 = .ok (.istore_n 3, 1) := by decide +kernel
theorem dX0_agreedAmong_4 : decode cX0_agreedAmong 4 = .ok (.iload_n 3, 1) := by decide +kernel
theorem dX0_agreedAmong_5 : decode cX0_agreedAmong 5 = .ok (.bipush 6, 2) := by decide +kernel
theorem dX0_agreedAmong_7 : decode cX0_agreedAmong 7 = .ok (.if_icmp .ge 70, 3) := by decide +kernel
theorem dX0_agreedAmong_10 : decode cX0_agreedAmong 10 = .ok (.iconst 0, 1) := by decide +kernel
theorem dX0_agreedAmong_11 : decode cX0_agreedAmong 11 = .ok (.istore 4, 2) := by decide +kernel
theorem dX0_agreedAmong_13 : decode cX0_agreedAmong 13 = .ok (.iload 4, 2) := by decide +kernel
theorem dX0_agreedAmong_15 : decode cX0_agreedAmong 15 = .ok (.bipush 6, 2) := by decide +kernel
theorem dX0_agreedAmong_17 : decode cX0_agreedAmong 17 = .ok (.if_icmp .ge 54, 3) := by decide +kernel
theorem dX0_agreedAmong_20 : decode cX0_agreedAmong 20 = .ok (.iload_n 1, 1) := by decide +kernel
theorem dX0_agreedAmong_21 : decode cX0_agreedAmong 21 = .ok (.iload_n 3, 1) := by decide +kernel
theorem dX0_agreedAmong_22 : decode cX0_agreedAmong 22 = .ok (.invokestatic 22, 3) := by decide +kernel
theorem dX0_agreedAmong_25 : decode cX0_agreedAmong 25 = .ok (.ifCond .eq 40, 3) := by decide +kernel
theorem dX0_agreedAmong_28 : decode cX0_agreedAmong 28 = .ok (.iload_n 1, 1) := by decide +kernel
theorem dX0_agreedAmong_29 : decode cX0_agreedAmong 29 = .ok (.iload 4, 2) := by decide +kernel
theorem dX0_agreedAmong_31 : decode cX0_agreedAmong 31 = .ok (.invokestatic 22, 3) := by decide +kernel
theorem dX0_agreedAmong_34 : decode cX0_agreedAmong 34 = .ok (.ifCond .eq 31, 3) := by decide +kernel
theorem dX0_agreedAmong_37 : decode cX0_agreedAmong 37 = .ok (.iload_n 3, 1) := by decide +kernel
theorem dX0_agreedAmong_38 : decode cX0_agreedAmong 38 = .ok (.iload 4, 2) := by decide +kernel
theorem dX0_agreedAmong_40 : decode cX0_agreedAmong 40 = .ok (.invokestatic 18, 3) := by decide +kernel
theorem dX0_agreedAmong_43 : decode cX0_agreedAmong 43 = .ok (.istore 5, 2) := by decide +kernel
theorem dX0_agreedAmong_45 : decode cX0_agreedAmong 45 = .ok (.iload_n 2, 1) := by decide +kernel
theorem dX0_agreedAmong_46 : decode cX0_agreedAmong 46 = .ok (.aload_n 0, 1) := by decide +kernel
theorem dX0_agreedAmong_47 : decode cX0_agreedAmong 47 = .ok (.getfield 9, 3) := by decide +kernel
theorem dX0_agreedAmong_50 : decode cX0_agreedAmong 50 = .ok (.iload 5, 2) := by decide +kernel
theorem dX0_agreedAmong_52 : decode cX0_agreedAmong 52 = .ok (.iaload, 1) := by decide +kernel
theorem dX0_agreedAmong_53 : decode cX0_agreedAmong 53 = .ok (.aload_n 0, 1) := by decide +kernel
theorem dX0_agreedAmong_54 : decode cX0_agreedAmong 54 = .ok (.getfield 15, 3) := by decide +kernel
theorem dX0_agreedAmong_57 : decode cX0_agreedAmong 57 = .ok (.iload 5, 2) := by decide +kernel
theorem dX0_agreedAmong_59 : decode cX0_agreedAmong 59 = .ok (.iaload, 1) := by decide +kernel
theorem dX0_agreedAmong_60 : decode cX0_agreedAmong 60 = .ok (.invokestatic 26, 3) := by decide +kernel
theorem dX0_agreedAmong_63 : decode cX0_agreedAmong 63 = .ok (.iadd, 1) := by decide +kernel
theorem dX0_agreedAmong_64 : decode cX0_agreedAmong 64 = .ok (.istore_n 2, 1) := by decide +kernel
theorem dX0_agreedAmong_65 : decode cX0_agreedAmong 65 = .ok (.iinc 4 1, 3) := by decide +kernel
theorem dX0_agreedAmong_68 : decode cX0_agreedAmong 68 = .ok (.goto (-55), 3) := by decide +kernel
theorem dX0_agreedAmong_71 : decode cX0_agreedAmong 71 = .ok (.iinc 3 1, 3) := by decide +kernel
theorem dX0_agreedAmong_74 : decode cX0_agreedAmong 74 = .ok (.goto (-70), 3) := by decide +kernel
theorem dX0_agreedAmong_77 : decode cX0_agreedAmong 77 = .ok (.iload_n 2, 1) := by decide +kernel
theorem dX0_agreedAmong_78 : decode cX0_agreedAmong 78 = .ok (.ireturn, 1) := by decide +kernel
theorem dX1_init_0 : decode cX1_init 0 = .ok (.aload_n 0, 1) := by decide +kernel
theorem dX1_init_1 : decode cX1_init 1 = .ok (.invokespecial 3, 3) := by decide +kernel
theorem dX1_init_4 : decode cX1_init 4 = .ok (.aload_n 0, 1) := by decide +kernel
theorem dX1_init_5 : decode cX1_init 5 = .ok (.bipush 6, 2) := by decide +kernel
theorem dX1_init_7 : decode cX1_init 7 = .ok (.newarray .int, 2) := by decide +kernel
theorem dX1_init_9 : decode cX1_init 9 = .ok (.putfield 9, 3) := by decide +kernel
theorem dX1_init_12 : decode cX1_init 12 = .ok (.aload_n 0, 1) := by decide +kernel
theorem dX1_init_13 : decode cX1_init 13 = .ok (.bipush 6, 2) := by decide +kernel
theorem dX1_init_15 : decode cX1_init 15 = .ok (.newarray .int, 2) := by decide +kernel
theorem dX1_init_17 : decode cX1_init 17 = .ok (.putfield 15, 3) := by decide +kernel
theorem dX1_init_20 : decode cX1_init 20 = .ok (.aload_n 0, 1) := by decide +kernel
theorem dX1_init_21 : decode cX1_init 21 = .ok (.bipush 6, 2) := by decide +kernel
theorem dX1_init_23 : decode cX1_init 23 = .ok (.newarray .int, 2) := by decide +kernel
theorem dX1_init_25 : decode cX1_init 25 = .ok (.putfield 18, 3) := by decide +kernel
theorem dX1_init_28 : decode cX1_init 28 = .ok (.aload_n 0, 1) := by decide +kernel
theorem dX1_init_29 : decode cX1_init 29 = .ok (.bipush 6, 2) := by decide +kernel
theorem dX1_init_31 : decode cX1_init 31 = .ok (.newarray .int, 2) := by decide +kernel
theorem dX1_init_33 : decode cX1_init 33 = .ok (.putfield 21, 3) := by decide +kernel
theorem dX1_init_36 : decode cX1_init 36 = .ok (.aload_n 0, 1) := by decide +kernel
theorem dX1_init_37 : decode cX1_init 37 = .ok (.bipush 6, 2) := by decide +kernel
theorem dX1_init_39 : decode cX1_init 39 = .ok (.newarray .int, 2) := by decide +kernel
theorem dX1_init_41 : decode cX1_init 41 = .ok (.putfield 24, 3) := by decide +kernel
theorem dX1_init_44 : decode cX1_init 44 = .ok (.aload_n 0, 1) := by decide +kernel
theorem dX1_init_45 : decode cX1_init 45 = .ok (.bipush 6, 2) := by decide +kernel
theorem dX1_init_47 : decode cX1_init 47 = .ok (.newarray .int, 2) := by decide +kernel
theorem dX1_init_49 : decode cX1_init 49 = .ok (.putfield 27, 3) := by decide +kernel
theorem dX1_init_52 : decode cX1_init 52 = .ok (.aload_n 0, 1) := by decide +kernel
theorem dX1_init_53 : decode cX1_init 53 = .ok (.bipush 6, 2) := by decide +kernel
theorem dX1_init_55 : decode cX1_init 55 = .ok (.newarray .int, 2) := by decide +kernel
theorem dX1_init_57 : decode cX1_init 57 = .ok (.putfield 30, 3) := by decide +kernel
theorem dX1_init_60 : decode cX1_init 60 = .ok (.iconst 0, 1) := by decide +kernel
theorem dX1_init_61 : decode cX1_init 61 = .ok (.istore_n 1, 1) := by decide +kernel
theorem dX1_init_62 : decode cX1_init 62 = .ok (.iload_n 1, 1) := by decide +kernel
theorem dX1_init_63 : decode cX1_init 63 = .ok (.bipush 6, 2) := by decide +kernel
theorem dX1_init_65 : decode cX1_init 65 = .ok (.if_icmp .ge 33, 3) := by decide +kernel
theorem dX1_init_68 : decode cX1_init 68 = .ok (.aload_n 0, 1) := by decide +kernel
theorem dX1_init_69 : decode cX1_init 69 = .ok (.getfield 24, 3) := by decide +kernel
theorem dX1_init_72 : decode cX1_init 72 = .ok (.iload_n 1, 1) := by decide +kernel
theorem dX1_init_73 : decode cX1_init 73 = .ok (.bipush 100, 2) := by decide +kernel
theorem dX1_init_75 : decode cX1_init 75 = .ok (.iastore, 1) := by decide +kernel
theorem dX1_init_76 : decode cX1_init 76 = .ok (.aload_n 0, 1) := by decide +kernel
theorem dX1_init_77 : decode cX1_init 77 = .ok (.getfield 27, 3) := by decide +kernel
theorem dX1_init_80 : decode cX1_init 80 = .ok (.iload_n 1, 1) := by decide +kernel
theorem dX1_init_81 : decode cX1_init 81 = .ok (.bipush 100, 2) := by decide +kernel
theorem dX1_init_83 : decode cX1_init 83 = .ok (.iastore, 1) := by decide +kernel
theorem dX1_init_84 : decode cX1_init 84 = .ok (.aload_n 0, 1) := by decide +kernel
theorem dX1_init_85 : decode cX1_init 85 = .ok (.getfield 30, 3) := by decide +kernel
theorem dX1_init_88 : decode cX1_init 88 = .ok (.iload_n 1, 1) := by decide +kernel
theorem dX1_init_89 : decode cX1_init 89 = .ok (.bipush 100, 2) := by decide +kernel
theorem dX1_init_91 : decode cX1_init 91 = .ok (.iastore, 1) := by decide +kernel
theorem dX1_init_92 : decode cX1_init 92 = .ok (.iinc 1 1, 3) := by decide +kernel
theorem dX1_init_95 : decode cX1_init 95 = .ok (.goto (-33), 3) := by decide +kernel
theorem dX1_init_98 : decode cX1_init 98 = .ok (.return_, 1) := by decide +kernel
theorem dX1_enter_0 : decode cX1_enter 0 = .ok (.aload_n 0, 1) := by decide +kernel
theorem dX1_enter_1 : decode cX1_enter 1 = .ok (.getfield 9, 3) := by decide +kernel
theorem dX1_enter_4 : decode cX1_enter 4 = .ok (.iload_n 1, 1) := by decide +kernel
theorem dX1_enter_5 : decode cX1_enter 5 = .ok (.iload_n 2, 1) := by decide +kernel
theorem dX1_enter_6 : decode cX1_enter 6 = .ok (.iastore, 1) := by decide +kernel
theorem dX1_enter_7 : decode cX1_enter 7 = .ok (.aload_n 0, 1) := by decide +kernel
theorem dX1_enter_8 : decode cX1_enter 8 = .ok (.getfield 15, 3) := by decide +kernel
theorem dX1_enter_11 : decode cX1_enter 11 = .ok (.iload_n 1, 1) := by decide +kernel
theorem dX1_enter_12 : decode cX1_enter 12 = .ok (.iload_n 3, 1) := by decide +kernel
theorem dX1_enter_13 : decode cX1_enter 13 = .ok (.iastore, 1) := by decide +kernel
theorem dX1_enter_14 : decode cX1_enter 14 = .ok (.aload_n 0, 1) := by decide +kernel
theorem dX1_enter_15 : decode cX1_enter 15 = .ok (.getfield 18, 3) := by decide +kernel
theorem dX1_enter_18 : decode cX1_enter 18 = .ok (.iload_n 1, 1) := by decide +kernel
theorem dX1_enter_19 : decode cX1_enter 19 = .ok (.iload 4, 2) := by decide +kernel
theorem dX1_enter_21 : decode cX1_enter 21 = .ok (.iastore, 1) := by decide +kernel
theorem dX1_enter_22 : decode cX1_enter 22 = .ok (.aload_n 0, 1) := by decide +kernel
theorem dX1_enter_23 : decode cX1_enter 23 = .ok (.getfield 21, 3) := by decide +kernel
theorem dX1_enter_26 : decode cX1_enter 26 = .ok (.iload_n 1, 1) := by decide +kernel
theorem dX1_enter_27 : decode cX1_enter 27 = .ok (.iload 5, 2) := by decide +kernel
theorem dX1_enter_29 : decode cX1_enter 29 = .ok (.iastore, 1) := by decide +kernel
theorem dX1_enter_30 : decode cX1_enter 30 = .ok (.return_, 1) := by decide +kernel
theorem dX1_enterRates_0 : decode cX1_enterRates 0 = .ok (.aload_n 0, 1) := by decide +kernel
theorem dX1_enterRates_1 : decode cX1_enterRates 1 = .ok (.getfield 24, 3) := by decide +kernel
theorem dX1_enterRates_4 : decode cX1_enterRates 4 = .ok (.iload_n 1, 1) := by decide +kernel
theorem dX1_enterRates_5 : decode cX1_enterRates 5 = .ok (.iload_n 2, 1) := by decide +kernel
theorem dX1_enterRates_6 : decode cX1_enterRates 6 = .ok (.iastore, 1) := by decide +kernel
theorem dX1_enterRates_7 : decode cX1_enterRates 7 = .ok (.aload_n 0, 1) := by decide +kernel
theorem dX1_enterRates_8 : decode cX1_enterRates 8 = .ok (.getfield 27, 3) := by decide +kernel
theorem dX1_enterRates_11 : decode cX1_enterRates 11 = .ok (.iload_n 1, 1) := by decide +kernel
theorem dX1_enterRates_12 : decode cX1_enterRates 12 = .ok (.iload_n 3, 1) := by decide +kernel
theorem dX1_enterRates_13 : decode cX1_enterRates 13 = .ok (.iastore, 1) := by decide +kernel
theorem dX1_enterRates_14 : decode cX1_enterRates 14 = .ok (.aload_n 0, 1) := by decide +kernel
theorem dX1_enterRates_15 : decode cX1_enterRates 15 = .ok (.getfield 30, 3) := by decide +kernel
theorem dX1_enterRates_18 : decode cX1_enterRates 18 = .ok (.iload_n 1, 1) := by decide +kernel
theorem dX1_enterRates_19 : decode cX1_enterRates 19 = .ok (.iload 4, 2) := by decide +kernel
theorem dX1_enterRates_21 : decode cX1_enterRates 21 = .ok (.iastore, 1) := by decide +kernel
theorem dX1_enterRates_22 : decode cX1_enterRates 22 = .ok (.return_, 1) := by decide +kernel
set_option maxRecDepth 20000 in
theorem ggX1_assetsOf_X1_translate : GoodIn wsX1_assetsOf wsX1_translate := goodIn_r _ [6, 7, 8, 9, 10] (by decide +kernel) (by decide +kernel)
set_option maxRecDepth 20000 in
theorem gX1_assetsOf_X1_translate : GoodIn wsX1_assetsOf (va_wsS RX1 33 yX1_translate wsX1_translate) := goodIn_app (goodIn_of _ (by decide +kernel)) ggX1_assetsOf_X1_translate
theorem dX1_assetsOf_0 : decode cX1_assetsOf 0 = .ok (.aload_n 0, 1) := by decide +kernel
theorem dX1_assetsOf_1 : decode cX1_assetsOf 1 = .ok (.getfield 9, 3) := by decide +kernel
theorem dX1_assetsOf_4 : decode cX1_assetsOf 4 = .ok (.iload_n 1, 1) := by decide +kernel
theorem dX1_assetsOf_5 : decode cX1_assetsOf 5 = .ok (.iaload, 1) := by decide +kernel
theorem dX1_assetsOf_6 : decode cX1_assetsOf 6 = .ok (.aload_n 0, 1) := by decide +kernel
theorem dX1_assetsOf_7 : decode cX1_assetsOf 7 = .ok (.getfield 24, 3) := by decide +kernel
theorem dX1_assetsOf_10 : decode cX1_assetsOf 10 = .ok (.iload_n 1, 1) := by decide +kernel
theorem dX1_assetsOf_11 : decode cX1_assetsOf 11 = .ok (.iaload, 1) := by decide +kernel
theorem dX1_assetsOf_12 : decode cX1_assetsOf 12 = .ok (.invokestatic 33, 3) := by decide +kernel
theorem dX1_assetsOf_15 : decode cX1_assetsOf 15 = .ok (.ireturn, 1) := by decide +kernel
set_option maxRecDepth 20000 in
theorem ggX1_debtsOf_X1_translate : GoodIn wsX1_debtsOf wsX1_translate := goodIn_r _ [6, 7, 8, 9, 10] (by decide +kernel) (by decide +kernel)
set_option maxRecDepth 20000 in
theorem gX1_debtsOf_X1_translate : GoodIn wsX1_debtsOf (va_wsS RX1 33 yX1_translate wsX1_translate) := goodIn_app (goodIn_of _ (by decide +kernel)) ggX1_debtsOf_X1_translate
theorem dX1_debtsOf_0 : decode cX1_debtsOf 0 = .ok (.aload_n 0, 1) := by decide +kernel
theorem dX1_debtsOf_1 : decode cX1_debtsOf 1 = .ok (.getfield 15, 3) := by decide +kernel
theorem dX1_debtsOf_4 : decode cX1_debtsOf 4 = .ok (.iload_n 1, 1) := by decide +kernel
theorem dX1_debtsOf_5 : decode cX1_debtsOf 5 = .ok (.iaload, 1) := by decide +kernel
theorem dX1_debtsOf_6 : decode cX1_debtsOf 6 = .ok (.aload_n 0, 1) := by decide +kernel
theorem dX1_debtsOf_7 : decode cX1_debtsOf 7 = .ok (.getfield 24, 3) := by decide +kernel
theorem dX1_debtsOf_10 : decode cX1_debtsOf 10 = .ok (.iload_n 1, 1) := by decide +kernel
theorem dX1_debtsOf_11 : decode cX1_debtsOf 11 = .ok (.iaload, 1) := by decide +kernel
theorem dX1_debtsOf_12 : decode cX1_debtsOf 12 = .ok (.invokestatic 33, 3) := by decide +kernel
theorem dX1_debtsOf_15 : decode cX1_debtsOf 15 = .ok (.ireturn, 1) := by decide +kernel
set_option maxRecDepth 20000 in
theorem ggX1_equityOf_X1_translate : GoodIn wsX1_equityOf wsX1_translate := goodIn_r _ [6, 7, 8, 9, 10] (by decide +kernel) (by decide +kernel)
set_option maxRecDepth 20000 in
theorem gX1_equityOf_X1_translate : GoodIn wsX1_equityOf (va_wsS RX1 33 yX1_translate wsX1_translate) := goodIn_app (goodIn_of _ (by decide +kernel)) ggX1_equityOf_X1_translate
theorem dX1_equityOf_0 : decode cX1_equityOf 0 = .ok (.aload_n 0, 1) := by decide +kernel
theorem dX1_equityOf_1 : decode cX1_equityOf 1 = .ok (.getfield 18, 3) := by decide +kernel
theorem dX1_equityOf_4 : decode cX1_equityOf 4 = .ok (.iload_n 1, 1) := by decide +kernel
theorem dX1_equityOf_5 : decode cX1_equityOf 5 = .ok (.iaload, 1) := by decide +kernel
theorem dX1_equityOf_6 : decode cX1_equityOf 6 = .ok (.aload_n 0, 1) := by decide +kernel
theorem dX1_equityOf_7 : decode cX1_equityOf 7 = .ok (.getfield 30, 3) := by decide +kernel
theorem dX1_equityOf_10 : decode cX1_equityOf 10 = .ok (.iload_n 1, 1) := by decide +kernel
theorem dX1_equityOf_11 : decode cX1_equityOf 11 = .ok (.iaload, 1) := by decide +kernel
theorem dX1_equityOf_12 : decode cX1_equityOf 12 = .ok (.invokestatic 33, 3) := by decide +kernel
theorem dX1_equityOf_15 : decode cX1_equityOf 15 = .ok (.ireturn, 1) := by decide +kernel
set_option maxRecDepth 20000 in
theorem ggX1_profitOf_X1_translate : GoodIn wsX1_profitOf wsX1_translate := goodIn_r _ [6, 7, 8, 9, 10] (by decide +kernel) (by decide +kernel)
set_option maxRecDepth 20000 in
theorem gX1_profitOf_X1_translate : GoodIn wsX1_profitOf (va_wsS RX1 33 yX1_translate wsX1_translate) := goodIn_app (goodIn_of _ (by decide +kernel)) ggX1_profitOf_X1_translate
theorem dX1_profitOf_0 : decode cX1_profitOf 0 = .ok (.aload_n 0, 1) := by decide +kernel
theorem dX1_profitOf_1 : decode cX1_profitOf 1 = .ok (.getfield 21, 3) := by decide +kernel
theorem dX1_profitOf_4 : decode cX1_profitOf 4 = .ok (.iload_n 1, 1) := by decide +kernel
theorem dX1_profitOf_5 : decode cX1_profitOf 5 = .ok (.iaload, 1) := by decide +kernel
theorem dX1_profitOf_6 : decode cX1_profitOf 6 = .ok (.aload_n 0, 1) := by decide +kernel
theorem dX1_profitOf_7 : decode cX1_profitOf 7 = .ok (.getfield 27, 3) := by decide +kernel
theorem dX1_profitOf_10 : decode cX1_profitOf 10 = .ok (.iload_n 1, 1) := by decide +kernel
theorem dX1_profitOf_11 : decode cX1_profitOf 11 = .ok (.iaload, 1) := by decide +kernel
theorem dX1_profitOf_12 : decode cX1_profitOf 12 = .ok (.invokestatic 33, 3) := by decide +kernel
theorem dX1_profitOf_15 : decode cX1_profitOf 15 = .ok (.ireturn, 1) := by decide +kernel
set_option maxRecDepth 20000 in
theorem ggX1_netOf_X1_assetsOf : GoodIn wsX1_netOf wsX1_assetsOf := goodIn_r _ [5, 6, 7, 8, 9, 4, 10, 11, 12, 13, 14, 20, 21, 22, 23, 24, 25, 26] (by decide +kernel) (by decide +kernel)
set_option maxRecDepth 20000 in
theorem gX1_netOf_X1_assetsOf : GoodIn wsX1_netOf (wsV RX1 37 RX1 yX1_assetsOf wsX1_assetsOf) := goodIn_app (goodIn_of _ (by decide +kernel)) ggX1_netOf_X1_assetsOf
set_option maxRecDepth 20000 in
theorem ggX1_netOf_X1_debtsOf : GoodIn wsX1_netOf wsX1_debtsOf := goodIn_r _ [18, 19, 7, 8, 9, 4, 10, 11, 12, 13, 14, 20, 21, 22, 23, 24, 25, 26] (by decide +kernel) (by decide +kernel)
set_option maxRecDepth 20000 in
theorem gX1_netOf_X1_debtsOf : GoodIn wsX1_netOf (wsV RX1 41 RX1 yX1_debtsOf wsX1_debtsOf) := goodIn_app (goodIn_of _ (by decide +kernel)) ggX1_netOf_X1_debtsOf
theorem dX1_netOf_0 : decode cX1_netOf 0 = .ok (.aload_n 0, 1) := by decide +kernel
theorem dX1_netOf_1 : decode cX1_netOf 1 = .ok (.iload_n 1, 1) := by decide +kernel
theorem dX1_netOf_2 : decode cX1_netOf 2 = .ok (.invokevirtual 37, 3) := by decide +kernel
theorem dX1_netOf_5 : decode cX1_netOf 5 = .ok (.aload_n 0, 1) := by decide +kernel
theorem dX1_netOf_6 : decode cX1_netOf 6 = .ok (.iload_n 1, 1) := by decide +kernel
theorem dX1_netOf_7 : decode cX1_netOf 7 = .ok (.invokevirtual 41, 3) := by decide +kernel
theorem dX1_netOf_10 : decode cX1_netOf 10 = .ok (.isub, 1) := by decide +kernel
theorem dX1_netOf_11 : decode cX1_netOf 11 = .ok (.ireturn, 1) := by decide +kernel
set_option maxRecDepth 20000 in
theorem ggX1_translate_J9_floorDiv_7cf53 : GoodIn wsX1_translate wsJ9_floorDiv_7cf53 := goodIn_r _ [4] (by decide +kernel) (by decide +kernel)
set_option maxRecDepth 20000 in
theorem gX1_translate_J9_floorDiv_7cf53 : GoodIn wsX1_translate (va_wsS RX1 44 yJ9_floorDiv_7cf53 wsJ9_floorDiv_7cf53) := goodIn_app (goodIn_of _ (by decide +kernel)) ggX1_translate_J9_floorDiv_7cf53
theorem dX1_translate_0 : decode cX1_translate 0 = .ok (.iload_n 0, 1) := by decide +kernel
theorem dX1_translate_1 : decode cX1_translate 1 = .ok (.iload_n 1, 1) := by decide +kernel
theorem dX1_translate_2 : decode cX1_translate 2 = .ok (.imul, 1) := by decide +kernel
theorem dX1_translate_3 : decode cX1_translate 3 = .ok (.bipush 100, 2) := by decide +kernel
theorem dX1_translate_5 : decode cX1_translate 5 = .ok (.invokestatic 44, 3) := by decide +kernel
theorem dX1_translate_8 : decode cX1_translate 8 = .ok (.ireturn, 1) := by decide +kernel
theorem dX1_carryResults_0 : decode cX1_carryResults 0 = .ok (.iconst 0, 1) := by decide +kernel
theorem dX1_carryResults_1 : decode cX1_carryResults 1 = .ok (.istore_n 1, 1) := by decide +kernel
theorem dX1_carryResults_2 : decode cX1_carryResults 2 = .ok (.iload_n 1, 1) := by decide +kernel
theorem dX1_carryResults_3 : decode cX1_carryResults 3 = .ok (.bipush 6, 2) := by decide +kernel
theorem dX1_carryResults_5 : decode cX1_carryResults 5 = .ok (.if_icmp .ge 31, 3) := by decide +kernel
theorem dX1_carryResults_8 : decode cX1_carryResults 8 = .ok (.aload_n 0, 1) := by decide +kernel
theorem dX1_carryResults_9 : decode cX1_carryResults 9 = .ok (.getfield 18, 3) := by decide +kernel
theorem dX1_carryResults_12 : decode cX1_carryResults 12 = .ok (.iload_n 1, 1) := by decide +kernel
theorem dX1_carryResults_13 : decode cX1_carryResults 13 = .ok (.dup2, 1) := by decide +kernel
theorem dX1_carryResults_14 : decode cX1_carryResults 14 = .ok (.iaload, 1) := by decide +kernel
theorem dX1_carryResults_15 : decode cX1_carryResults 15 = .ok (.aload_n 0, 1) := by decide +kernel
theorem dX1_carryResults_16 : decode cX1_carryResults 16 = .ok (.getfield 21, 3) := by decide +kernel
theorem dX1_carryResults_19 : decode cX1_carryResults 19 = .ok (.iload_n 1, 1) := by decide +kernel
theorem dX1_carryResults_20 : decode cX1_carryResults 20 = .ok (.iaload, 1) := by decide +kernel
theorem dX1_carryResults_21 : decode cX1_carryResults 21 = .ok (.iadd, 1) := by decide +kernel
theorem dX1_carryResults_22 : decode cX1_carryResults 22 = .ok (.iastore, 1) := by decide +kernel
theorem dX1_carryResults_23 : decode cX1_carryResults 23 = .ok (.aload_n 0, 1) := by decide +kernel
theorem dX1_carryResults_24 : decode cX1_carryResults 24 = .ok (.getfield 21, 3) := by decide +kernel
theorem dX1_carryResults_27 : decode cX1_carryResults 27 = .ok (.iload_n 1, 1) := by decide +kernel
theorem dX1_carryResults_28 : decode cX1_carryResults 28 = .ok (.iconst 0, 1) := by decide +kernel
theorem dX1_carryResults_29 : decode cX1_carryResults 29 = .ok (.iastore, 1) := by decide +kernel
theorem dX1_carryResults_30 : decode cX1_carryResults 30 = .ok (.iinc 1 1, 3) := by decide +kernel
theorem dX1_carryResults_33 : decode cX1_carryResults 33 = .ok (.goto (-31), 3) := by decide +kernel
theorem dX1_carryResults_36 : decode cX1_carryResults 36 = .ok (.return_, 1) := by decide +kernel
theorem dX2_init_0 : decode cX2_init 0 = .ok (.aload_n 0, 1) := by decide +kernel
theorem dX2_init_1 : decode cX2_init 1 = .ok (.invokespecial 3, 3) := by decide +kernel
theorem dX2_init_4 : decode cX2_init 4 = .ok (.aload_n 0, 1) := by decide +kernel
theorem dX2_init_5 : decode cX2_init 5 = .ok (.bipush 36, 2) := by decide +kernel
theorem dX2_init_7 : decode cX2_init 7 = .ok (.newarray .int, 2) := by decide +kernel
theorem dX2_init_9 : decode cX2_init 9 = .ok (.putfield 9, 3) := by decide +kernel
theorem dX2_init_12 : decode cX2_init 12 = .ok (.aload_n 0, 1) := by decide +kernel
theorem dX2_init_13 : decode cX2_init 13 = .ok (.bipush 6, 2) := by decide +kernel
theorem dX2_init_15 : decode cX2_init 15 = .ok (.newarray .long, 2) := by decide +kernel
theorem dX2_init_17 : decode cX2_init 17 = .ok (.putfield 15, 3) := by decide +kernel
theorem dX2_init_20 : decode cX2_init 20 = .ok (.aload_n 0, 1) := by decide +kernel
theorem dX2_init_21 : decode cX2_init 21 = .ok (.bipush 6, 2) := by decide +kernel
theorem dX2_init_23 : decode cX2_init 23 = .ok (.newarray .long, 2) := by decide +kernel
theorem dX2_init_25 : decode cX2_init 25 = .ok (.putfield 19, 3) := by decide +kernel
theorem dX2_init_28 : decode cX2_init 28 = .ok (.aload_n 0, 1) := by decide +kernel
theorem dX2_init_29 : decode cX2_init 29 = .ok (.bipush 36, 2) := by decide +kernel
theorem dX2_init_31 : decode cX2_init 31 = .ok (.newarray .long, 2) := by decide +kernel
theorem dX2_init_33 : decode cX2_init 33 = .ok (.putfield 22, 3) := by decide +kernel
theorem dX2_init_36 : decode cX2_init 36 = .ok (.aload_n 0, 1) := by decide +kernel
theorem dX2_init_37 : decode cX2_init 37 = .ok (.bipush 6, 2) := by decide +kernel
theorem dX2_init_39 : decode cX2_init 39 = .ok (.newarray .int, 2) := by decide +kernel
theorem dX2_init_41 : decode cX2_init 41 = .ok (.putfield 25, 3) := by decide +kernel
theorem dX2_init_44 : decode cX2_init 44 = .ok (.aload_n 0, 1) := by decide +kernel
theorem dX2_init_45 : decode cX2_init 45 = .ok (.bipush 6, 2) := by decide +kernel
theorem dX2_init_47 : decode cX2_init 47 = .ok (.newarray .int, 2) := by decide +kernel
theorem dX2_init_49 : decode cX2_init 49 = .ok (.putfield 28, 3) := by decide +kernel
theorem dX2_init_52 : decode cX2_init 52 = .ok (.iconst 0, 1) := by decide +kernel
theorem dX2_init_53 : decode cX2_init 53 = .ok (.istore_n 1, 1) := by decide +kernel
theorem dX2_init_54 : decode cX2_init 54 = .ok (.iload_n 1, 1) := by decide +kernel
theorem dX2_init_55 : decode cX2_init 55 = .ok (.bipush 6, 2) := by decide +kernel
theorem dX2_init_57 : decode cX2_init 57 = .ok (.if_icmp .ge 31, 3) := by decide +kernel
theorem dX2_init_60 : decode cX2_init 60 = .ok (.aload_n 0, 1) := by decide +kernel
theorem dX2_init_61 : decode cX2_init 61 = .ok (.getfield 15, 3) := by decide +kernel
theorem dX2_init_64 : decode cX2_init 64 = .ok (.iload_n 1, 1) := by decide +kernel
theorem dX2_init_65 : decode cX2_init 65 = .ok (.iload_n 1, 1) := by decide +kernel
theorem dX2_init_66 : decode cX2_init 66 = .ok (.ifCond .ne 7, 3) := by decide +kernel
theorem dX2_init_69 : decode cX2_init 69 = .ok (.lconst 1, 1) := by decide +kernel
theorem dX2_init_70 : decode cX2_init 70 = .ok (.goto 4, 3) := by decide +kernel
theorem dX2_init_73 : decode cX2_init 73 = .ok (.lconst 0, 1) := by decide +kernel
theorem dX2_init_74 : decode cX2_init 74 = .ok (.lastore, 1) := by decide +kernel
theorem dX2_init_75 : decode cX2_init 75 = .ok (.aload_n 0, 1) := by decide +kernel
theorem dX2_init_76 : decode cX2_init 76 = .ok (.getfield 19, 3) := by decide +kernel
theorem dX2_init_79 : decode cX2_init 79 = .ok (.iload_n 1, 1) := by decide +kernel
theorem dX2_init_80 : decode cX2_init 80 = .ok (.lconst 1, 1) := by decide +kernel
theorem dX2_init_81 : decode cX2_init 81 = .ok (.lastore, 1) := by decide +kernel
theorem dX2_init_82 : decode cX2_init 82 = .ok (.iinc 1 1, 3) := by decide +kernel
theorem dX2_init_85 : decode cX2_init 85 = .ok (.goto (-31), 3) := by decide +kernel
theorem dX2_init_88 : decode cX2_init 88 = .ok (.return_, 1) := by decide +kernel
set_option maxRecDepth 20000 in
theorem ggX2_percentOf_X3_pair : GoodIn wsX2_percentOf wsX3_pair := goodIn_r _ [4] (by decide +kernel) (by decide +kernel)
set_option maxRecDepth 20000 in
theorem gX2_percentOf_X3_pair_n31 : GoodIn wsX2_percentOf (wsX3_pair) := ggX2_percentOf_X3_pair
theorem dX2_percentOf_0 : decode cX2_percentOf 0 = .ok (.aload_n 0, 1) := by decide +kernel
theorem dX2_percentOf_1 : decode cX2_percentOf 1 = .ok (.getfield 9, 3) := by decide +kernel
theorem dX2_percentOf_4 : decode cX2_percentOf 4 = .ok (.iload_n 1, 1) := by decide +kernel
theorem dX2_percentOf_5 : decode cX2_percentOf 5 = .ok (.iload_n 2, 1) := by decide +kernel
theorem dX2_percentOf_6 : decode cX2_percentOf 6 = .ok (.invokestatic 31, 3) := by decide +kernel
theorem dX2_percentOf_9 : decode cX2_percentOf 9 = .ok (.iaload, 1) := by decide +kernel
theorem dX2_percentOf_10 : decode cX2_percentOf 10 = .ok (.ireturn, 1) := by decide +kernel
theorem dX2_numeratorOf_0 : decode cX2_numeratorOf 0 = .ok (.aload_n 0, 1) := by decide +kernel
theorem dX2_numeratorOf_1 : decode cX2_numeratorOf 1 = .ok (.getfield 15, 3) := by decide +kernel
theorem dX2_numeratorOf_4 : decode cX2_numeratorOf 4 = .ok (.iload_n 1, 1) := by decide +kernel
theorem dX2_numeratorOf_5 : decode cX2_numeratorOf 5 = .ok (.laload, 1) := by decide +kernel
theorem dX2_numeratorOf_6 : decode cX2_numeratorOf 6 = .ok (.lreturn, 1) := by decide +kernel
theorem dX2_denominatorOf_0 : decode cX2_denominatorOf 0 = .ok (.aload_n 0, 1) := by decide +kernel
theorem dX2_denominatorOf_1 : decode cX2_denominatorOf 1 = .ok (.getfield 19, 3) := by decide +kernel
theorem dX2_denominatorOf_4 : decode cX2_denominatorOf 4 = .ok (.iload_n 1, 1) := by decide +kernel
theorem dX2_denominatorOf_5 : decode cX2_denominatorOf 5 = .ok (.laload, 1) := by decide +kernel
theorem dX2_denominatorOf_6 : decode cX2_denominatorOf 6 = .ok (.lreturn, 1) := by decide +kernel
set_option maxRecDepth 20000 in
theorem ggX2_partOfParent_X2_scale : GoodIn wsX2_partOfParent wsX2_scale := goodIn_r _ [6, 7, 8, 9, 10] (by decide +kernel) (by decide +kernel)
set_option maxRecDepth 20000 in
theorem gX2_partOfParent_X2_scale : GoodIn wsX2_partOfParent (va_wsS RX2 35 yX2_scale wsX2_scale) := goodIn_app (goodIn_of _ (by decide +kernel)) ggX2_partOfParent_X2_scale
theorem dX2_partOfParent_0 : decode cX2_partOfParent 0 = .ok (.iload_n 2, 1) := by decide +kernel
theorem dX2_partOfParent_1 : decode cX2_partOfParent 1 = .ok (.aload_n 0, 1) := by decide +kernel
theorem dX2_partOfParent_2 : decode cX2_partOfParent 2 = .ok (.getfield 15, 3) := by decide +kernel
theorem dX2_partOfParent_5 : decode cX2_partOfParent 5 = .ok (.iload_n 1, 1) := by decide +kernel
theorem dX2_partOfParent_6 : decode cX2_partOfParent 6 = .ok (.laload, 1) := by decide +kernel
theorem dX2_partOfParent_7 : decode cX2_partOfParent 7 = .ok (.aload_n 0, 1) := by decide +kernel
theorem dX2_partOfParent_8 : decode cX2_partOfParent 8 = .ok (.getfield 19, 3) := by decide +kernel
theorem dX2_partOfParent_11 : decode cX2_partOfParent 11 = .ok (.iload_n 1, 1) := by decide +kernel
theorem dX2_partOfParent_12 : decode cX2_partOfParent 12 = .ok (.laload, 1) := by decide +kernel
theorem dX2_partOfParent_13 : decode cX2_partOfParent 13 = .ok (.invokestatic 35, 3) := by decide +kernel
theorem dX2_partOfParent_16 : decode cX2_partOfParent 16 = .ok (.ireturn, 1) := by decide +kernel
set_option maxRecDepth 20000 in
theorem ggX2_partOfOthers_X2_scale : GoodIn wsX2_partOfOthers wsX2_scale := goodIn_r _ [6, 7, 8, 9, 10] (by decide +kernel) (by decide +kernel)
set_option maxRecDepth 20000 in
theorem gX2_partOfOthers_X2_scale : GoodIn wsX2_partOfOthers (va_wsS RX2 35 yX2_scale wsX2_scale) := goodIn_app (goodIn_of _ (by decide +kernel)) ggX2_partOfOthers_X2_scale
theorem dX2_partOfOthers_0 : decode cX2_partOfOthers 0 = .ok (.aload_n 0, 1) := by decide +kernel
theorem dX2_partOfOthers_1 : decode cX2_partOfOthers 1 = .ok (.getfield 19, 3) := by decide +kernel
theorem dX2_partOfOthers_4 : decode cX2_partOfOthers 4 = .ok (.iload_n 1, 1) := by decide +kernel
theorem dX2_partOfOthers_5 : decode cX2_partOfOthers 5 = .ok (.laload, 1) := by decide +kernel
theorem dX2_partOfOthers_6 : decode cX2_partOfOthers 6 = .ok (.aload_n 0, 1) := by decide +kernel
theorem dX2_partOfOthers_7 : decode cX2_partOfOthers 7 = .ok (.getfield 15, 3) := by decide +kernel
theorem dX2_partOfOthers_10 : decode cX2_partOfOthers 10 = .ok (.iload_n 1, 1) := by decide +kernel
theorem dX2_partOfOthers_11 : decode cX2_partOfOthers 11 = .ok (.laload, 1) := by decide +kernel
theorem dX2_partOfOthers_12 : decode cX2_partOfOthers 12 = .ok (.lsub, 1) := by decide +kernel
theorem dX2_partOfOthers_13 : decode cX2_partOfOthers 13 = .ok (.lstore_n 3, 1) := by decide +kernel
theorem dX2_partOfOthers_14 : decode cX2_partOfOthers 14 = .ok (.iload_n 2, 1) := by decide +kernel
theorem dX2_partOfOthers_15 : decode cX2_partOfOthers 15 = .ok (.lload_n 3, 1) := by decide +kernel
theorem dX2_partOfOthers_16 : decode cX2_partOfOthers 16 = .ok (.aload_n 0, 1) := by decide +kernel
theorem dX2_partOfOthers_17 : decode cX2_partOfOthers 17 = .ok (.getfield 19, 3) := by decide +kernel
theorem dX2_partOfOthers_20 : decode cX2_partOfOthers 20 = .ok (.iload_n 1, 1) := by decide +kernel
theorem dX2_partOfOthers_21 : decode cX2_partOfOthers 21 = .ok (.laload, 1) := by decide +kernel
theorem dX2_partOfOthers_22 : decode cX2_partOfOthers 22 = .ok (.invokestatic 35, 3) := by decide +kernel
theorem dX2_partOfOthers_25 : decode cX2_partOfOthers 25 = .ok (.ireturn, 1) := by decide +kernel
set_option maxRecDepth 20000 in
theorem ggX2_scale_J9_floorDiv_f86c9 : GoodIn wsX2_scale wsJ9_floorDiv_f86c9 := goodIn_r _ [4] (by decide +kernel) (by decide +kernel)
set_option maxRecDepth 20000 in
theorem gX2_scale_J9_floorDiv_f86c9 : GoodIn wsX2_scale (va_wsS RX2 39 yJ9_floorDiv_f86c9 wsJ9_floorDiv_f86c9) := goodIn_app (goodIn_of _ (by decide +kernel)) ggX2_scale_J9_floorDiv_f86c9
theorem dX2_scale_0 : decode cX2_scale 0 = .ok (.lload_n 3, 1) := by decide +kernel
theorem dX2_scale_1 : decode cX2_scale 1 = .ok (.lconst 0, 1) := by decide +kernel
theorem dX2_scale_2 : decode cX2_scale 2 = .ok (.lcmp, 1) := by decide +kernel
theorem dX2_scale_3 : decode cX2_scale 3 = .ok (.ifCond .le 15, 3) := by decide +kernel
theorem dX2_scale_6 : decode cX2_scale 6 = .ok (.iload_n 0, 1) := by decide +kernel
theorem dX2_scale_7 : decode cX2_scale 7 = .ok (.i2l, 1) := by decide +kernel
theorem dX2_scale_8 : decode cX2_scale 8 = .ok (.lload_n 1, 1) := by decide +kernel
theorem dX2_scale_9 : decode cX2_scale 9 = .ok (.lmul, 1) := by decide +kernel
theorem dX2_scale_10 : decode cX2_scale 10 = .ok (.lload_n 3, 1) := by decide +kernel
theorem dX2_scale_11 : decode cX2_scale 11 = .ok (.invokestatic 39, 3) := by decide +kernel
theorem dX2_scale_14 : decode cX2_scale 14 = .ok (.l2i, 1) := by decide +kernel
theorem dX2_scale_15 : decode cX2_scale 15 = .ok (.goto 4, 3) := by decide +kernel
theorem dX2_scale_18 : decode cX2_scale 18 = .ok (.iconst 0, 1) := by decide +kernel
theorem dX2_scale_19 : decode cX2_scale 19 = .ok (.ireturn, 1) := by decide +kernel
set_option maxRecDepth 20000 in
theorem ggX2_take_X3_pair : GoodIn wsX2_take wsX3_pair := goodIn_r _ [4] (by decide +kernel) (by decide +kernel)
set_option maxRecDepth 20000 in
theorem gX2_take_X3_pair_n31 : GoodIn wsX2_take (wsX3_pair) := ggX2_take_X3_pair
set_option maxRecDepth 20000 in
theorem ggX2_take_X2_heldByAll : GoodIn wsX2_take wsX2_heldByAll := goodIn_r _ [9, 1, 2, 3, 4, 37, 38, 39, 40, 41, 42] (by decide +kernel) (by decide +kernel)
set_option maxRecDepth 20000 in
theorem gX2_take_X2_heldByAll : GoodIn wsX2_take (wsV RX2 45 RX2 yX2_heldByAll wsX2_heldByAll) := goodIn_app (goodIn_of _ (by decide +kernel)) ggX2_take_X2_heldByAll
set_option maxRecDepth 20000 in
theorem ggX2_take_X2_determineShares : GoodIn wsX2_take wsX2_determineShares := goodIn_r _ [13, 14, 15, 16, 17, 8, 18, 1, 19, 2, 3, 4, 20, 21, 22, 23, 24, 25, 26, 27, 28, 29, 30, 31, 32, 33, 34, 35, 36, 37, 38, 39, 40, 41, 42] (by decide +kernel) (by decide +kernel)
set_option maxRecDepth 20000 in
theorem gX2_take_X2_determineShares : GoodIn wsX2_take (wsV RX2 49 RX2 yX2_determineShares wsX2_determineShares) := goodIn_app (goodIn_of _ (by decide +kernel)) ggX2_take_X2_determineShares
theorem dX2_take_0 : decode cX2_take 0 = .ok (.iload_n 1, 1) := by decide +kernel
theorem dX2_take_1 : decode cX2_take 1 = .ok (.iload_n 2, 1) := by decide +kernel
theorem dX2_take_2 : decode cX2_take 2 = .ok (.invokestatic 31, 3) := by decide +kernel
theorem dX2_take_5 : decode cX2_take 5 = .ok (.istore 4, 2) := by decide +kernel
theorem dX2_take_7 : decode cX2_take 7 = .ok (.aload_n 0, 1) := by decide +kernel
theorem dX2_take_8 : decode cX2_take 8 = .ok (.getfield 9, 3) := by decide +kernel
theorem dX2_take_11 : decode cX2_take 11 = .ok (.iload 4, 2) := by decide +kernel
theorem dX2_take_13 : decode cX2_take 13 = .ok (.iaload, 1) := by decide +kernel
theorem dX2_take_14 : decode cX2_take 14 = .ok (.istore 5, 2) := by decide +kernel
theorem dX2_take_16 : decode cX2_take 16 = .ok (.aload_n 0, 1) := by decide +kernel
theorem dX2_take_17 : decode cX2_take 17 = .ok (.iload_n 2, 1) := by decide +kernel
theorem dX2_take_18 : decode cX2_take 18 = .ok (.invokevirtual 45, 3) := by decide +kernel
theorem dX2_take_21 : decode cX2_take 21 = .ok (.iload 5, 2) := by decide +kernel
theorem dX2_take_23 : decode cX2_take 23 = .ok (.isub, 1) := by decide +kernel
theorem dX2_take_24 : decode cX2_take 24 = .ok (.iload_n 3, 1) := by decide +kernel
theorem dX2_take_25 : decode cX2_take 25 = .ok (.iadd, 1) := by decide +kernel
theorem dX2_take_26 : decode cX2_take 26 = .ok (.bipush 100, 2) := by decide +kernel
theorem dX2_take_28 : decode cX2_take 28 = .ok (.if_icmp .le 5, 3) := by decide +kernel
theorem dX2_take_31 : decode cX2_take 31 = .ok (.iconst 0, 1) := by decide +kernel
theorem dX2_take_32 : decode cX2_take 32 = .ok (.ireturn, 1) := by decide +kernel
theorem dX2_take_33 : decode cX2_take 33 = .ok (.aload_n 0, 1) := by decide +kernel
theorem dX2_take_34 : decode cX2_take 34 = .ok (.getfield 9, 3) := by decide +kernel
theorem dX2_take_37 : decode cX2_take 37 = .ok (.iload 4, 2) := by decide +kernel
theorem dX2_take_39 : decode cX2_take 39 = .ok (.iload_n 3, 1) := by decide +kernel
theorem dX2_take_40 : decode cX2_take 40 = .ok (.iastore, 1) := by decide +kernel
theorem dX2_take_41 : decode cX2_take 41 = .ok (.aload_n 0, 1) := by decide +kernel
theorem dX2_take_42 : decode cX2_take 42 = .ok (.invokevirtual 49, 3) := by decide +kernel
theorem dX2_take_45 : decode cX2_take 45 = .ok (.istore 6, 2) := by decide +kernel
theorem dX2_take_47 : decode cX2_take 47 = .ok (.iload 6, 2) := by decide +kernel
theorem dX2_take_49 : decode cX2_take 49 = .ok (.ifCond .ne 12, 3) := by decide +kernel
theorem dX2_take_52 : decode cX2_take 52 = .ok (.aload_n 0, 1) := by decide +kernel
theorem dX2_take_53 : decode cX2_take 53 = .ok (.getfield 9, 3) := by decide +kernel
theorem dX2_take_56 : decode cX2_take 56 = .ok (.iload 4, 2) := by decide +kernel
theorem dX2_take_58 : decode cX2_take 58 = .ok (.iload 5, 2) := by decide +kernel
theorem dX2_take_60 : decode cX2_take 60 = .ok (.iastore, 1) := by decide +kernel
theorem dX2_take_61 : decode cX2_take 61 = .ok (.iload 6, 2) := by decide +kernel
theorem dX2_take_63 : decode cX2_take 63 = .ok (.ireturn, 1) := by decide +kernel
set_option maxRecDepth 20000 in
theorem ggX2_heldByAll_X3_pair : GoodIn wsX2_heldByAll wsX3_pair := goodIn_r _ [4] (by decide +kernel) (by decide +kernel)
set_option maxRecDepth 20000 in
theorem gX2_heldByAll_X3_pair_n31 : GoodIn wsX2_heldByAll (wsX3_pair) := ggX2_heldByAll_X3_pair
theorem dX2_heldByAll_0 : decode cX2_heldByAll 0 = .ok (.iconst 0, 1) := by decide +kernel
theorem dX2_heldByAll_1 : decode cX2_heldByAll 1 = .ok (.istore_n 2, 1) := by decide +kernel
theorem dX2_heldByAll_2 : decode cX2_heldByAll 2 = .ok (.iconst 0, 1) := by decide +kernel
theorem dX2_heldByAll_3 : decode cX2_heldByAll 3 = .ok (.istore_n 3, 1) := by decide +kernel
theorem dX2_heldByAll_4 : decode cX2_heldByAll 4 = .ok (.iload_n 3, 1) := by decide +kernel
theorem dX2_heldByAll_5 : decode cX2_heldByAll 5 = .ok (.bipush 6, 2) := by decide +kernel
theorem dX2_heldByAll_7 : decode cX2_heldByAll 7 = .ok (.if_icmp .ge 22, 3) := by decide +kernel
theorem dX2_heldByAll_10 : decode cX2_heldByAll 10 = .ok (.iload_n 2, 1) := by decide +kernel
theorem dX2_heldByAll_11 : decode cX2_heldByAll 11 = .ok (.aload_n 0, 1) := by decide +kernel
theorem dX2_heldByAll_12 : decode cX2_heldByAll 12 = .ok (.getfield 9, 3) := by decide +kernel
theorem dX2_heldByAll_15 : decode cX2_heldByAll 15 = .ok (.iload_n 3, 1) := by decide +kernel
theorem dX2_heldByAll_16 : decode cX2_heldByAll 16 = .ok (.iload_n 1, 1) := by decide +kernel
theorem dX2_heldByAll_17 : decode cX2_heldByAll 17 = .ok (.invokestatic 31, 3) := by decide +kernel
theorem dX2_heldByAll_20 : decode cX2_heldByAll 20 = .ok (.iaload, 1) := by decide +kernel
theorem dX2_heldByAll_21 : decode cX2_heldByAll 21 = .ok (.iadd, 1) := by decide +kernel
theorem dX2_heldByAll_22 : decode cX2_heldByAll 22 = .ok (.istore_n 2, 1) := by decide +kernel
theorem dX2_heldByAll_23 : decode cX2_heldByAll 23 = .ok (.iinc 3 1, 3) := by decide +kernel
theorem dX2_heldByAll_26 : decode cX2_heldByAll 26 = .ok (.goto (-22), 3) := by decide +kernel
theorem dX2_heldByAll_29 : decode cX2_heldByAll 29 = .ok (.iload_n 2, 1) := by decide +kernel
theorem dX2_heldByAll_30 : decode cX2_heldByAll 30 = .ok (.ireturn, 1) := by decide +kernel
set_option maxRecDepth 20000 in
theorem ggX2_determineShares_X2_writeEquations : GoodIn wsX2_determineShares wsX2_writeEquations := goodIn_r _ [6, 1, 7, 8, 9, 10, 11, 29, 30, 31, 32, 33, 34] (by decide +kernel) (by decide +kernel)
set_option maxRecDepth 20000 in
theorem gX2_determineShares_X2_writeEquations : GoodIn wsX2_determineShares (wsV RX2 53 RX2 yX2_writeEquations wsX2_writeEquations) := goodIn_app (goodIn_of _ (by decide +kernel)) ggX2_determineShares_X2_writeEquations
set_option maxRecDepth 20000 in
theorem ggX2_determineShares_X3_pair : GoodIn wsX2_determineShares wsX3_pair := goodIn_r _ [11] (by decide +kernel) (by decide +kernel)
set_option maxRecDepth 20000 in
theorem gX2_determineShares_X3_pair_n31 : GoodIn wsX2_determineShares (wsX3_pair) := ggX2_determineShares_X3_pair
set_option maxRecDepth 20000 in
theorem ggX2_determineShares_X2_clearColumn : GoodIn wsX2_determineShares wsX2_clearColumn := goodIn_r _ [15, 16, 17, 18, 5, 19, 1, 9, 10, 11, 29, 30, 31, 32, 33, 34] (by decide +kernel) (by decide +kernel)
set_option maxRecDepth 20000 in
theorem gX2_determineShares_X2_clearColumn : GoodIn wsX2_determineShares (wsV RX2 56 RX2 yX2_clearColumn wsX2_clearColumn) := goodIn_app (goodIn_of _ (by decide +kernel)) ggX2_determineShares_X2_clearColumn
set_option maxRecDepth 20000 in
theorem ggX2_determineShares_X2_keepShares : GoodIn wsX2_determineShares wsX2_keepShares := goodIn_r _ [23, 1, 24, 25, 9, 10, 11, 26, 27, 5, 28, 29, 30, 31, 32, 33, 34] (by decide +kernel) (by decide +kernel)
set_option maxRecDepth 20000 in
theorem gX2_determineShares_X2_keepShares : GoodIn wsX2_determineShares (wsV RX2 60 RX2 yX2_keepShares wsX2_keepShares) := goodIn_app (goodIn_of _ (by decide +kernel)) ggX2_determineShares_X2_keepShares
theorem dX2_determineShares_0 : decode cX2_determineShares 0 = .ok (.aload_n 0, 1) := by decide +kernel
theorem dX2_determineShares_1 : decode cX2_determineShares 1 = .ok (.invokevirtual 53, 3) := by decide +kernel
theorem dX2_determineShares_4 : decode cX2_determineShares 4 = .ok (.lconst 1, 1) := by decide +kernel
theorem dX2_determineShares_5 : decode cX2_determineShares 5 = .ok (.lstore_n 1, 1) := by decide +kernel
theorem dX2_determineShares_6 : decode cX2_determineShares 6 = .ok (.iconst 1, 1) := by decide +kernel
theorem dX2_determineShares_7 : decode cX2_determineShares 7 = .ok (.istore_n 3, 1) := by decide +kernel
theorem dX2_determineShares_8 : decode cX2_determineShares 8 = .ok (.iload_n 3, 1) := by decide +kernel
theorem dX2_determineShares_9 : decode cX2_determineShares 9 = .ok (.bipush 6, 2) := by decide +kernel
theorem dX2_determineShares_11 : decode cX2_determineShares 11 = .ok (.if_icmp .ge 41, 3) := by decide +kernel
theorem dX2_determineShares_14 : decode cX2_determineShares 14 = .ok (.aload_n 0, 1) := by decide +kernel
theorem dX2_determineShares_15 : decode cX2_determineShares 15 = .ok (.getfield 22, 3) := by decide +kernel
theorem dX2_determineShares_18 : decode cX2_determineShares 18 = .ok (.iload_n 3, 1) := by decide +kernel
theorem dX2_determineShares_19 : decode cX2_determineShares 19 = .ok (.iload_n 3, 1) := by decide +kernel
theorem dX2_determineShares_20 : decode cX2_determineShares 20 = .ok (.invokestatic 31, 3) := by decide +kernel
theorem dX2_determineShares_23 : decode cX2_determineShares 23 = .ok (.laload, 1) := by decide +kernel
theorem dX2_determineShares_24 : decode cX2_determineShares 24 = .ok (.lstore 4, 2) := by decide +kernel
theorem dX2_determineShares_26 : decode cX2_determineShares 26 = .ok (.lload 4, 2) := by decide +kernel
theorem dX2_determineShares_28 : decode cX2_determineShares 28 = .ok (.lconst 0, 1) := by decide +kernel
theorem dX2_determineShares_29 : decode cX2_determineShares 29 = .ok (.lcmp, 1) := by decide +kernel
theorem dX2_determineShares_30 : decode cX2_determineShares 30 = .ok (.ifCond .gt 5, 3) := by decide +kernel
theorem dX2_determineShares_33 : decode cX2_determineShares 33 = .ok (.iconst 0, 1) := by decide +kernel
theorem dX2_determineShares_34 : decode cX2_determineShares 34 = .ok (.ireturn, 1) := by decide +kernel
theorem dX2_determineShares_35 : decode cX2_determineShares 35 = .ok (.aload_n 0, 1) := by decide +kernel
theorem dX2_determineShares_36 : decode cX2_determineShares 36 = .ok (.iload_n 3, 1) := by decide +kernel
theorem dX2_determineShares_37 : decode cX2_determineShares 37 = .ok (.lload 4, 2) := by decide +kernel
theorem dX2_determineShares_39 : decode cX2_determineShares 39 = .ok (.lload_n 1, 1) := by decide +kernel
theorem dX2_determineShares_40 : decode cX2_determineShares 40 = .ok (.invokevirtual 56, 3) := by decide +kernel
theorem dX2_determineShares_43 : decode cX2_determineShares 43 = .ok (.lload 4, 2) := by decide +kernel
theorem dX2_determineShares_45 : decode cX2_determineShares 45 = .ok (.lstore_n 1, 1) := by decide +kernel
theorem dX2_determineShares_46 : decode cX2_determineShares 46 = .ok (.iinc 3 1, 3) := by decide +kernel
theorem dX2_determineShares_49 : decode cX2_determineShares 49 = .ok (.goto (-41), 3) := by decide +kernel
theorem dX2_determineShares_52 : decode cX2_determineShares 52 = .ok (.aload_n 0, 1) := by decide +kernel
theorem dX2_determineShares_53 : decode cX2_determineShares 53 = .ok (.lload_n 1, 1) := by decide +kernel
theorem dX2_determineShares_54 : decode cX2_determineShares 54 = .ok (.invokevirtual 60, 3) := by decide +kernel
theorem dX2_determineShares_57 : decode cX2_determineShares 57 = .ok (.iconst 1, 1) := by decide +kernel
theorem dX2_determineShares_58 : decode cX2_determineShares 58 = .ok (.ireturn, 1) := by decide +kernel
set_option maxRecDepth 20000 in
theorem ggX2_writeEquations_X3_pair : GoodIn wsX2_writeEquations wsX3_pair := goodIn_r _ [6] (by decide +kernel) (by decide +kernel)
set_option maxRecDepth 20000 in
theorem gX2_writeEquations_X3_pair_n31 : GoodIn wsX2_writeEquations (wsX3_pair) := ggX2_writeEquations_X3_pair
theorem dX2_writeEquations_0 : decode cX2_writeEquations 0 = .ok (.iconst 1, 1) := by decide +kernel
theorem dX2_writeEquations_1 : decode cX2_writeEquations 1 = .ok (.istore_n 1, 1) := by decide +kernel
theorem dX2_writeEquations_2 : decode cX2_writeEquations 2 = .ok (.iload_n 1, 1) := by decide +kernel
theorem dX2_writeEquations_3 : decode cX2_writeEquations 3 = .ok (.bipush 6, 2) := by decide +kernel
theorem dX2_writeEquations_5 : decode cX2_writeEquations 5 = .ok (.if_icmp .ge 77, 3) := by decide +kernel
theorem dX2_writeEquations_8 : decode cX2_writeEquations 8 = .ok (.aload_n 0, 1) := by decide +kernel
theorem dX2_writeEquations_9 : decode cX2_writeEquations 9 = .ok (.getfield 22, 3) := by decide +kernel
theorem dX2_writeEquations_12 : decode cX2_writeEquations 12 = .ok (.iload_n 1, 1) := by decide +kernel
theorem dX2_writeEquations_13 : decode cX2_writeEquations 13 = .ok (.iconst 0, 1) := by decide +kernel
theorem dX2_writeEquations_14 : decode cX2_writeEquations 14 = .ok (.invokestatic 31, 3) := by decide +kernel
theorem dX2_writeEquations_17 : decode cX2_writeEquations 17 = .ok (.aload_n 0, 1) := by decide +kernel
theorem dX2_writeEquations_18 : decode cX2_writeEquations 18 = .ok (.getfield 9, 3) := by decide +kernel
theorem dX2_writeEquations_21 : decode cX2_writeEquations 21 = .ok (.iconst 0, 1) := by decide +kernel
theorem dX2_writeEquations_22 : decode cX2_writeEquations 22 = .ok (.iload_n 1, 1) := by decide +kernel
theorem dX2_writeEquations_23 : decode cX2_writeEquations 23 = .ok (.invokestatic 31, 3) := by decide +kernel
theorem dX2_writeEquations_26 : decode cX2_writeEquations 26 = .ok (.iaload, 1) := by decide +kernel
theorem dX2_writeEquations_27 : decode cX2_writeEquations 27 = .ok (.i2l, 1) := by decide +kernel
theorem dX2_writeEquations_28 : decode cX2_writeEquations 28 = .ok (.lastore, 1) := by decide +kernel
theorem dX2_writeEquations_29 : decode cX2_writeEquations 29 = .ok (.iconst 1, 1) := by decide +kernel
theorem dX2_writeEquations_30 : decode cX2_writeEquations 30 = .ok (.istore_n 2, 1) := by decide +kernel
theorem dX2_writeEquations_31 : decode cX2_writeEquations 31 = .ok (.iload_n 2, 1) := by decide +kernel
theorem dX2_writeEquations_32 : decode cX2_writeEquations 32 = .ok (.bipush 6, 2) := by decide +kernel
theorem dX2_writeEquations_34 : decode cX2_writeEquations 34 = .ok (.if_icmp .ge 42, 3) := by decide +kernel
theorem dX2_writeEquations_37 : decode cX2_writeEquations 37 = .ok (.aload_n 0, 1) := by decide +kernel
theorem dX2_writeEquations_38 : decode cX2_writeEquations 38 = .ok (.getfield 22, 3) := by decide +kernel
theorem dX2_writeEquations_41 : decode cX2_writeEquations 41 = .ok (.iload_n 1, 1) := by decide +kernel
theorem dX2_writeEquations_42 : decode cX2_writeEquations 42 = .ok (.iload_n 2, 1) := by decide +kernel
theorem dX2_writeEquations_43 : decode cX2_writeEquations 43 = .ok (.invokestatic 31, 3) := by decide +kernel
theorem dX2_writeEquations_46 : decode cX2_writeEquations 46 = .ok (.iload_n 2, 1) := by decide +kernel
theorem dX2_writeEquations_47 : decode cX2_writeEquations 47 = .ok (.iload_n 1, 1) := by decide +kernel
theorem dX2_writeEquations_48 : decode cX2_writeEquations 48 = .ok (.if_icmp .ne 9, 3) := by decide +kernel
theorem dX2_writeEquations_51 : decode cX2_writeEquations 51 = .ok (.ldc2_w 64, 3) := by decide +kernel
theorem dX2_writeEquations_54 : decode cX2_writeEquations 54 = .ok (.goto 15, 3) := by decide +kernel
theorem dX2_writeEquations_57 : decode cX2_writeEquations 57 = .ok (.aload_n 0, 1) := by decide +kernel
theorem dX2_writeEquations_58 : decode cX2_writeEquations 58 = .ok (.getfield 9, 3) := by decide +kernel
theorem dX2_writeEquations_61 : decode cX2_writeEquations 61 = .ok (.iload_n 2, 1) := by decide +kernel
theorem dX2_writeEquations_62 : decode cX2_writeEquations 62 = .ok (.iload_n 1, 1) := by decide +kernel
theorem dX2_writeEquations_63 : decode cX2_writeEquations 63 = .ok (.invokestatic 31, 3) := by decide +kernel
theorem dX2_writeEquations_66 : decode cX2_writeEquations 66 = .ok (.iaload, 1) := by decide +kernel
theorem dX2_writeEquations_67 : decode cX2_writeEquations 67 = .ok (.ineg, 1) := by decide +kernel
theorem dX2_writeEquations_68 : decode cX2_writeEquations 68 = .ok (.i2l, 1) := by decide +kernel
theorem dX2_writeEquations_69 : decode cX2_writeEquations 69 = .ok (.lastore, 1) := by decide +kernel
theorem dX2_writeEquations_70 : decode cX2_writeEquations 70 = .ok (.iinc 2 1, 3) := by decide +kernel
theorem dX2_writeEquations_73 : decode cX2_writeEquations 73 = .ok (.goto (-42), 3) := by decide +kernel
theorem dX2_writeEquations_76 : decode cX2_writeEquations 76 = .ok (.iinc 1 1, 3) := by decide +kernel
theorem dX2_writeEquations_79 : decode cX2_writeEquations 79 = .ok (.goto (-77), 3) := by decide +kernel
theorem dX2_writeEquations_82 : decode cX2_writeEquations 82 = .ok (.return_, 1) := by decide +kernel
set_option maxRecDepth 20000 in
theorem ggX2_clearColumn_X2_clearEntry : GoodIn wsX2_clearColumn wsX2_clearEntry := goodIn_r _ [5, 6, 7, 8, 9, 10, 11, 12, 13, 14, 15] (by decide +kernel) (by decide +kernel)
set_option maxRecDepth 20000 in
theorem gX2_clearColumn_X2_clearEntry : GoodIn wsX2_clearColumn (wsV RX2 66 RX2 yX2_clearEntry wsX2_clearEntry) := goodIn_app (goodIn_of _ (by decide +kernel)) ggX2_clearColumn_X2_clearEntry
theorem dX2_clearColumn_0 : decode cX2_clearColumn 0 = .ok (.iconst 1, 1) := by decide +kernel
theorem dX2_clearColumn_1 : decode cX2_clearColumn 1 = .ok (.istore 6, 2) := by decide +kernel
theorem dX2_clearColumn_3 : decode cX2_clearColumn 3 = .ok (.iload 6, 2) := by decide +kernel
theorem dX2_clearColumn_5 : decode cX2_clearColumn 5 = .ok (.bipush 6, 2) := by decide +kernel
theorem dX2_clearColumn_7 : decode cX2_clearColumn 7 = .ok (.if_icmp .ge 25, 3) := by decide +kernel
theorem dX2_clearColumn_10 : decode cX2_clearColumn 10 = .ok (.iload 6, 2) := by decide +kernel
theorem dX2_clearColumn_12 : decode cX2_clearColumn 12 = .ok (.iload_n 1, 1) := by decide +kernel
theorem dX2_clearColumn_13 : decode cX2_clearColumn 13 = .ok (.if_icmp .eq 13, 3) := by decide +kernel
theorem dX2_clearColumn_16 : decode cX2_clearColumn 16 = .ok (.aload_n 0, 1) := by decide +kernel
theorem dX2_clearColumn_17 : decode cX2_clearColumn 17 = .ok (.iload 6, 2) := by decide +kernel
theorem dX2_clearColumn_19 : decode cX2_clearColumn 19 = .ok (.iload_n 1, 1) := by decide +kernel
theorem dX2_clearColumn_20 : decode cX2_clearColumn 20 = .ok (.lload_n 2, 1) := by decide +kernel
theorem dX2_clearColumn_21 : decode cX2_clearColumn 21 = .ok (.lload 4, 2) := by decide +kernel
theorem dX2_clearColumn_23 : decode cX2_clearColumn 23 = .ok (.invokevirtual 66, 3) := by decide +kernel
theorem dX2_clearColumn_26 : decode cX2_clearColumn 26 = .ok (.iinc 6 1, 3) := by decide +kernel
theorem dX2_clearColumn_29 : decode cX2_clearColumn 29 = .ok (.goto (-26), 3) := by decide +kernel
theorem dX2_clearColumn_32 : decode cX2_clearColumn 32 = .ok (.return_, 1) := by decide +kernel
set_option maxRecDepth 20000 in
theorem ggX2_clearEntry_X3_pair : GoodIn wsX2_clearEntry wsX3_pair := goodIn_r _ [4] (by decide +kernel) (by decide +kernel)
set_option maxRecDepth 20000 in
theorem gX2_clearEntry_X3_pair_n31 : GoodIn wsX2_clearEntry (wsX3_pair) := ggX2_clearEntry_X3_pair
theorem dX2_clearEntry_0 : decode cX2_clearEntry 0 = .ok (.aload_n 0, 1) := by decide +kernel
theorem dX2_clearEntry_1 : decode cX2_clearEntry 1 = .ok (.getfield 22, 3) := by decide +kernel
theorem dX2_clearEntry_4 : decode cX2_clearEntry 4 = .ok (.iload_n 1, 1) := by decide +kernel
theorem dX2_clearEntry_5 : decode cX2_clearEntry 5 = .ok (.iload_n 2, 1) := by decide +kernel
theorem dX2_clearEntry_6 : decode cX2_clearEntry 6 = .ok (.invokestatic 31, 3) := by decide +kernel
theorem dX2_clearEntry_9 : decode cX2_clearEntry 9 = .ok (.laload, 1) := by decide +kernel
theorem dX2_clearEntry_10 : decode cX2_clearEntry 10 = .ok (.lstore 7, 2) := by decide +kernel
theorem dX2_clearEntry_12 : decode cX2_clearEntry 12 = .ok (.lload 5, 2) := by decide +kernel
theorem dX2_clearEntry_14 : decode cX2_clearEntry 14 = .ok (.lconst 0, 1) := by decide +kernel
theorem dX2_clearEntry_15 : decode cX2_clearEntry 15 = .ok (.lcmp, 1) := by decide +kernel
theorem dX2_clearEntry_16 : decode cX2_clearEntry 16 = .ok (.ifCond .le 65, 3) := by decide +kernel
theorem dX2_clearEntry_19 : decode cX2_clearEntry 19 = .ok (.iconst 0, 1) := by decide +kernel
theorem dX2_clearEntry_20 : decode cX2_clearEntry 20 = .ok (.istore 9, 2) := by decide +kernel
theorem dX2_clearEntry_22 : decode cX2_clearEntry 22 = .ok (.iload 9, 2) := by decide +kernel
theorem dX2_clearEntry_24 : decode cX2_clearEntry 24 = .ok (.bipush 6, 2) := by decide +kernel
theorem dX2_clearEntry_26 : decode cX2_clearEntry 26 = .ok (.if_icmp .ge 55, 3) := by decide +kernel
theorem dX2_clearEntry_29 : decode cX2_clearEntry 29 = .ok (.lload 7, 2) := by decide +kernel
theorem dX2_clearEntry_31 : decode cX2_clearEntry 31 = .ok (.aload_n 0, 1) := by decide +kernel
theorem dX2_clearEntry_32 : decode cX2_clearEntry 32 = .ok (.getfield 22, 3) := by decide +kernel
theorem dX2_clearEntry_35 : decode cX2_clearEntry 35 = .ok (.iload_n 2, 1) := by decide +kernel
theorem dX2_clearEntry_36 : decode cX2_clearEntry 36 = .ok (.iload 9, 2) := by decide +kernel
theorem dX2_clearEntry_38 : decode cX2_clearEntry 38 = .ok (.invokestatic 31, 3) := by decide +kernel
theorem dX2_clearEntry_41 : decode cX2_clearEntry 41 = .ok (.laload, 1) := by decide +kernel
theorem dX2_clearEntry_42 : decode cX2_clearEntry 42 = .ok (.lmul, 1) := by decide +kernel
theorem dX2_clearEntry_43 : decode cX2_clearEntry 43 = .ok (.lstore 10, 2) := by decide +kernel
theorem dX2_clearEntry_45 : decode cX2_clearEntry 45 = .ok (.iload_n 1, 1) := by decide +kernel
theorem dX2_clearEntry_46 : decode cX2_clearEntry 46 = .ok (.iload 9, 2) := by decide +kernel
theorem dX2_clearEntry_48 : decode cX2_clearEntry 48 = .ok (.invokestatic 31, 3) := by decide +kernel
theorem dX2_clearEntry_51 : decode cX2_clearEntry 51 = .ok (.istore 12, 2) := by decide +kernel
theorem dX2_clearEntry_53 : decode cX2_clearEntry 53 = .ok (.aload_n 0, 1) := by decide +kernel
theorem dX2_clearEntry_54 : decode cX2_clearEntry 54 = .ok (.getfield 22, 3) := by decide +kernel
theorem dX2_clearEntry_57 : decode cX2_clearEntry 57 = .ok (.iload 12, 2) := by decide +kernel
theorem dX2_clearEntry_59 : decode cX2_clearEntry 59 = .ok (.aload_n 0, 1) := by decide +kernel
theorem dX2_clearEntry_60 : decode cX2_clearEntry 60 = .ok (.getfield 22, 3) := by decide +kernel
theorem dX2_clearEntry_63 : decode cX2_clearEntry 63 = .ok (.iload 12, 2) := by decide +kernel
theorem dX2_clearEntry_65 : decode cX2_clearEntry 65 = .ok (.laload, 1) := by decide +kernel
theorem dX2_clearEntry_66 : decode cX2_clearEntry 66 = .ok (.lload_n 3, 1) := by decide +kernel
theorem dX2_clearEntry_67 : decode cX2_clearEntry 67 = .ok (.lmul, 1) := by decide +kernel
theorem dX2_clearEntry_68 : decode cX2_clearEntry 68 = .ok (.lload 10, 2) := by decide +kernel
theorem dX2_clearEntry_70 : decode cX2_clearEntry 70 = .ok (.lsub, 1) := by decide +kernel
theorem dX2_clearEntry_71 : decode cX2_clearEntry 71 = .ok (.lload 5, 2) := by decide +kernel
theorem dX2_clearEntry_73 : decode cX2_clearEntry 73 = .ok (.ldiv, 1) := by decide +kernel
theorem dX2_clearEntry_74 : decode cX2_clearEntry 74 = .ok (.lastore, 1) := by decide +kernel
theorem dX2_clearEntry_75 : decode cX2_clearEntry 75 = .ok (.iinc 9 1, 3) := by decide +kernel
theorem dX2_clearEntry_78 : decode cX2_clearEntry 78 = .ok (.goto (-56), 3) := by decide +kernel
theorem dX2_clearEntry_81 : decode cX2_clearEntry 81 = .ok (.return_, 1) := by decide +kernel
set_option maxRecDepth 20000 in
theorem ggX2_keepShares_X3_pair : GoodIn wsX2_keepShares wsX3_pair := goodIn_r _ [6] (by decide +kernel) (by decide +kernel)
set_option maxRecDepth 20000 in
theorem gX2_keepShares_X3_pair_n31 : GoodIn wsX2_keepShares (wsX3_pair) := ggX2_keepShares_X3_pair
set_option maxRecDepth 20000 in
theorem ggX2_keepShares_X2_commonDivisor : GoodIn wsX2_keepShares wsX2_commonDivisor := goodIn_r _ [10] (by decide +kernel) (by decide +kernel)
set_option maxRecDepth 20000 in
theorem gX2_keepShares_X2_commonDivisor : GoodIn wsX2_keepShares (va_wsS RX2 70 yX2_commonDivisor wsX2_commonDivisor) := goodIn_app (goodIn_of _ (by decide +kernel)) ggX2_keepShares_X2_commonDivisor
theorem dX2_keepShares_0 : decode cX2_keepShares 0 = .ok (.iconst 1, 1) := by decide +kernel
theorem dX2_keepShares_1 : decode cX2_keepShares 1 = .ok (.istore_n 3, 1) := by decide +kernel
theorem dX2_keepShares_2 : decode cX2_keepShares 2 = .ok (.iload_n 3, 1) := by decide +kernel
theorem dX2_keepShares_3 : decode cX2_keepShares 3 = .ok (.bipush 6, 2) := by decide +kernel
theorem dX2_keepShares_5 : decode cX2_keepShares 5 = .ok (.if_icmp .ge 57, 3) := by decide +kernel
theorem dX2_keepShares_8 : decode cX2_keepShares 8 = .ok (.aload_n 0, 1) := by decide +kernel
theorem dX2_keepShares_9 : decode cX2_keepShares 9 = .ok (.getfield 22, 3) := by decide +kernel
theorem dX2_keepShares_12 : decode cX2_keepShares 12 = .ok (.iload_n 3, 1) := by decide +kernel
theorem dX2_keepShares_13 : decode cX2_keepShares 13 = .ok (.iconst 0, 1) := by decide +kernel
theorem dX2_keepShares_14 : decode cX2_keepShares 14 = .ok (.invokestatic 31, 3) := by decide +kernel
theorem dX2_keepShares_17 : decode cX2_keepShares 17 = .ok (.laload, 1) := by decide +kernel
theorem dX2_keepShares_18 : decode cX2_keepShares 18 = .ok (.lstore 4, 2) := by decide +kernel
theorem dX2_keepShares_20 : decode cX2_keepShares 20 = .ok (.lload_n 1, 1) := by decide +kernel
theorem dX2_keepShares_21 : decode cX2_keepShares 21 = .ok (.lload 4, 2) := by decide +kernel
theorem dX2_keepShares_23 : decode cX2_keepShares 23 = .ok (.invokestatic 70, 3) := by decide +kernel
theorem dX2_keepShares_26 : decode cX2_keepShares 26 = .ok (.lstore 6, 2) := by decide +kernel
theorem dX2_keepShares_28 : decode cX2_keepShares 28 = .ok (.lload 6, 2) := by decide +kernel
theorem dX2_keepShares_30 : decode cX2_keepShares 30 = .ok (.lconst 0, 1) := by decide +kernel
theorem dX2_keepShares_31 : decode cX2_keepShares 31 = .ok (.lcmp, 1) := by decide +kernel
theorem dX2_keepShares_32 : decode cX2_keepShares 32 = .ok (.ifCond .le 24, 3) := by decide +kernel
theorem dX2_keepShares_35 : decode cX2_keepShares 35 = .ok (.aload_n 0, 1) := by decide +kernel
theorem dX2_keepShares_36 : decode cX2_keepShares 36 = .ok (.getfield 15, 3) := by decide +kernel
theorem dX2_keepShares_39 : decode cX2_keepShares 39 = .ok (.iload_n 3, 1) := by decide +kernel
theorem dX2_keepShares_40 : decode cX2_keepShares 40 = .ok (.lload 4, 2) := by decide +kernel
theorem dX2_keepShares_42 : decode cX2_keepShares 42 = .ok (.lload 6, 2) := by decide +kernel
theorem dX2_keepShares_44 : decode cX2_keepShares 44 = .ok (.ldiv, 1) := by decide +kernel
theorem dX2_keepShares_45 : decode cX2_keepShares 45 = .ok (.lastore, 1) := by decide +kernel
theorem dX2_keepShares_46 : decode cX2_keepShares 46 = .ok (.aload_n 0, 1) := by decide +kernel
theorem dX2_keepShares_47 : decode cX2_keepShares 47 = .ok (.getfield 19, 3) := by decide +kernel
theorem dX2_keepShares_50 : decode cX2_keepShares 50 = .ok (.iload_n 3, 1) := by decide +kernel
theorem dX2_keepShares_51 : decode cX2_keepShares 51 = .ok (.lload_n 1, 1) := by decide +kernel
theorem dX2_keepShares_52 : decode cX2_keepShares 52 = .ok (.lload 6, 2) := by decide +kernel
theorem dX2_keepShares_54 : decode cX2_keepShares 54 = .ok (.ldiv, 1) := by decide +kernel
theorem dX2_keepShares_55 : decode cX2_keepShares 55 = .ok (.lastore, 1) := by decide +kernel
theorem dX2_keepShares_56 : decode cX2_keepShares 56 = .ok (.iinc 3 1, 3) := by decide +kernel
theorem dX2_keepShares_59 : decode cX2_keepShares 59 = .ok (.goto (-57), 3) := by decide +kernel
theorem dX2_keepShares_62 : decode cX2_keepShares 62 = .ok (.return_, 1) := by decide +kernel
theorem dX2_commonDivisor_0 : decode cX2_commonDivisor 0 = .ok (.lload_n 0, 1) := by decide +kernel
theorem dX2_commonDivisor_1 : decode cX2_commonDivisor 1 = .ok (.lstore 4, 2) := by decide +kernel
theorem dX2_commonDivisor_3 : decode cX2_commonDivisor 3 = .ok (.lload_n 2, 1) := by decide +kernel
theorem dX2_commonDivisor_4 : decode cX2_commonDivisor 4 = .ok (.lstore 6, 2) := by decide +kernel
theorem dX2_commonDivisor_6 : decode cX2_commonDivisor 6 = .ok (.iconst 0, 1) := by decide +kernel
theorem dX2_commonDivisor_7 : decode cX2_commonDivisor 7 = .ok (.istore 8, 2) := by decide +kernel
theorem dX2_commonDivisor_9 : decode cX2_commonDivisor 9 = .ok (.iload 8, 2) := by decide +kernel
theorem dX2_commonDivisor_11 : decode cX2_commonDivisor 11 = .ok (.bipush 100, 2) := by decide +kernel
theorem dX2_commonDivisor_13 : decode cX2_commonDivisor 13 = .ok (.if_icmp .ge 31, 3) := by decide +kernel
theorem dX2_commonDivisor_16 : decode cX2_commonDivisor 16 = .ok (.lload 6, 2) := by decide +kernel
theorem dX2_commonDivisor_18 : decode cX2_commonDivisor 18 = .ok (.lconst 0, 1) := by decide +kernel
theorem dX2_commonDivisor_19 : decode cX2_commonDivisor 19 = .ok (.lcmp, 1) := by decide +kernel
theorem dX2_commonDivisor_20 : decode cX2_commonDivisor 20 = .ok (.ifCond .eq 24, 3) := by decide +kernel
theorem dX2_commonDivisor_23 : decode cX2_commonDivisor 23 = .ok (.lload 4, 2) := by decide +kernel
theorem dX2_commonDivisor_25 : decode cX2_commonDivisor 25 = .ok (.lload 6, 2) := by decide +kernel
theorem dX2_commonDivisor_27 : decode cX2_commonDivisor 27 = .ok (.lrem, 1) := by decide +kernel
theorem dX2_commonDivisor_28 : decode cX2_commonDivisor 28 = .ok (.lstore 9, 2) := by decide +kernel
theorem dX2_commonDivisor_30 : decode cX2_commonDivisor 30 = .ok (.lload 6, 2) := by decide +kernel
theorem dX2_commonDivisor_32 : decode cX2_commonDivisor 32 = .ok (.lstore 4, 2) := by decide +kernel
theorem dX2_commonDivisor_34 : decode cX2_commonDivisor 34 = .ok (.lload 9, 2) := by decide +kernel
theorem dX2_commonDivisor_36 : decode cX2_commonDivisor 36 = .ok (.lstore 6, 2) := by decide +kernel
theorem dX2_commonDivisor_38 : decode cX2_commonDivisor 38 = .ok (.iinc 8 1, 3) := by decide +kernel
theorem dX2_commonDivisor_41 : decode cX2_commonDivisor 41 = .ok (.goto (-32), 3) := by decide +kernel
theorem dX2_commonDivisor_44 : decode cX2_commonDivisor 44 = .ok (.lload 4, 2) := by decide +kernel
theorem dX2_commonDivisor_46 : decode cX2_commonDivisor 46 = .ok (.lreturn, 1) := by decide +kernel
set_option maxRecDepth 20000 in
theorem ggX2_millionthsAfter_X2_playRound : GoodIn wsX2_millionthsAfter wsX2_playRound := goodIn_r _ [7, 8, 1, 9, 10, 11, 12, 13, 14, 15, 16, 17, 18] (by decide +kernel) (by decide +kernel)
set_option maxRecDepth 20000 in
theorem gX2_millionthsAfter_X2_playRound : GoodIn wsX2_millionthsAfter (wsV RX2 74 RX2 yX2_playRound wsX2_playRound) := goodIn_app (goodIn_of _ (by decide +kernel)) ggX2_millionthsAfter_X2_playRound
theorem dX2_millionthsAfter_0 : decode cX2_millionthsAfter 0 = .ok (.iconst 0, 1) := by decide +kernel
theorem dX2_millionthsAfter_1 : decode cX2_millionthsAfter 1 = .ok (.istore_n 3, 1) := by decide +kernel
theorem dX2_millionthsAfter_2 : decode cX2_millionthsAfter 2 = .ok (.iload_n 3, 1) := by decide +kernel
theorem dX2_millionthsAfter_3 : decode cX2_millionthsAfter 3 = .ok (.bipush 6, 2) := by decide +kernel
theorem dX2_millionthsAfter_5 : decode cX2_millionthsAfter 5 = .ok (.if_icmp .ge 25, 3) := by decide +kernel
theorem dX2_millionthsAfter_8 : decode cX2_millionthsAfter 8 = .ok (.aload_n 0, 1) := by decide +kernel
theorem dX2_millionthsAfter_9 : decode cX2_millionthsAfter 9 = .ok (.getfield 25, 3) := by decide +kernel
theorem dX2_millionthsAfter_12 : decode cX2_millionthsAfter 12 = .ok (.iload_n 3, 1) := by decide +kernel
theorem dX2_millionthsAfter_13 : decode cX2_millionthsAfter 13 = .ok (.iload_n 3, 1) := by decide +kernel
theorem dX2_millionthsAfter_14 : decode cX2_millionthsAfter 14 = .ok (.ifCond .ne 8, 3) := by decide +kernel
theorem dX2_millionthsAfter_17 : decode cX2_millionthsAfter 17 = .ok (.ldc 73, 2) := by decide +kernel
theorem dX2_millionthsAfter_19 : decode cX2_millionthsAfter 19 = .ok (.goto 4, 3) := by decide +kernel
theorem dX2_millionthsAfter_22 : decode cX2_millionthsAfter 22 = .ok (.iconst 0, 1) := by decide +kernel
theorem dX2_millionthsAfter_23 : decode cX2_millionthsAfter 23 = .ok (.iastore, 1) := by decide +kernel
theorem dX2_millionthsAfter_24 : decode cX2_millionthsAfter 24 = .ok (.iinc 3 1, 3) := by decide +kernel
theorem dX2_millionthsAfter_27 : decode cX2_millionthsAfter 27 = .ok (.goto (-25), 3) := by decide +kernel
theorem dX2_millionthsAfter_30 : decode cX2_millionthsAfter 30 = .ok (.iconst 0, 1) := by decide +kernel
theorem dX2_millionthsAfter_31 : decode cX2_millionthsAfter 31 = .ok (.istore_n 3, 1) := by decide +kernel
theorem dX2_millionthsAfter_32 : decode cX2_millionthsAfter 32 = .ok (.iload_n 3, 1) := by decide +kernel
theorem dX2_millionthsAfter_33 : decode cX2_millionthsAfter 33 = .ok (.iload_n 1, 1) := by decide +kernel
theorem dX2_millionthsAfter_34 : decode cX2_millionthsAfter 34 = .ok (.if_icmp .ge 13, 3) := by decide +kernel
theorem dX2_millionthsAfter_37 : decode cX2_millionthsAfter 37 = .ok (.aload_n 0, 1) := by decide +kernel
theorem dX2_millionthsAfter_38 : decode cX2_millionthsAfter 38 = .ok (.invokevirtual 74, 3) := by decide +kernel
theorem dX2_millionthsAfter_41 : decode cX2_millionthsAfter 41 = .ok (.iinc 3 1, 3) := by decide +kernel
theorem dX2_millionthsAfter_44 : decode cX2_millionthsAfter 44 = .ok (.goto (-12), 3) := by decide +kernel
theorem dX2_millionthsAfter_47 : decode cX2_millionthsAfter 47 = .ok (.aload_n 0, 1) := by decide +kernel
theorem dX2_millionthsAfter_48 : decode cX2_millionthsAfter 48 = .ok (.getfield 25, 3) := by decide +kernel
theorem dX2_millionthsAfter_51 : decode cX2_millionthsAfter 51 = .ok (.iload_n 2, 1) := by decide +kernel
theorem dX2_millionthsAfter_52 : decode cX2_millionthsAfter 52 = .ok (.iaload, 1) := by decide +kernel
theorem dX2_millionthsAfter_53 : decode cX2_millionthsAfter 53 = .ok (.ireturn, 1) := by decide +kernel
set_option maxRecDepth 20000 in
theorem ggX2_playRound_X3_pair : GoodIn wsX2_playRound wsX3_pair := goodIn_r _ [6] (by decide +kernel) (by decide +kernel)
set_option maxRecDepth 20000 in
theorem gX2_playRound_X3_pair_n31 : GoodIn wsX2_playRound (wsX3_pair) := ggX2_playRound_X3_pair
theorem dX2_playRound_0 : decode cX2_playRound 0 = .ok (.iconst 1, 1) := by decide +kernel
theorem dX2_playRound_1 : decode cX2_playRound 1 = .ok (.istore_n 1, 1) := by decide +kernel
theorem dX2_playRound_2 : decode cX2_playRound 2 = .ok (.iload_n 1, 1) := by decide +kernel
theorem dX2_playRound_3 : decode cX2_playRound 3 = .ok (.bipush 6, 2) := by decide +kernel
theorem dX2_playRound_5 : decode cX2_playRound 5 = .ok (.if_icmp .ge 55, 3) := by decide +kernel
theorem dX2_playRound_8 : decode cX2_playRound 8 = .ok (.iconst 0, 1) := by decide +kernel
theorem dX2_playRound_9 : decode cX2_playRound 9 = .ok (.istore_n 2, 1) := by decide +kernel
theorem dX2_playRound_10 : decode cX2_playRound 10 = .ok (.iconst 0, 1) := by decide +kernel
theorem dX2_playRound_11 : decode cX2_playRound 11 = .ok (.istore_n 3, 1) := by decide +kernel
theorem dX2_playRound_12 : decode cX2_playRound 12 = .ok (.iload_n 3, 1) := by decide +kernel
theorem dX2_playRound_13 : decode cX2_playRound 13 = .ok (.bipush 6, 2) := by decide +kernel
theorem dX2_playRound_15 : decode cX2_playRound 15 = .ok (.if_icmp .ge 29, 3) := by decide +kernel
theorem dX2_playRound_18 : decode cX2_playRound 18 = .ok (.iload_n 2, 1) := by decide +kernel
theorem dX2_playRound_19 : decode cX2_playRound 19 = .ok (.aload_n 0, 1) := by decide +kernel
theorem dX2_playRound_20 : decode cX2_playRound 20 = .ok (.getfield 9, 3) := by decide +kernel
theorem dX2_playRound_23 : decode cX2_playRound 23 = .ok (.iload_n 3, 1) := by decide +kernel
theorem dX2_playRound_24 : decode cX2_playRound 24 = .ok (.iload_n 1, 1) := by decide +kernel
theorem dX2_playRound_25 : decode cX2_playRound 25 = .ok (.invokestatic 31, 3) := by decide +kernel
theorem dX2_playRound_28 : decode cX2_playRound 28 = .ok (.iaload, 1) := by decide +kernel
theorem dX2_playRound_29 : decode cX2_playRound 29 = .ok (.aload_n 0, 1) := by decide +kernel
theorem dX2_playRound_30 : decode cX2_playRound 30 = .ok (.getfield 25, 3) := by decide +kernel
theorem dX2_playRound_33 : decode cX2_playRound 33 = .ok (.iload_n 3, 1) := by decide +kernel
theorem dX2_playRound_34 : decode cX2_playRound 34 = .ok (.iaload, 1) := by decide +kernel
theorem dX2_playRound_35 : decode cX2_playRound 35 = .ok (.imul, 1) := by decide +kernel
theorem dX2_playRound_36 : decode cX2_playRound 36 = .ok (.iadd, 1) := by decide +kernel
theorem dX2_playRound_37 : decode cX2_playRound 37 = .ok (.istore_n 2, 1) := by decide +kernel
theorem dX2_playRound_38 : decode cX2_playRound 38 = .ok (.iinc 3 1, 3) := by decide +kernel
theorem dX2_playRound_41 : decode cX2_playRound 41 = .ok (.goto (-29), 3) := by decide +kernel
theorem dX2_playRound_44 : decode cX2_playRound 44 = .ok (.aload_n 0, 1) := by decide +kernel
theorem dX2_playRound_45 : decode cX2_playRound 45 = .ok (.getfield 28, 3) := by decide +kernel
theorem dX2_playRound_48 : decode cX2_playRound 48 = .ok (.iload_n 1, 1) := by decide +kernel
theorem dX2_playRound_49 : decode cX2_playRound 49 = .ok (.iload_n 2, 1) := by decide +kernel
theorem dX2_playRound_50 : decode cX2_playRound 50 = .ok (.bipush 100, 2) := by decide +kernel
theorem dX2_playRound_52 : decode cX2_playRound 52 = .ok (.idiv, 1) := by decide +kernel
theorem dX2_playRound_53 : decode cX2_playRound 53 = .ok (.iastore, 1) := by decide +kernel
theorem dX2_playRound_54 : decode cX2_playRound 54 = .ok (.iinc 1 1, 3) := by decide +kernel
theorem dX2_playRound_57 : decode cX2_playRound 57 = .ok (.goto (-55), 3) := by decide +kernel
theorem dX2_playRound_60 : decode cX2_playRound 60 = .ok (.iconst 1, 1) := by decide +kernel
theorem dX2_playRound_61 : decode cX2_playRound 61 = .ok (.istore_n 1, 1) := by decide +kernel
theorem dX2_playRound_62 : decode cX2_playRound 62 = .ok (.iload_n 1, 1) := by decide +kernel
theorem dX2_playRound_63 : decode cX2_playRound 63 = .ok (.bipush 6, 2) := by decide +kernel
theorem dX2_playRound_65 : decode cX2_playRound 65 = .ok (.if_icmp .ge 21, 3) := by decide +kernel
theorem dX2_playRound_68 : decode cX2_playRound 68 = .ok (.aload_n 0, 1) := by decide +kernel
theorem dX2_playRound_69 : decode cX2_playRound 69 = .ok (.getfield 25, 3) := by decide +kernel
theorem dX2_playRound_72 : decode cX2_playRound 72 = .ok (.iload_n 1, 1) := by decide +kernel
theorem dX2_playRound_73 : decode cX2_playRound 73 = .ok (.aload_n 0, 1) := by decide +kernel
theorem dX2_playRound_74 : decode cX2_playRound 74 = .ok (.getfield 28, 3) := by decide +kernel
theorem dX2_playRound_77 : decode cX2_playRound 77 = .ok (.iload_n 1, 1) := by decide +kernel
theorem dX2_playRound_78 : decode cX2_playRound 78 = .ok (.iaload, 1) := by decide +kernel
theorem dX2_playRound_79 : decode cX2_playRound 79 = .ok (.iastore, 1) := by decide +kernel
theorem dX2_playRound_80 : decode cX2_playRound 80 = .ok (.iinc 1 1, 3) := by decide +kernel
theorem dX2_playRound_83 : decode cX2_playRound 83 = .ok (.goto (-21), 3) := by decide +kernel
theorem dX2_playRound_86 : decode cX2_playRound 86 = .ok (.return_, 1) := by decide +kernel
set_option maxRecDepth 20000 in
theorem ggX2_members_X2_withControlled : GoodIn wsX2_members wsX2_withControlled := goodIn_r _ [5, 6, 7, 8, 4, 9, 10, 11, 12, 13, 14, 15, 16, 17, 18, 19, 20, 21] (by decide +kernel) (by decide +kernel)
set_option maxRecDepth 20000 in
theorem gX2_members_X2_withControlled : GoodIn wsX2_members (wsV RX2 77 RX2 yX2_withControlled wsX2_withControlled) := goodIn_app (goodIn_of _ (by decide +kernel)) ggX2_members_X2_withControlled
theorem dX2_members_0 : decode cX2_members 0 = .ok (.iconst 1, 1) := by decide +kernel
theorem dX2_members_1 : decode cX2_members 1 = .ok (.istore_n 1, 1) := by decide +kernel
theorem dX2_members_2 : decode cX2_members 2 = .ok (.iconst 1, 1) := by decide +kernel
theorem dX2_members_3 : decode cX2_members 3 = .ok (.istore_n 2, 1) := by decide +kernel
theorem dX2_members_4 : decode cX2_members 4 = .ok (.iload_n 2, 1) := by decide +kernel
theorem dX2_members_5 : decode cX2_members 5 = .ok (.bipush 6, 2) := by decide +kernel
theorem dX2_members_7 : decode cX2_members 7 = .ok (.if_icmp .ge 15, 3) := by decide +kernel
theorem dX2_members_10 : decode cX2_members 10 = .ok (.aload_n 0, 1) := by decide +kernel
theorem dX2_members_11 : decode cX2_members 11 = .ok (.iload_n 1, 1) := by decide +kernel
theorem dX2_members_12 : decode cX2_members 12 = .ok (.invokevirtual 77, 3) := by decide +kernel
theorem dX2_members_15 : decode cX2_members 15 = .ok (.istore_n 1, 1) := by decide +kernel
theorem dX2_members_16 : decode cX2_members 16 = .ok (.iinc 2 1, 3) := by decide +kernel
theorem dX2_members_19 : decode cX2_members 19 = .ok (.goto (-15), 3) := by decide +kernel
theorem dX2_members_22 : decode cX2_members 22 = .ok (.iload_n 1, 1) := by decide +kernel
theorem dX2_members_23 : decode cX2_members 23 = .ok (.ireturn, 1) := by decide +kernel
set_option maxRecDepth 20000 in
theorem ggX2_withControlled_X2_heldAmong : GoodIn wsX2_withControlled wsX2_heldAmong := goodIn_r _ [5, 6, 7, 8, 9, 10, 11, 12, 13, 14, 15, 16, 17] (by decide +kernel) (by decide +kernel)
set_option maxRecDepth 20000 in
theorem gX2_withControlled_X2_heldAmong : GoodIn wsX2_withControlled (wsV RX2 80 RX2 yX2_heldAmong wsX2_heldAmong) := goodIn_app (goodIn_of _ (by decide +kernel)) ggX2_withControlled_X2_heldAmong
theorem dX2_withControlled_0 : decode cX2_withControlled 0 = .ok (.iload_n 1, 1) := by decide +kernel
theorem dX2_withControlled_1 : decode cX2_withControlled 1 = .ok (.istore_n 2, 1) := by decide +kernel
theorem dX2_withControlled_2 : decode cX2_withControlled 2 = .ok (.iconst 1, 1) := by decide +kernel
theorem dX2_withControlled_3 : decode cX2_withControlled 3 = .ok (.istore_n 3, 1) := by decide +kernel
theorem dX2_withControlled_4 : decode cX2_withControlled 4 = .ok (.iload_n 3, 1) := by decide +kernel
theorem dX2_withControlled_5 : decode cX2_withControlled 5 = .ok (.bipush 6, 2) := by decide +kernel
theorem dX2_withControlled_7 : decode cX2_withControlled 7 = .ok (.if_icmp .ge 26, 3) := by decide +kernel
theorem dX2_withControlled_10 : decode cX2_withControlled 10 = .ok (.aload_n 0, 1) := by decide +kernel
theorem dX2_withControlled_11 : decode cX2_withControlled 11 = .ok (.iload_n 1, 1) := by decide +kernel
theorem dX2_withControlled_12 : decode cX2_withControlled 12 = .ok (.iload_n 3, 1) := by decide +kernel
theorem dX2_withControlled_13 : decode cX2_withControlled 13 = .ok (.invokevirtual 80, 3) := by decide +kernel
theorem dX2_withControlled_16 : decode cX2_withControlled 16 = .ok (.bipush 50, 2) := by decide +kernel
theorem dX2_withControlled_18 : decode cX2_withControlled 18 = .ok (.if_icmp .le 9, 3) := by decide +kernel
theorem dX2_withControlled_21 : decode cX2_withControlled 21 = .ok (.iload_n 2, 1) := by decide +kernel
theorem dX2_withControlled_22 : decode cX2_withControlled 22 = .ok (.iconst 1, 1) := by decide +kernel
theorem dX2_withControlled_23 : decode cX2_withControlled 23 = .ok (.iload_n 3, 1) := by decide +kernel
theorem dX2_withControlled_24 : decode cX2_withControlled 24 = .ok (.ishl, 1) := by decide +kernel
theorem dX2_withControlled_25 : decode cX2_withControlled 25 = .ok (.ior, 1) := by decide +kernel
theorem dX2_withControlled_26 : decode cX2_withControlled 26 = .ok (.istore_n 2, 1) := by decide +kernel
theorem dX2_withControlled_27 : decode cX2_withControlled 27 = .ok (.iinc 3 1, 3) := by decide +kernel
theorem dX2_withControlled_30 : decode cX2_withControlled 30 = .ok (.goto (-26), 3) := by decide +kernel
theorem dX2_withControlled_33 : decode cX2_withControlled 33 = .ok (.iload_n 2, 1) := by decide +kernel
theorem dX2_withControlled_34 : decode cX2_withControlled 34 = .ok (.ireturn, 1) := by decide +kernel
set_option maxRecDepth 20000 in
theorem ggX2_heldAmong_X3_isMember : GoodIn wsX2_heldAmong wsX3_isMember := goodIn_r _ [4] (by decide +kernel) (by decide +kernel)
set_option maxRecDepth 20000 in
theorem gX2_heldAmong_X3_isMember_n83 : GoodIn wsX2_heldAmong (wsX3_isMember) := ggX2_heldAmong_X3_isMember
set_option maxRecDepth 20000 in
theorem ggX2_heldAmong_X3_pair : GoodIn wsX2_heldAmong wsX3_pair := goodIn_r _ [6] (by decide +kernel) (by decide +kernel)
set_option maxRecDepth 20000 in
theorem gX2_heldAmong_X3_pair_n31 : GoodIn wsX2_heldAmong (wsX3_pair) := ggX2_heldAmong_X3_pair
theorem dX2_heldAmong_0 : decode cX2_heldAmong 0 = .ok (.iconst 0, 1) := by decide +kernel
theorem dX2_heldAmong_1 : decode cX2_heldAmong 1 = .ok (.istore_n 3, 1) := by decide +kernel
theorem dX2_heldAmong_2 : decode cX2_heldAmong 2 = .ok (.iconst 0, 1) := by decide +kernel
theorem dX2_heldAmong_3 : decode cX2_heldAmong 3 = .ok (.istore 4, 2) := by decide +kernel
theorem dX2_heldAmong_5 : decode cX2_heldAmong 5 = .ok (.iload 4, 2) := by decide +kernel
theorem dX2_heldAmong_7 : decode cX2_heldAmong 7 = .ok (.bipush 6, 2) := by decide +kernel
theorem dX2_heldAmong_9 : decode cX2_heldAmong 9 = .ok (.if_icmp .ge 32, 3) := by decide +kernel
theorem dX2_heldAmong_12 : decode cX2_heldAmong 12 = .ok (.iload_n 1, 1) := by decide +kernel
theorem dX2_heldAmong_13 : decode cX2_heldAmong 13 = .ok (.iload 4, 2) := by decide +kernel
theorem dX2_heldAmong_15 : decode cX2_heldAmong 15 = .ok (.invokestatic 83, 3) := by decide +kernel
theorem dX2_heldAmong_18 : decode cX2_heldAmong 18 = .ok (.ifCond .eq 17, 3) := by decide +kernel
theorem dX2_heldAmong_21 : decode cX2_heldAmong 21 = .ok (.iload_n 3, 1) := by decide +kernel
theorem dX2_heldAmong_22 : decode cX2_heldAmong 22 = .ok (.aload_n 0, 1) := by decide +kernel
theorem dX2_heldAmong_23 : decode cX2_heldAmong 23 = .ok (.getfield 9, 3) := by decide +kernel
theorem dX2_heldAmong_26 : decode cX2_heldAmong 26 = .ok (.iload 4, 2) := by decide +kernel
theorem dX2_heldAmong_28 : decode cX2_heldAmong 28 = .ok (.iload_n 2, 1) := by decide +kernel
theorem dX2_heldAmong_29 : decode cX2_heldAmong 29 = .ok (.invokestatic 31, 3) := by decide +kernel
theorem dX2_heldAmong_32 : decode cX2_heldAmong 32 = .ok (.iaload, 1) := by decide +kernel
theorem dX2_heldAmong_33 : decode cX2_heldAmong 33 = .ok (.iadd, 1) := by decide +kernel
theorem dX2_heldAmong_34 : decode cX2_heldAmong 34 = .ok (.istore_n 3, 1) := by decide +kernel
theorem dX2_heldAmong_35 : decode cX2_heldAmong 35 = .ok (.iinc 4 1, 3) := by decide +kernel
theorem dX2_heldAmong_38 : decode cX2_heldAmong 38 = .ok (.goto (-33), 3) := by decide +kernel
theorem dX2_heldAmong_41 : decode cX2_heldAmong 41 = .ok (.iload_n 3, 1) := by decide +kernel
theorem dX2_heldAmong_42 : decode cX2_heldAmong 42 = .ok (.ireturn, 1) := by decide +kernel
theorem dJ9_floorDiv_7cf53_0 : decode cJ9_floorDiv_7cf53 0 = .ok (.iload_n 0, 1) := by decide +kernel
theorem dJ9_floorDiv_7cf53_1 : decode cJ9_floorDiv_7cf53 1 = .ok (.iload_n 1, 1) := by decide +kernel
theorem dJ9_floorDiv_7cf53_2 : decode cJ9_floorDiv_7cf53 2 = .ok (.idiv, 1) := by decide +kernel
theorem dJ9_floorDiv_7cf53_3 : decode cJ9_floorDiv_7cf53 3 = .ok (.istore_n 2, 1) := by decide +kernel
theorem dJ9_floorDiv_7cf53_4 : decode cJ9_floorDiv_7cf53 4 = .ok (.iload_n 0, 1) := by decide +kernel
theorem dJ9_floorDiv_7cf53_5 : decode cJ9_floorDiv_7cf53 5 = .ok (.iload_n 1, 1) := by decide +kernel
theorem dJ9_floorDiv_7cf53_6 : decode cJ9_floorDiv_7cf53 6 = .ok (.ixor, 1) := by decide +kernel
theorem dJ9_floorDiv_7cf53_7 : decode cJ9_floorDiv_7cf53 7 = .ok (.ifCond .ge 14, 3) := by decide +kernel
theorem dJ9_floorDiv_7cf53_10 : decode cJ9_floorDiv_7cf53 10 = .ok (.iload_n 2, 1) := by decide +kernel
theorem dJ9_floorDiv_7cf53_11 : decode cJ9_floorDiv_7cf53 11 = .ok (.iload_n 1, 1) := by decide +kernel
theorem dJ9_floorDiv_7cf53_12 : decode cJ9_floorDiv_7cf53 12 = .ok (.imul, 1) := by decide +kernel
theorem dJ9_floorDiv_7cf53_13 : decode cJ9_floorDiv_7cf53 13 = .ok (.iload_n 0, 1) := by decide +kernel
theorem dJ9_floorDiv_7cf53_14 : decode cJ9_floorDiv_7cf53 14 = .ok (.if_icmp .eq 7, 3) := by decide +kernel
theorem dJ9_floorDiv_7cf53_17 : decode cJ9_floorDiv_7cf53 17 = .ok (.iload_n 2, 1) := by decide +kernel
theorem dJ9_floorDiv_7cf53_18 : decode cJ9_floorDiv_7cf53 18 = .ok (.iconst 1, 1) := by decide +kernel
theorem dJ9_floorDiv_7cf53_19 : decode cJ9_floorDiv_7cf53 19 = .ok (.isub, 1) := by decide +kernel
theorem dJ9_floorDiv_7cf53_20 : decode cJ9_floorDiv_7cf53 20 = .ok (.ireturn, 1) := by decide +kernel
theorem dJ9_floorDiv_7cf53_21 : decode cJ9_floorDiv_7cf53 21 = .ok (.iload_n 2, 1) := by decide +kernel
theorem dJ9_floorDiv_7cf53_22 : decode cJ9_floorDiv_7cf53 22 = .ok (.ireturn, 1) := by decide +kernel
theorem dJ9_floorDiv_f86c9_0 : decode cJ9_floorDiv_f86c9 0 = .ok (.lload_n 0, 1) := by decide +kernel
theorem dJ9_floorDiv_f86c9_1 : decode cJ9_floorDiv_f86c9 1 = .ok (.lload_n 2, 1) := by decide +kernel
theorem dJ9_floorDiv_f86c9_2 : decode cJ9_floorDiv_f86c9 2 = .ok (.ldiv, 1) := by decide +kernel
theorem dJ9_floorDiv_f86c9_3 : decode cJ9_floorDiv_f86c9 3 = .ok (.lstore 4, 2) := by decide +kernel
theorem dJ9_floorDiv_f86c9_5 : decode cJ9_floorDiv_f86c9 5 = .ok (.lload_n 0, 1) := by decide +kernel
theorem dJ9_floorDiv_f86c9_6 : decode cJ9_floorDiv_f86c9 6 = .ok (.lload_n 2, 1) := by decide +kernel
theorem dJ9_floorDiv_f86c9_7 : decode cJ9_floorDiv_f86c9 7 = .ok (.lxor, 1) := by decide +kernel
theorem dJ9_floorDiv_f86c9_8 : decode cJ9_floorDiv_f86c9 8 = .ok (.lconst 0, 1) := by decide +kernel
theorem dJ9_floorDiv_f86c9_9 : decode cJ9_floorDiv_f86c9 9 = .ok (.lcmp, 1) := by decide +kernel
theorem dJ9_floorDiv_f86c9_10 : decode cJ9_floorDiv_f86c9 10 = .ok (.ifCond .ge 17, 3) := by decide +kernel
theorem dJ9_floorDiv_f86c9_13 : decode cJ9_floorDiv_f86c9 13 = .ok (.lload 4, 2) := by decide +kernel
theorem dJ9_floorDiv_f86c9_15 : decode cJ9_floorDiv_f86c9 15 = .ok (.lload_n 2, 1) := by decide +kernel
theorem dJ9_floorDiv_f86c9_16 : decode cJ9_floorDiv_f86c9 16 = .ok (.lmul, 1) := by decide +kernel
theorem dJ9_floorDiv_f86c9_17 : decode cJ9_floorDiv_f86c9 17 = .ok (.lload_n 0, 1) := by decide +kernel
theorem dJ9_floorDiv_f86c9_18 : decode cJ9_floorDiv_f86c9 18 = .ok (.lcmp, 1) := by decide +kernel
theorem dJ9_floorDiv_f86c9_19 : decode cJ9_floorDiv_f86c9 19 = .ok (.ifCond .eq 8, 3) := by decide +kernel
theorem dJ9_floorDiv_f86c9_22 : decode cJ9_floorDiv_f86c9 22 = .ok (.lload 4, 2) := by decide +kernel
theorem dJ9_floorDiv_f86c9_24 : decode cJ9_floorDiv_f86c9 24 = .ok (.lconst 1, 1) := by decide +kernel
theorem dJ9_floorDiv_f86c9_25 : decode cJ9_floorDiv_f86c9 25 = .ok (.lsub, 1) := by decide +kernel
theorem dJ9_floorDiv_f86c9_26 : decode cJ9_floorDiv_f86c9 26 = .ok (.lreturn, 1) := by decide +kernel
theorem dJ9_floorDiv_f86c9_27 : decode cJ9_floorDiv_f86c9 27 = .ok (.lload 4, 2) := by decide +kernel
theorem dJ9_floorDiv_f86c9_29 : decode cJ9_floorDiv_f86c9 29 = .ok (.lreturn, 1) := by decide +kernel
theorem dJ9_min_7cf53_0 : decode cJ9_min_7cf53 0 = .ok (.iload_n 0, 1) := by decide +kernel
theorem dJ9_min_7cf53_1 : decode cJ9_min_7cf53 1 = .ok (.iload_n 1, 1) := by decide +kernel
theorem dJ9_min_7cf53_2 : decode cJ9_min_7cf53 2 = .ok (.if_icmp .gt 7, 3) := by decide +kernel
theorem dJ9_min_7cf53_5 : decode cJ9_min_7cf53 5 = .ok (.iload_n 0, 1) := by decide +kernel
theorem dJ9_min_7cf53_6 : decode cJ9_min_7cf53 6 = .ok (.goto 4, 3) := by decide +kernel
theorem dJ9_min_7cf53_9 : decode cJ9_min_7cf53 9 = .ok (.iload_n 1, 1) := by decide +kernel
theorem dJ9_min_7cf53_10 : decode cJ9_min_7cf53 10 = .ok (.ireturn, 1) := by decide +kernel
