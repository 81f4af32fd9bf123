theorem dX0_init_0 : decode cX0_init 0 = .ok (.aload_n 0, 1) := by decide +kernel
theorem dX0_init_1 : decode cX0_init 1 = .ok (.invokespecial 3, 3) := by decide +kernel
theorem dX0_init_4 : decode cX0_init 4 = .ok (.aload_n 0, 1) := by decide +kernel
theorem dX0_init_5 : decode cX0_init 5 = .ok (.bipush 36, 2) := by decide +kernel
theorem dX0_init_7 : decode cX0_init 7 = .ok (.newarray .int, 2) := by decide +kernel
theorem dX0_init_9 : decode cX0_init 9 = .ok (.putfield 9, 3) := by decide +kernel
theorem dX0_init_12 : decode cX0_init 12 = .ok (.aload_n 0, 1) := by decide +kernel
theorem dX0_init_13 : decode cX0_init 13 = .ok (.bipush 36, 2) := by decide +kernel
theorem dX0_init_15 : decode cX0_init 15 = .ok (.newarray .int, 2) := by decide +kernel
theorem dX0_init_17 : decode cX0_init 17 = .ok (.putfield 15, 3) := by decide +kernel
theorem dX0_init_20 : decode cX0_init 20 = .ok (.return_, 1) := by decide +kernel
set_option maxRecDepth 20000 in
theorem ggX0_disputed_X3_pair : GoodIn wsX0_disputed wsX3_pair := goodIn_r _ [5] (by decide +kernel) (by decide +kernel)
set_option maxRecDepth 20000 in
theorem gX0_disputed_X3_pair_n18 : GoodIn wsX0_disputed (wsX3_pair) := ggX0_disputed_X3_pair
theorem dX0_disputed_0 : decode cX0_disputed 0 = .ok (.iload_n 1, 1) := by decide +kernel
theorem dX0_disputed_1 : decode cX0_disputed 1 = .ok (.iload_n 2, 1) := by decide +kernel
theorem dX0_disputed_2 : decode cX0_disputed 2 = .ok (.invokestatic 18, 3) := by decide +kernel
theorem dX0_disputed_5 : decode cX0_disputed 5 = .ok (.istore_n 3, 1) := by decide +kernel
theorem dX0_disputed_6 : decode cX0_disputed 6 = .ok (.aload_n 0, 1) := by decide +kernel
theorem dX0_disputed_7 : decode cX0_disputed 7 = .ok (.getfield 9, 3) := by decide +kernel
theorem dX0_disputed_10 : decode cX0_disputed 10 = .ok (.iload_n 3, 1) := by decide +kernel
theorem dX0_disputed_11 : decode cX0_disputed 11 = .ok (.iaload, 1) := by decide +kernel
theorem dX0_disputed_12 : decode cX0_disputed 12 = .ok (.aload_n 0, 1) := by decide +kernel
theorem dX0_disputed_13 : decode cX0_disputed 13 = .ok (.getfield 15, 3) := by decide +kernel
theorem dX0_disputed_16 : decode cX0_disputed 16 = .ok (.iload_n 3, 1) := by decide +kernel
theorem dX0_disputed_17 : decode cX0_disputed 17 = .ok (.iaload, 1) := by decide +kernel
theorem dX0_disputed_18 : decode cX0_disputed 18 = .ok (.isub, 1) := by decide +kernel
theorem dX0_disputed_19 : decode cX0_disputed 19 = .ok (.ireturn, 1) := by decide +kernel
set_option maxRecDepth 20000 in
theorem ggX0_agreedAmong_X3_isMember : GoodIn wsX0_agreedAmong wsX3_isMember := goodIn_r _ [9] (by decide +kernel) (by decide +kernel)
set_option maxRecDepth 20000 in
theorem gX0_agreedAmong_X3_isMember_n22 : GoodIn wsX0_agreedAmong (wsX3_isMember) := ggX0_agreedAmong_X3_isMember
set_option maxRecDepth 20000 in
theorem ggX0_agreedAmong_X3_pair : GoodIn wsX0_agreedAmong wsX3_pair := goodIn_r _ [11] (by decide +kernel) (by decide +kernel)
set_option maxRecDepth 20000 in
theorem gX0_agreedAmong_X3_pair_n18 : GoodIn wsX0_agreedAmong (wsX3_pair) := ggX0_agreedAmong_X3_pair
theorem dX0_agreedAmong_0 : decode cX0_agreedAmong 0 = .ok (.iconst 0, 1) := by decide +kernel
theorem dX0_agreedAmong_1 : decode cX0_agreedAmong 1 = .ok (.istore_n 2, 1) := by decide +kernel
theorem dX0_agreedAmong_2 : decode cX0_agreedAmong 2 = .ok (.iconst 0, 1) := by decide +kernel
theorem dX0_agreedAmong_3 : decode cX0_agreedAmong 3 = .ok (.istore_n 3, 1) := by decide +kernel
theorem dX0_agreedAmong_4 : decode cX0_agreedAmong 4 = .ok (.iload_n 3, 1) := by decide +kernel
theorem dX0_agreedAmong_5 : decode cX0_agreedAmong 5 = .ok (.bipush 6, 2) := by decide +kernel
theorem dX0_agreedAmong_7 : decode cX0_agreedAmong 7 = .ok (.if_icmp .ge 70, 3) := by decide +kernel
theorem dX0_agreedAmong_10 : decode cX0_agreedAmong 10 = .ok (.iconst 0, 1) := by decide +kernel
theorem dX0_agreedAmong_11 : decode cX0_agreedAmong 11 = .ok (.istore 4, 2) := by decide +kernel
theorem dX0_agreedAmong_13 : decode cX0_agreedAmong 13 = .ok (.iload 4, 2) := by decide +kernel
theorem dX0_agreedAmong_15 : decode cX0_agreedAmong 15 = .ok (.bipush 6, 2) := by decide +kernel
theorem dX0_agreedAmong_17 : decode cX0_agreedAmong 17 = .ok (.if_icmp .ge 54, 3) := by decide +kernel
theorem dX0_agreedAmong_20 : decode cX0_agreedAmong 20 = .ok (.iload_n 1, 1) := by decide +kernel
theorem dX0_agreedAmong_21 : decode cX0_agreedAmong 21 = .ok (.iload_n 3, 1) := by decide +kernel
theorem dX0_agreedAmong_22 : decode cX0_agreedAmong 22 = .ok (.invokestatic 22, 3) := by decide +kernel
theorem dX0_agreedAmong_25 : decode cX0_agreedAmong 25 = .ok (.ifCond .eq 40, 3) := by decide +kernel
theorem dX0_agreedAmong_28 : decode cX0_agreedAmong 28 = .ok (.iload_n 1, 1) := by decide +kernel
theorem dX0_agreedAmong_29 : decode cX0_agreedAmong 29 = .ok (.iload 4, 2) := by decide +kernel
theorem dX0_agreedAmong_31 : decode cX0_agreedAmong 31 = .ok (.invokestatic 22, 3) := by decide +kernel
theorem dX0_agreedAmong_34 : decode cX0_agreedAmong 34 = .ok (.ifCond .eq 31, 3) := by decide +kernel
theorem dX0_agreedAmong_37 : decode cX0_agreedAmong 37 = .ok (.iload_n 3, 1) := by decide +kernel
theorem dX0_agreedAmong_38 : decode cX0_agreedAmong 38 = .ok (.iload 4, 2) := by decide +kernel
theorem dX0_agreedAmong_40 : decode cX0_agreedAmong 40 = .ok (.invokestatic 18, 3) := by decide +kernel
theorem dX0_agreedAmong_43 : decode cX0_agreedAmong 43 = .ok (.istore 5, 2) := by decide +kernel
theorem dX0_agreedAmong_45 : decode cX0_agreedAmong 45 = .ok (.iload_n 2, 1) := by decide +kernel
theorem dX0_agreedAmong_46 : decode cX0_agreedAmong 46 = .ok (.aload_n 0, 1) := by decide +kernel
theorem dX0_agreedAmong_47 : decode cX0_agreedAmong 47 = .ok (.getfield 9, 3) := by decide +kernel
theorem dX0_agreedAmong_50 : decode cX0_agreedAmong 50 = .ok (.iload 5, 2) := by decide +kernel
theorem dX0_agreedAmong_52 : decode cX0_agreedAmong 52 = .ok (.iaload, 1) := by decide +kernel
theorem dX0_agreedAmong_53 : decode cX0_agreedAmong 53 = .ok (.aload_n 0, 1) := by decide +kernel
theorem dX0_agreedAmong_54 : decode cX0_agreedAmong 54 = .ok (.getfield 15, 3) := by decide +kernel
theorem dX0_agreedAmong_57 : decode cX0_agreedAmong 57 = .ok (.iload 5, 2) := by decide +kernel
theorem dX0_agreedAmong_59 : decode cX0_agreedAmong 59 = .ok (.iaload, 1) := by decide +kernel
theorem dX0_agreedAmong_60 : decode cX0_agreedAmong 60 = .ok (.invokestatic 26, 3) := by decide +kernel
theorem dX0_agreedAmong_63 : decode cX0_agreedAmong 63 = .ok (.iadd, 1) := by decide +kernel
theorem dX0_agreedAmong_64 : decode cX0_agreedAmong 64 = .ok (.istore_n 2, 1) := by decide +kernel
theorem dX0_agreedAmong_65 : decode cX0_agreedAmong 65 = .ok (.iinc 4 1, 3) := by decide +kernel
theorem dX0_agreedAmong_68 : decode cX0_agreedAmong 68 = .ok (.goto (-55), 3) := by decide +kernel
theorem dX0_agreedAmong_71 : decode cX0_agreedAmong 71 = .ok (.iinc 3 1, 3) := by decide +kernel
theorem dX0_agreedAmong_74 : decode cX0_agreedAmong 74 = .ok (.goto (-70), 3) := by decide +kernel
theorem dX0_agreedAmong_77 : decode cX0_agreedAmong 77 = .ok (.iload_n 2, 1) := by decide +kernel
theorem dX0_agreedAmong_78 : decode cX0_agreedAmong 78 = .ok (.ireturn, 1) := by decide +kernel
theorem dX1_init_0 : decode cX1_init 0 = .ok (.aload_n 0, 1) := by decide +kernel
theorem dX1_init_1 : decode cX1_init 1 = .ok (.invokespecial 3, 3) := by decide +kernel
theorem dX1_init_4 : decode cX1_init 4 = .ok (.aload_n 0, 1) := by decide +kernel
theorem dX1_init_5 : decode cX1_init 5 = .ok (.bipush 6, 2) := by decide +kernel
theorem dX1_init_7 : decode cX1_init 7 = .ok (.newarray .int, 2) := by decide +kernel
theorem dX1_init_9 : decode cX1_init 9 = .ok (.putfield 9, 3) := by decide +kernel
theorem dX1_init_12 : decode cX1_init 12 = .ok (.aload_n 0, 1) := by decide +kernel
theorem dX1_init_13 : decode cX1_init 13 = .ok (.bipush 6, 2) := by decide +kernel
theorem dX1_init_15 : decode cX1_init 15 = .ok (.newarray .int, 2) := by decide +kernel
theorem dX1_init_17 : decode cX1_init 17 = .ok (.putfield 15, 3) := by decide +kernel
theorem dX1_init_20 : decode cX1_init 20 = .ok (.aload_n 0, 1) := by decide +kernel
theorem dX1_init_21 : decode cX1_init 21 = .ok (.bipush 6, 2) := by decide +kernel
theorem dX1_init_23 : decode cX1_init 23 = .ok (.newarray .int, 2) := by decide +kernel
theorem dX1_init_25 : decode cX1_init 25 = .ok (.putfield 18, 3) := by decide +kernel
theorem dX1_init_28 : decode cX1_init 28 = .ok (.aload_n 0, 1) := by decide +kernel
theorem dX1_init_29 : decode cX1_init 29 = .ok (.bipush 6, 2) := by decide +kernel
theorem dX1_init_31 : decode cX1_init 31 = .ok (.newarray .int, 2) := by decide +kernel
theorem dX1_init_33 : decode cX1_init 33 = .ok (.putfield 21, 3) := by decide +kernel
theorem dX1_init_36 : decode cX1_init 36 = .ok (.aload_n 0, 1) := by decide +kernel
theorem dX1_init_37 : decode cX1_init 37 = .ok (.bipush 6, 2) := by decide +kernel
theorem dX1_init_39 : decode cX1_init 39 = .ok (.newarray .int, 2) := by decide +kernel
theorem dX1_init_41 : decode cX1_init 41 = .ok (.putfield 24, 3) := by decide +kernel
theorem dX1_init_44 : decode cX1_init 44 = .ok (.aload_n 0, 1) := by decide +kernel
theorem dX1_init_45 : decode cX1_init 45 = .ok (.bipush 6, 2) := by decide +kernel
theorem dX1_init_47 : decode cX1_init 47 = .ok (.newarray .int, 2) := by decide +kernel
theorem dX1_init_49 : decode cX1_init 49 = .ok (.putfield 27, 3) := by decide +kernel
theorem dX1_init_52 : decode cX1_init 52 = .ok (.aload_n 0, 1) := by decide +kernel
theorem dX1_init_53 : decode cX1_init 53 = .ok (.bipush 6, 2) := by decide +kernel
theorem dX1_init_55 : decode cX1_init 55 = .ok (.newarray .int, 2) := by decide +kernel
theorem dX1_init_57 : decode cX1_init 57 = .ok (.putfield 30, 3) := by decide +kernel
theorem dX1_init_60 : decode cX1_init 60 = .ok (.iconst 0, 1) := by decide +kernel
theorem dX1_init_61 : decode cX1_init 61 = .ok (.istore_n 1, 1) := by decide +kernel
theorem dX1_init_62 : decode cX1_init 62 = .ok (.iload_n 1, 1) := by decide +kernel
theorem dX1_init_63 : decode cX1_init 63 = .ok (.bipush 6, 2) := by decide +kernel
theorem dX1_init_65 : decode cX1_init 65 = .ok (.if_icmp .ge 33, 3) := by decide +kernel
theorem dX1_init_68 : decode cX1_init 68 = .ok (.aload_n 0, 1) := by decide +kernel
theorem dX1_init_69 : decode cX1_init 69 = .ok (.getfield 24, 3) := by decide +kernel
theorem dX1_init_72 : decode cX1_init 72 = .ok (.iload_n 1, 1) := by decide +kernel
theorem dX1_init_73 : decode cX1_init 73 = .ok (.bipush 100, 2) := by decide +kernel
theorem dX1_init_75 : decode cX1_init 75 = .ok (.iastore, 1) := by decide +kernel
theorem dX1_init_76 : decode cX1_init 76 = .ok (.aload_n 0, 1) := by decide +kernel
theorem dX1_init_77 : decode cX1_init 77 = .ok (.getfield 27, 3) := by decide +kernel
theorem dX1_init_80 : decode cX1_init 80 = .ok (.iload_n 1, 1) := by decide +kernel
theorem dX1_init_81 : decode cX1_init 81 = .ok (.bipush 100, 2) := by decide +kernel
theorem dX1_init_83 : decode cX1_init 83 = .ok (.iastore, 1) := by decide +kernel
theorem dX1_init_84 : decode cX1_init 84 = .ok (.aload_n 0, 1) := by decide +kernel
theorem dX1_init_85 : decode cX1_init 85 = .ok (.getfield 30, 3) := by decide +kernel
theorem dX1_init_88 : decode cX1_init 88 = .ok (.iload_n 1, 1) := by decide +kernel
theorem dX1_init_89 : decode cX1_init 89 = .ok (.bipush 100, 2) := by decide +kernel
theorem dX1_init_91 : decode cX1_init 91 = .ok (.iastore, 1) := by decide +kernel
theorem dX1_init_92 : decode cX1_init 92 = .ok (.iinc 1 1, 3) := by decide +kernel
theorem dX1_init_95 : decode cX1_init 95 = .ok (.goto (-33), 3) := by decide +kernel
theorem dX1_init_98 : decode cX1_init 98 = .ok (.return_, 1) := by decide +kernel
set_option maxRecDepth 20000 in
theorem ggX1_assetsOf_X1_translate : GoodIn wsX1_assetsOf wsX1_translate := goodIn_r _ [6, 7, 8, 9, 10] (by decide +kernel) (by decide +kernel)
set_option maxRecDepth 20000 in
theorem gX1_assetsOf_X1_translate : GoodIn wsX1_assetsOf (va_wsS RX1 33 yX1_translate wsX1_translate) := goodIn_app (goodIn_of _ (by decide +kernel)) ggX1_assetsOf_X1_translate
theorem dX1_assetsOf_0 : decode cX1_assetsOf 0 = .ok (.aload_n 0, 1) := by decide +kernel
theorem dX1_assetsOf_1 : decode cX1_assetsOf 1 = .ok (.getfield 9, 3) := by decide +kernel
theorem dX1_assetsOf_4 : decode cX1_assetsOf 4 = .ok (.iload_n 1, 1) := by decide +kernel
theorem dX1_assetsOf_5 : decode cX1_assetsOf 5 = .ok (.iaload, 1) := by decide +kernel
theorem dX1_assetsOf_6 : decode cX1_assetsOf 6 = .ok (.aload_n 0, 1) := by decide +kernel
theorem dX1_assetsOf_7 : decode cX1_assetsOf 7 = .ok (.getfield 24, 3) := by decide +kernel
theorem dX1_assetsOf_10 : decode cX1_assetsOf 10 = .ok (.iload_n 1, 1) := by decide +kernel
theorem dX1_assetsOf_11 : decode cX1_assetsOf 11 = .ok (.iaload, 1) := by decide +kernel
theorem dX1_assetsOf_12 : decode cX1_assetsOf 12 = .ok (.invokestatic 33, 3) := by decide +kernel
theorem dX1_assetsOf_15 : decode cX1_assetsOf 15 = .ok (.ireturn, 1) := by decide +kernel
set_option maxRecDepth 20000 in
theorem ggX1_debtsOf_X1_translate : GoodIn wsX1_debtsOf wsX1_translate := goodIn_r _ [6, 7, 8, 9, 10] (by decide +kernel) (by decide +kernel)
set_option maxRecDepth 20000 in
theorem gX1_debtsOf_X1_translate : GoodIn wsX1_debtsOf (va_wsS RX1 33 yX1_translate wsX1_translate) := goodIn_app (goodIn_of _ (by decide +kernel)) ggX1_debtsOf_X1_translate
theorem dX1_debtsOf_0 : decode cX1_debtsOf 0 = .ok (.aload_n 0, 1) := by decide +kernel
theorem dX1_debtsOf_1 : decode cX1_debtsOf 1 = .ok (.getfield 15, 3) := by decide +kernel
theorem dX1_debtsOf_4 : decode cX1_debtsOf 4 = .ok (.iload_n 1, 1) := by decide +kernel
theorem dX1_debtsOf_5 : decode cX1_debtsOf 5 = .ok (.iaload, 1) := by decide +kernel
theorem dX1_debtsOf_6 : decode cX1_debtsOf 6 = .ok (.aload_n 0, 1) := by decide +kernel
theorem dX1_debtsOf_7 : decode cX1_debtsOf 7 = .ok (.getfield 24, 3) := by decide +kernel
theorem dX1_debtsOf_10 : decode cX1_debtsOf 10 = .ok (.iload_n 1, 1) := by decide +kernel
theorem dX1_debtsOf_11 : decode cX1_debtsOf 11 = .ok (.iaload, 1) := by decide +kernel
theorem dX1_debtsOf_12 : decode cX1_debtsOf 12 = .ok (.invokestatic 33, 3) := by decide +kernel
theorem dX1_debtsOf_15 : decode cX1_debtsOf 15 = .ok (.ireturn, 1) := by decide +kernel
set_option maxRecDepth 20000 in
theorem ggX1_equityOf_X1_translate : GoodIn wsX1_equityOf wsX1_translate := goodIn_r _ [6, 7, 8, 9, 10] (by decide +kernel) (by decide +kernel)
set_option maxRecDepth 20000 in
theorem gX1_equityOf_X1_translate : GoodIn wsX1_equityOf (va_wsS RX1 33 yX1_translate wsX1_translate) := goodIn_app (goodIn_of _ (by decide +kernel)) ggX1_equityOf_X1_translate
theorem dX1_equityOf_0 : decode cX1_equityOf 0 = .ok (.aload_n 0, 1) := by decide +kernel
theorem dX1_equityOf_1 : decode cX1_equityOf 1 = .ok (.getfield 18, 3) := by decide +kernel
theorem dX1_equityOf_4 : decode cX1_equityOf 4 = .ok (.iload_n 1, 1) := by decide +kernel
theorem dX1_equityOf_5 : decode cX1_equityOf 5 = .ok (.iaload, 1) := by decide +kernel
theorem dX1_equityOf_6 : decode cX1_equityOf 6 = .ok (.aload_n 0, 1) := by decide +kernel
theorem dX1_equityOf_7 : decode cX1_equityOf 7 = .ok (.getfield 30, 3) := by decide +kernel
theorem dX1_equityOf_10 : decode cX1_equityOf 10 = .ok (.iload_n 1, 1) := by decide +kernel
theorem dX1_equityOf_11 : decode cX1_equityOf 11 = .ok (.iaload, 1) := by decide +kernel
theorem dX1_equityOf_12 : decode cX1_equityOf 12 = .ok (.invokestatic 33, 3) := by decide +kernel
theorem dX1_equityOf_15 : decode cX1_equityOf 15 = .ok (.ireturn, 1) := by decide +kernel
set_option maxRecDepth 20000 in
theorem ggX1_profitOf_X1_translate : GoodIn wsX1_profitOf wsX1_translate := goodIn_r _ [6, 7, 8, 9, 10] (by decide +kernel) (by decide +kernel)
set_option maxRecDepth 20000 in
theorem gX1_profitOf_X1_translate : GoodIn wsX1_profitOf (va_wsS RX1 33 yX1_translate wsX1_translate) := goodIn_app (goodIn_of _ (by decide +kernel)) ggX1_profitOf_X1_translate
theorem dX1_profitOf_0 : decode cX1_profitOf 0 = .ok (.aload_n 0, 1) := by decide +kernel
theorem dX1_profitOf_1 : decode cX1_profitOf 1 = .ok (.getfield 21, 3) := by decide +kernel
theorem dX1_profitOf_4 : decode cX1_profitOf 4 = .ok (.iload_n 1, 1) := by decide +kernel
theorem dX1_profitOf_5 : decode cX1_profitOf 5 = .ok (.iaload, 1) := by decide +kernel
theorem dX1_profitOf_6 : decode cX1_profitOf 6 = .ok (.aload_n 0, 1) := by decide +kernel
theorem dX1_profitOf_7 : decode cX1_profitOf 7 = .ok (.getfield 27, 3) := by decide +kernel
theorem dX1_profitOf_10 : decode cX1_profitOf 10 = .ok (.iload_n 1, 1) := by decide +kernel
theorem dX1_profitOf_11 : decode cX1_profitOf 11 = .ok (.iaload, 1) := by decide +kernel
theorem dX1_profitOf_12 : decode cX1_profitOf 12 = .ok (.invokestatic 33, 3) := by decide +kernel
theorem dX1_profitOf_15 : decode cX1_profitOf 15 = .ok (.ireturn, 1) := by decide +kernel
set_option maxRecDepth 20000 in
theorem ggX1_netOf_X1_assetsOf : GoodIn wsX1_netOf wsX1_assetsOf := goodIn_r _ [5, 6, 7, 8, 9, 4, 10, 11, 12, 13, 14, 20, 21, 22, 23, 24, 25, 26] (by decide +kernel) (by decide +kernel)
set_option maxRecDepth 20000 in
theorem gX1_netOf_X1_assetsOf : GoodIn wsX1_netOf (wsV RX1 37 RX1 yX1_assetsOf wsX1_assetsOf) := goodIn_app (goodIn_of _ (by decide +kernel)) ggX1_netOf_X1_assetsOf
set_option maxRecDepth 20000 in
theorem ggX1_netOf_X1_debtsOf : GoodIn wsX1_netOf wsX1_debtsOf := goodIn_r _ [18, 19, 7, 8, 9, 4, 10, 11, 12, 13, 14, 20, 21, 22, 23, 24, 25, 26] (by decide +kernel) (by decide +kernel)
set_option maxRecDepth 20000 in
theorem gX1_netOf_X1_debtsOf : GoodIn wsX1_netOf (wsV RX1 41 RX1 yX1_debtsOf wsX1_debtsOf) := goodIn_app (goodIn_of _ (by decide +kernel)) ggX1_netOf_X1_debtsOf
theorem dX1_netOf_0 : decode cX1_netOf 0 = .ok (.aload_n 0, 1) := by decide +kernel
theorem dX1_netOf_1 : decode cX1_netOf 1 = .ok (.iload_n 1, 1) := by decide +kernel
theorem dX1_netOf_2 : decode cX1_netOf 2 = .ok (.invokevirtual 37, 3) := by decide +kernel
theorem dX1_netOf_5 : decode cX1_netOf 5 = .ok (.aload_n 0, 1) := by decide +kernel
theorem dX1_netOf_6 : decode cX1_netOf 6 = .ok (.iload_n 1, 1) := by decide +kernel
theorem dX1_netOf_7 : decode cX1_netOf 7 = .ok (.invokevirtual 41, 3) := by decide +kernel
theorem dX1_netOf_10 : decode cX1_netOf 10 = .ok (.isub, 1) := by decide +kernel
theorem dX1_netOf_11 : decode cX1_netOf 11 = .ok (.ireturn, 1) := by decide +kernel
set_option maxRecDepth 20000 in
theorem ggX1_translate_J9_floorDiv_7cf53 : GoodIn wsX1_translate wsJ9_floorDiv_7cf53 := goodIn_r _ [4] (by decide +kernel) (by decide +kernel)
set_option maxRecDepth 20000 in
theorem gX1_translate_J9_floorDiv_7cf53 : GoodIn wsX1_translate (va_wsS RX1 44 yJ9_floorDiv_7cf53 wsJ9_floorDiv_7cf53) := goodIn_app (goodIn_of _ (by decide +kernel)) ggX1_translate_J9_floorDiv_7cf53
theorem dX1_translate_0 : decode cX1_translate 0 = .ok (.iload_n 0, 1) := by decide +kernel
theorem dX1_translate_1 : decode cX1_translate 1 = .ok (.iload_n 1, 1) := by decide +kernel
theorem dX1_translate_2 : decode cX1_translate 2 = .ok (.imul, 1) := by decide +kernel
theorem dX1_translate_3 : decode cX1_translate 3 = .ok (.bipush 100, 2) := by decide +kernel
theorem dX1_translate_5 : decode cX1_translate 5 = .ok (.invokestatic 44, 3) := by decide +kernel
theorem dX1_translate_8 : decode cX1_translate 8 = .ok (.ireturn, 1) := by decide +kernel
theorem dX2_init_0 : decode cX2_init 0 = .ok (.aload_n 0, 1) := by decide +kernel
theorem dX2_init_1 : decode cX2_init 1 = .ok (.invokespecial 3, 3) := by decide +kernel
theorem dX2_init_4 : decode cX2_init 4 = .ok (.aload_n 0, 1) := by decide +kernel
theorem dX2_init_5 : decode cX2_init 5 = .ok (.bipush 36, 2) := by decide +kernel
theorem dX2_init_7 : decode cX2_init 7 = .ok (.newarray .int, 2) := by decide +kernel
theorem dX2_init_9 : decode cX2_init 9 = .ok (.putfield 9, 3) := by decide +kernel
theorem dX2_init_12 : decode cX2_init 12 = .ok (.aload_n 0, 1) := by decide +kernel
theorem dX2_init_13 : decode cX2_init 13 = .ok (.bipush 6, 2) := by decide +kernel
theorem dX2_init_15 : decode cX2_init 15 = .ok (.newarray .long, 2) := by decide +kernel
theorem dX2_init_17 : decode cX2_init 17 = .ok (.putfield 15, 3) := by decide +kernel
theorem dX2_init_20 : decode cX2_init 20 = .ok (.aload_n 0, 1) := by decide +kernel
theorem dX2_init_21 : decode cX2_init 21 = .ok (.bipush 6, 2) := by decide +kernel
theorem dX2_init_23 : decode cX2_init 23 = .ok (.newarray .long, 2) := by decide +kernel
theorem dX2_init_25 : decode cX2_init 25 = .ok (.putfield 19, 3) := by decide +kernel
theorem dX2_init_28 : decode cX2_init 28 = .ok (.aload_n 0, 1) := by decide +kernel
theorem dX2_init_29 : decode cX2_init 29 = .ok (.bipush 36, 2) := by decide +kernel
theorem dX2_init_31 : decode cX2_init 31 = .ok (.newarray .long, 2) := by decide +kernel
theorem dX2_init_33 : decode cX2_init 33 = .ok (.putfield 22, 3) := by decide +kernel
theorem dX2_init_36 : decode cX2_init 36 = .ok (.aload_n 0, 1) := by decide +kernel
theorem dX2_init_37 : decode cX2_init 37 = .ok (.bipush 6, 2) := by decide +kernel
theorem dX2_init_39 : decode cX2_init 39 = .ok (.newarray .int, 2) := by decide +kernel
theorem dX2_init_41 : decode cX2_init 41 = .ok (.putfield 25, 3) := by decide +kernel
theorem dX2_init_44 : decode cX2_init 44 = .ok (.aload_n 0, 1) := by decide +kernel
theorem dX2_init_45 : decode cX2_init 45 = .ok (.bipush 6, 2) := by decide +kernel
theorem dX2_init_47 : decode cX2_init 47 = .ok (.newarray .int, 2) := by decide +kernel
theorem dX2_init_49 : decode cX2_init 49 = .ok (.putfield 28, 3) := by decide +kernel
theorem dX2_init_52 : decode cX2_init 52 = .ok (.iconst 0, 1) := by decide +kernel
theorem dX2_init_53 : decode cX2_init 53 = .ok (.istore_n 1, 1) := by decide +kernel
theorem dX2_init_54 : decode cX2_init 54 = .ok (.iload_n 1, 1) := by decide +kernel
theorem dX2_init_55 : decode cX2_init 55 = .ok (.bipush 6, 2) := by decide +kernel
theorem dX2_init_57 : decode cX2_init 57 = .ok (.if_icmp .ge 31, 3) := by decide +kernel
theorem dX2_init_60 : decode cX2_init 60 = .ok (.aload_n 0, 1) := by decide +kernel
theorem dX2_init_61 : decode cX2_init 61 = .ok (.getfield 15, 3) := by decide +kernel
theorem dX2_init_64 : decode cX2_init 64 = .ok (.iload_n 1, 1) := by decide +kernel
theorem dX2_init_65 : decode cX2_init 65 = .ok (.iload_n 1, 1) := by decide +kernel
theorem dX2_init_66 : decode cX2_init 66 = .ok (.ifCond .ne 7, 3) := by decide +kernel
theorem dX2_init_69 : decode cX2_init 69 = .ok (.lconst 1, 1) := by decide +kernel
theorem dX2_init_70 : decode cX2_init 70 = .ok (.goto 4, 3) := by decide +kernel
theorem dX2_init_73 : decode cX2_init 73 = .ok (.lconst 0, 1) := by decide +kernel
theorem dX2_init_74 : decode cX2_init 74 = .ok (.lastore, 1) := by decide +kernel
theorem dX2_init_75 : decode cX2_init 75 = .ok (.aload_n 0, 1) := by decide +kernel
theorem dX2_init_76 : decode cX2_init 76 = .ok (.getfield 19, 3) := by decide +kernel
theorem dX2_init_79 : decode cX2_init 79 = .ok (.iload_n 1, 1) := by decide +kernel
theorem dX2_init_80 : decode cX2_init 80 = .ok (.lconst 1, 1) := by decide +kernel
theorem dX2_init_81 : decode cX2_init 81 = .ok (.lastore, 1) := by decide +kernel
theorem dX2_init_82 : decode cX2_init 82 = .ok (.iinc 1 1, 3) := by decide +kernel
theorem dX2_init_85 : decode cX2_init 85 = .ok (.goto (-31), 3) := by decide +kernel
theorem dX2_init_88 : decode cX2_init 88 = .ok (.return_, 1) := by decide +kernel
set_option maxRecDepth 20000 in
theorem ggX2_percentOf_X3_pair : GoodIn wsX2_percentOf wsX3_pair := goodIn_r _ [4] (by decide +kernel) (by decide +kernel)
set_option maxRecDepth 20000 in
theorem gX2_percentOf_X3_pair_n31 : GoodIn wsX2_percentOf (wsX3_pair) := ggX2_percentOf_X3_pair
theorem dX2_percentOf_0 : decode cX2_percentOf 0 = .ok (.aload_n 0, 1) := by decide +kernel
theorem dX2_percentOf_1 : decode cX2_percentOf 1 = .ok (.getfield 9, 3) := by decide +kernel
theorem dX2_percentOf_4 : decode cX2_percentOf 4 = .ok (.iload_n 1, 1) := by decide +kernel
theorem dX2_percentOf_5 : decode cX2_percentOf 5 = .ok (.iload_n 2, 1) := by decide +kernel
theorem dX2_percentOf_6 : decode cX2_percentOf 6 = .ok (.invokestatic 31, 3) := by decide +kernel
theorem dX2_percentOf_9 : decode cX2_percentOf 9 = .ok (.iaload, 1) := by decide +kernel
theorem dX2_percentOf_10 : decode cX2_percentOf 10 = .ok (.ireturn, 1) := by decide +kernel
theorem dX2_numeratorOf_0 : decode cX2_numeratorOf 0 = .ok (.aload_n 0, 1) := by decide +kernel
theorem dX2_numeratorOf_1 : decode cX2_numeratorOf 1 = .ok (.getfield 15, 3) := by decide +kernel
theorem dX2_numeratorOf_4 : decode cX2_numeratorOf 4 = .ok (.iload_n 1, 1) := by decide +kernel
theorem dX2_numeratorOf_5 : decode cX2_numeratorOf 5 = .ok (.laload, 1) := by decide +kernel
theorem dX2_numeratorOf_6 : decode cX2_numeratorOf 6 = .ok (.lreturn, 1) := by decide +kernel
theorem dX2_denominatorOf_0 : decode cX2_denominatorOf 0 = .ok (.aload_n 0, 1) := by decide +kernel
theorem dX2_denominatorOf_1 : decode cX2_denominatorOf 1 = .ok (.getfield 19, 3) := by decide +kernel
theorem dX2_denominatorOf_4 : decode cX2_denominatorOf 4 = .ok (.iload_n 1, 1) := by decide +kernel
theorem dX2_denominatorOf_5 : decode cX2_denominatorOf 5 = .ok (.laload, 1) := by decide +kernel
theorem dX2_denominatorOf_6 : decode cX2_denominatorOf 6 = .ok (.lreturn, 1) := by decide +kernel
set_option maxRecDepth 20000 in
theorem ggX2_partOfParent_X2_scale : GoodIn wsX2_partOfParent wsX2_scale := goodIn_r _ [6, 7, 8, 9, 10] (by decide +kernel) (by decide +kernel)
set_option maxRecDepth 20000 in
theorem gX2_partOfParent_X2_scale : GoodIn wsX2_partOfParent (va_wsS RX2 35 yX2_scale wsX2_scale) := goodIn_app (goodIn_of _ (by decide +kernel)) ggX2_partOfParent_X2_scale
theorem dX2_partOfParent_0 : decode cX2_partOfParent 0 = .ok (.iload_n 2, 1) := by decide +kernel
theorem dX2_partOfParent_1 : decode cX2_partOfParent 1 = .ok (.aload_n 0, 1) := by decide +kernel
theorem dX2_partOfParent_2 : decode cX2_partOfParent 2 = .ok (.getfield 15, 3) := by decide +kernel
theorem dX2_partOfParent_5 : decode cX2_partOfParent 5 = .ok (.iload_n 1, 1) := by decide +kernel
theorem dX2_partOfParent_6 : decode cX2_partOfParent 6 = .ok (.laload, 1) := by decide +kernel
theorem dX2_partOfParent_7 : decode cX2_partOfParent 7 = .ok (.aload_n 0, 1) := by decide +kernel
theorem dX2_partOfParent_8 : decode cX2_partOfParent 8 = .ok (.getfield 19, 3) := by decide +kernel
theorem dX2_partOfParent_11 : decode cX2_partOfParent 11 = .ok (.iload_n 1, 1) := by decide +kernel
theorem dX2_partOfParent_12 : decode cX2_partOfParent 12 = .ok (.laload, 1) := by decide +kernel
theorem dX2_partOfParent_13 : decode cX2_partOfParent 13 = .ok (.invokestatic 35, 3) := by decide +kernel
theorem dX2_partOfParent_16 : decode cX2_partOfParent 16 = .ok (.ireturn, 1) := by decide +kernel
set_option maxRecDepth 20000 in
theorem ggX2_partOfOthers_X2_scale : GoodIn wsX2_partOfOthers wsX2_scale := goodIn_r _ [6, 7, 8, 9, 10] (by decide +kernel) (by decide +kernel)
set_option maxRecDepth 20000 in
theorem gX2_partOfOthers_X2_scale : GoodIn wsX2_partOfOthers (va_wsS RX2 35 yX2_scale wsX2_scale) := goodIn_app (goodIn_of _ (by decide +kernel)) ggX2_partOfOthers_X2_scale
theorem dX2_partOfOthers_0 : decode cX2_partOfOthers 0 = .ok (.aload_n 0, 1) := by decide +kernel
theorem dX2_partOfOthers_1 : decode cX2_partOfOthers 1 = .ok (.getfield 19, 3) := by decide +kernel
theorem dX2_partOfOthers_4 : decode cX2_partOfOthers 4 = .ok (.iload_n 1, 1) := by decide +kernel
theorem dX2_partOfOthers_5 : decode cX2_partOfOthers 5 = .ok (.laload, 1) := by decide +kernel
theorem dX2_partOfOthers_6 : decode cX2_partOfOthers 6 = .ok (.aload_n 0, 1) := by decide +kernel
theorem dX2_partOfOthers_7 : decode cX2_partOfOthers 7 = .ok (.getfield 15, 3) := by decide +kernel
theorem dX2_partOfOthers_10 : decode cX2_partOfOthers 10 = .ok (.iload_n 1, 1) := by decide +kernel
theorem dX2_partOfOthers_11 : decode cX2_partOfOthers 11 = .ok (.laload, 1) := by decide +kernel
theorem dX2_partOfOthers_12 : decode cX2_partOfOthers 12 = .ok (.lsub, 1) := by decide +kernel
theorem dX2_partOfOthers_13 : decode cX2_partOfOthers 13 = .ok (.lstore_n 3, 1) := by decide +kernel
theorem dX2_partOfOthers_14 : decode cX2_partOfOthers 14 = .ok (.iload_n 2, 1) := by decide +kernel
theorem dX2_partOfOthers_15 : decode cX2_partOfOthers 15 = .ok (.lload_n 3, 1) := by decide +kernel
theorem dX2_partOfOthers_16 : decode cX2_partOfOthers 16 = .ok (.aload_n 0, 1) := by decide +kernel
theorem dX2_partOfOthers_17 : decode cX2_partOfOthers 17 = .ok (.getfield 19, 3) := by decide +kernel
theorem dX2_partOfOthers_20 : decode cX2_partOfOthers 20 = .ok (.iload_n 1, 1) := by decide +kernel
theorem dX2_partOfOthers_21 : decode cX2_partOfOthers 21 = .ok (.laload, 1) := by decide +kernel
theorem dX2_partOfOthers_22 : decode cX2_partOfOthers 22 = .ok (.invokestatic 35, 3) := by decide +kernel
theorem dX2_partOfOthers_25 : decode cX2_partOfOthers 25 = .ok (.ireturn, 1) := by decide +kernel
set_option maxRecDepth 20000 in
theorem ggX2_scale_J9_floorDiv_f86c9 : GoodIn wsX2_scale wsJ9_floorDiv_f86c9 := goodIn_r _ [4] (by decide +kernel) (by decide +kernel)
set_option maxRecDepth 20000 in
theorem gX2_scale_J9_floorDiv_f86c9 : GoodIn wsX2_scale (va_wsS RX2 39 yJ9_floorDiv_f86c9 wsJ9_floorDiv_f86c9) := goodIn_app (goodIn_of _ (by decide +kernel)) ggX2_scale_J9_floorDiv_f86c9
theorem dX2_scale_0 : decode cX2_scale 0 = .ok (.lload_n 3, 1) := by decide +kernel
theorem dX2_scale_1 : decode cX2_scale 1 = .ok (.lconst 0, 1) := by decide +kernel
theorem dX2_scale_2 : decode cX2_scale 2 = .ok (.lcmp, 1) := by decide +kernel
theorem dX2_scale_3 : decode cX2_scale 3 = .ok (.ifCond .le 15, 3) := by decide +kernel
theorem dX2_scale_6 : decode cX2_scale 6 = .ok (.iload_n 0, 1) := by decide +kernel
theorem dX2_scale_7 : decode cX2_scale 7 = .ok (.i2l, 1) := by decide +kernel
theorem dX2_scale_8 : decode cX2_scale 8 = .ok (.lload_n 1, 1) := by decide +kernel
theorem dX2_scale_9 : decode cX2_scale 9 = .ok (.lmul, 1) := by decide +kernel
theorem dX2_scale_10 : decode cX2_scale 10 = .ok (.lload_n 3, 1) := by decide +kernel
theorem dX2_scale_11 : decode cX2_scale 11 = .ok (.invokestatic 39, 3) := by decide +kernel
theorem dX2_scale_14 : decode cX2_scale 14 = .ok (.l2i, 1) := by decide +kernel
theorem dX2_scale_15 : decode cX2_scale 15 = .ok (.goto 4, 3) := by decide +kernel
theorem dX2_scale_18 : decode cX2_scale 18 = .ok (.iconst 0, 1) := by decide +kernel
theorem dX2_scale_19 : decode cX2_scale 19 = .ok (.ireturn, 1) := by decide +kernel
set_option maxRecDepth 20000 in
theorem ggX2_millionthsAfter_X2_playRound : GoodIn wsX2_millionthsAfter wsX2_playRound := goodIn_r _ [7, 8, 1, 9, 10, 11, 12, 13, 14, 15, 16, 17, 18] (by decide +kernel) (by decide +kernel)
set_option maxRecDepth 20000 in
theorem gX2_millionthsAfter_X2_playRound : GoodIn wsX2_millionthsAfter (wsV RX2 74 RX2 yX2_playRound wsX2_playRound) := goodIn_app (goodIn_of _ (by decide +kernel)) ggX2_millionthsAfter_X2_playRound
theorem dX2_millionthsAfter_0 : decode cX2_millionthsAfter 0 = .ok (.iconst 0, 1) := by decide +kernel
theorem dX2_millionthsAfter_1 : decode cX2_millionthsAfter 1 = .ok (.istore_n 3, 1) := by decide +kernel
theorem dX2_millionthsAfter_2 : decode cX2_millionthsAfter 2 = .ok (.iload_n 3, 1) := by decide +kernel
theorem dX2_millionthsAfter_3 : decode cX2_millionthsAfter 3 = .ok (.bipush 6, 2) := by decide +kernel
theorem dX2_millionthsAfter_5 : decode cX2_millionthsAfter 5 = .ok (.if_icmp .ge 25, 3) := by decide +kernel
theorem dX2_millionthsAfter_8 : decode cX2_millionthsAfter 8 = .ok (.aload_n 0, 1) := by decide +kernel
theorem dX2_millionthsAfter_9 : decode cX2_millionthsAfter 9 = .ok (.getfield 25, 3) := by decide +kernel
theorem dX2_millionthsAfter_12 : decode cX2_millionthsAfter 12 = .ok (.iload_n 3, 1) := by decide +kernel
theorem dX2_millionthsAfter_13 : decode cX2_millionthsAfter 13 = .ok (.iload_n 3, 1) := by decide +kernel
theorem dX2_millionthsAfter_14 : decode cX2_millionthsAfter 14 = .ok (.ifCond .ne 8, 3) := by decide +kernel
theorem dX2_millionthsAfter_17 : decode cX2_millionthsAfter 17 = .ok (.ldc 73, 2) := by decide +kernel
theorem dX2_millionthsAfter_19 : decode cX2_millionthsAfter 19 = .ok (.goto 4, 3) := by decide +kernel
theorem dX2_millionthsAfter_22 : decode cX2_millionthsAfter 22 = .ok (.iconst 0, 1) := by decide +kernel
theorem dX2_millionthsAfter_23 : decode cX2_millionthsAfter 23 = .ok (.iastore, 1) := by decide +kernel
theorem dX2_millionthsAfter_24 : decode cX2_millionthsAfter 24 = .ok (.iinc 3 1, 3) := by decide +kernel
theorem dX2_millionthsAfter_27 : decode cX2_millionthsAfter 27 = .ok (.goto (-25), 3) := by decide +kernel
theorem dX2_millionthsAfter_30 : decode cX2_millionthsAfter 30 = .ok (.iconst 0, 1) := by decide +kernel
theorem dX2_millionthsAfter_31 : decode cX2_millionthsAfter 31 = .ok (.istore_n 3, 1) := by decide +kernel
theorem dX2_millionthsAfter_32 : decode cX2_millionthsAfter 32 = .ok (.iload_n 3, 1) := by decide +kernel
theorem dX2_millionthsAfter_33 : decode cX2_millionthsAfter 33 = .ok (.iload_n 1, 1) := by decide +kernel
theorem dX2_millionthsAfter_34 : decode cX2_millionthsAfter 34 = .ok (.if_icmp .ge 13, 3) := by decide +kernel
theorem dX2_millionthsAfter_37 : decode cX2_millionthsAfter 37 = .ok (.aload_n 0, 1) := by decide +kernel
theorem dX2_millionthsAfter_38 : decode cX2_millionthsAfter 38 = .ok (.invokevirtual 74, 3) := by decide +kernel
theorem dX2_millionthsAfter_41 : decode cX2_millionthsAfter 41 = .ok (.iinc 3 1, 3) := by decide +kernel
theorem dX2_millionthsAfter_44 : decode cX2_millionthsAfter 44 = .ok (.goto (-12), 3) := by decide +kernel
theorem dX2_millionthsAfter_47 : decode cX2_millionthsAfter 47 = .ok (.aload_n 0, 1) := by decide +kernel
theorem dX2_millionthsAfter_48 : decode cX2_millionthsAfter 48 = .ok (.getfield 25, 3) := by decide +kernel
theorem dX2_millionthsAfter_51 : decode cX2_millionthsAfter 51 = .ok (.iload_n 2, 1) := by decide +kernel
theorem dX2_millionthsAfter_52 : decode cX2_millionthsAfter 52 = .ok (.iaload, 1) := by decide +kernel
theorem dX2_millionthsAfter_53 : decode cX2_millionthsAfter 53 = .ok (.ireturn, 1) := by decide +kernel
set_option maxRecDepth 20000 in
theorem ggX2_playRound_X3_pair : GoodIn wsX2_playRound wsX3_pair := goodIn_r _ [6] (by decide +kernel) (by decide +kernel)
set_option maxRecDepth 20000 in
theorem gX2_playRound_X3_pair_n31 : GoodIn wsX2_playRound (wsX3_pair) := ggX2_playRound_X3_pair
theorem dX2_playRound_0 : decode cX2_playRound 0 = .ok (.iconst 1, 1) := by decide +kernel
theorem dX2_playRound_1 : decode cX2_playRound 1 = .ok (.istore_n 1, 1) := by decide +kernel
theorem dX2_playRound_2 : decode cX2_playRound 2 = .ok (.iload_n 1, 1) := by decide +kernel
theorem dX2_playRound_3 : decode cX2_playRound 3 = .ok (.bipush 6, 2) := by decide +kernel
theorem dX2_playRound_5 : decode cX2_playRound 5 = .ok (.if_icmp .ge 55, 3) := by decide +kernel
theorem dX2_playRound_8 : decode cX2_playRound 8 = .ok (.iconst 0, 1) := by decide +kernel
theorem dX2_playRound_9 : decode cX2_playRound 9 = .ok (.istore_n 2, 1) := by decide +kernel
theorem dX2_playRound_10 : decode cX2_playRound 10 = .ok (.iconst 0, 1) := by decide +kernel
theorem dX2_playRound_11 : decode cX2_playRound 11 = .ok (.istore_n 3, 1) := by decide +kernel
theorem dX2_playRound_12 : decode cX2_playRound 12 = .ok (.iload_n 3, 1) := by decide +kernel
theorem dX2_playRound_13 : decode cX2_playRound 13 = .ok (.bipush 6, 2) := by decide +kernel
theorem dX2_playRound_15 : decode cX2_playRound 15 = .ok (.if_icmp .ge 29, 3) := by decide +kernel
theorem dX2_playRound_18 : decode cX2_playRound 18 = .ok (.iload_n 2, 1) := by decide +kernel
theorem dX2_playRound_19 : decode cX2_playRound 19 = .ok (.aload_n 0, 1) := by decide +kernel
theorem dX2_playRound_20 : decode cX2_playRound 20 = .ok (.getfield 9, 3) := by decide +kernel
theorem dX2_playRound_23 : decode cX2_playRound 23 = .ok (.iload_n 3, 1) := by decide +kernel
theorem dX2_playRound_24 : decode cX2_playRound 24 = .ok (.iload_n 1, 1) := by decide +kernel
theorem dX2_playRound_25 : decode cX2_playRound 25 = .ok (.invokestatic 31, 3) := by decide +kernel
theorem dX2_playRound_28 : decode cX2_playRound 28 = .ok (.iaload, 1) := by decide +kernel
theorem dX2_playRound_29 : decode cX2_playRound 29 = .ok (.aload_n 0, 1) := by decide +kernel
theorem dX2_playRound_30 : decode cX2_playRound 30 = .ok (.getfield 25, 3) := by decide +kernel
theorem dX2_playRound_33 : decode cX2_playRound 33 = .ok (.iload_n 3, 1) := by decide +kernel
theorem dX2_playRound_34 : decode cX2_playRound 34 = .ok (.iaload, 1) := by decide +kernel
theorem dX2_playRound_35 : decode cX2_playRound 35 = .ok (.imul, 1) := by decide +kernel
theorem dX2_playRound_36 : decode cX2_playRound 36 = .ok (.iadd, 1) := by decide +kernel
theorem dX2_playRound_37 : decode cX2_playRound 37 = .ok (.istore_n 2, 1) := by decide +kernel
theorem dX2_playRound_38 : decode cX2_playRound 38 = .ok (.iinc 3 1, 3) := by decide +kernel
theorem dX2_playRound_41 : decode cX2_playRound 41 = .ok (.goto (-29), 3) := by decide +kernel
theorem dX2_playRound_44 : decode cX2_playRound 44 = .ok (.aload_n 0, 1) := by decide +kernel
theorem dX2_playRound_45 : decode cX2_playRound 45 = .ok (.getfield 28, 3) := by decide +kernel
theorem dX2_playRound_48 : decode cX2_playRound 48 = .ok (.iload_n 1, 1) := by decide +kernel
theorem dX2_playRound_49 : decode cX2_playRound 49 = .ok (.iload_n 2, 1) := by decide +kernel
theorem dX2_playRound_50 : decode cX2_playRound 50 = .ok (.bipush 100, 2) := by decide +kernel
theorem dX2_playRound_52 : decode cX2_playRound 52 = .ok (.idiv, 1) := by decide +kernel
theorem dX2_playRound_53 : decode cX2_playRound 53 = .ok (.iastore, 1) := by decide +kernel
theorem dX2_playRound_54 : decode cX2_playRound 54 = .ok (.iinc 1 1, 3) := by decide +kernel
theorem dX2_playRound_57 : decode cX2_playRound 57 = .ok (.goto (-55), 3) := by decide +kernel
theorem dX2_playRound_60 : decode cX2_playRound 60 = .ok (.iconst 1, 1) := by decide +kernel
theorem dX2_playRound_61 : decode cX2_playRound 61 = .ok (.istore_n 1, 1) := by decide +kernel
theorem dX2_playRound_62 : decode cX2_playRound 62 = .ok (.iload_n 1, 1) := by decide +kernel
theorem dX2_playRound_63 : decode cX2_playRound 63 = .ok (.bipush 6, 2) := by decide +kernel
theorem dX2_playRound_65 : decode cX2_playRound 65 = .ok (.if_icmp .ge 21, 3) := by decide +kernel
theorem dX2_playRound_68 : decode cX2_playRound 68 = .ok (.aload_n 0, 1) := by decide +kernel
theorem dX2_playRound_69 : decode cX2_playRound 69 = .ok (.getfield 25, 3) := by decide +kernel
theorem dX2_playRound_72 : decode cX2_playRound 72 = .ok (.iload_n 1, 1) := by decide +kernel
theorem dX2_playRound_73 : decode cX2_playRound 73 = .ok (.aload_n 0, 1) := by decide +kernel
theorem dX2_playRound_74 : decode cX2_playRound 74 = .ok (.getfield 28, 3) := by decide +kernel
theorem dX2_playRound_77 : decode cX2_playRound 77 = .ok (.iload_n 1, 1) := by decide +kernel
theorem dX2_playRound_78 : decode cX2_playRound 78 = .ok (.iaload, 1) := by decide +kernel
theorem dX2_playRound_79 : decode cX2_playRound 79 = .ok (.iastore, 1) := by decide +kernel
theorem dX2_playRound_80 : decode cX2_playRound 80 = .ok (.iinc 1 1, 3) := by decide +kernel
theorem dX2_playRound_83 : decode cX2_playRound 83 = .ok (.goto (-21), 3) := by decide +kernel
theorem dX2_playRound_86 : decode cX2_playRound 86 = .ok (.return_, 1) := by decide +kernel
set_option maxRecDepth 20000 in
theorem ggX2_members_X2_withControlled : GoodIn wsX2_members wsX2_withControlled := goodIn_r _ [5, 6, 7, 8, 4, 9, 10, 11, 12, 13, 14, 15, 16, 17, 18, 19, 20, 21] (by decide +kernel) (by decide +kernel)
set_option maxRecDepth 20000 in
theorem gX2_members_X2_withControlled : GoodIn wsX2_members (wsV RX2 77 RX2 yX2_withControlled wsX2_withControlled) := goodIn_app (goodIn_of _ (by decide +kernel)) ggX2_members_X2_withControlled
theorem dX2_members_0 : decode cX2_members 0 = .ok (.iconst 1, 1) := by decide +kernel
theorem dX2_members_1 : decode cX2_members 1 = .ok (.istore_n 1, 1) := by decide +kernel
theorem dX2_members_2 : decode cX2_members 2 = .ok (.iconst 1, 1) := by decide +kernel
theorem dX2_members_3 : decode cX2_members 3 = .ok (.istore_n 2, 1) := by decide +kernel
theorem dX2_members_4 : decode cX2_members 4 = .ok (.iload_n 2, 1) := by decide +kernel
theorem dX2_members_5 : decode cX2_members 5 = .ok (.bipush 6, 2) := by decide +kernel
theorem dX2_members_7 : decode cX2_members 7 = .ok (.if_icmp .ge 15, 3) := by decide +kernel
theorem dX2_members_10 : decode cX2_members 10 = .ok (.aload_n 0, 1) := by decide +kernel
theorem dX2_members_11 : decode cX2_members 11 = .ok (.iload_n 1, 1) := by decide +kernel
theorem dX2_members_12 : decode cX2_members 12 = .ok (.invokevirtual 77, 3) := by decide +kernel
theorem dX2_members_15 : decode cX2_members 15 = .ok (.istore_n 1, 1) := by decide +kernel
theorem dX2_members_16 : decode cX2_members 16 = .ok (.iinc 2 1, 3) := by decide +kernel
theorem dX2_members_19 : decode cX2_members 19 = .ok (.goto (-15), 3) := by decide +kernel
theorem dX2_members_22 : decode cX2_members 22 = .ok (.iload_n 1, 1) := by decide +kernel
theorem dX2_members_23 : decode cX2_members 23 = .ok (.ireturn, 1) := by decide +kernel
set_option maxRecDepth 20000 in
theorem ggX2_withControlled_X2_heldAmong : GoodIn wsX2_withControlled wsX2_heldAmong := goodIn_r _ [5, 6, 7, 8, 9, 10, 11, 12, 13, 14, 15, 16, 17] (by decide +kernel) (by decide +kernel)
set_option maxRecDepth 20000 in
theorem gX2_withControlled_X2_heldAmong : GoodIn wsX2_withControlled (wsV RX2 80 RX2 yX2_heldAmong wsX2_heldAmong) := goodIn_app (goodIn_of _ (by decide +kernel)) ggX2_withControlled_X2_heldAmong
theorem dX2_withControlled_0 : decode cX2_withControlled 0 = .ok (.iload_n 1, 1) := by decide +kernel
theorem dX2_withControlled_1 : decode cX2_withControlled 1 = .ok (.istore_n 2, 1) := by decide +kernel
theorem dX2_withControlled_2 : decode cX2_withControlled 2 = .ok (.iconst 1, 1) := by decide +kernel
theorem dX2_withControlled_3 : decode cX2_withControlled 3 = .ok (.istore_n 3, 1) := by decide +kernel
theorem dX2_withControlled_4 : decode cX2_withControlled 4 = .ok (.iload_n 3, 1) := by decide +kernel
theorem dX2_withControlled_5 : decode cX2_withControlled 5 = .ok (.bipush 6, 2) := by decide +kernel
theorem dX2_withControlled_7 : decode cX2_withControlled 7 = .ok (.if_icmp .ge 26, 3) := by decide +kernel
theorem dX2_withControlled_10 : decode cX2_withControlled 10 = .ok (.aload_n 0, 1) := by decide +kernel
theorem dX2_withControlled_11 : decode cX2_withControlled 11 = .ok (.iload_n 1, 1) := by decide +kernel
theorem dX2_withControlled_12 : decode cX2_withControlled 12 = .ok (.iload_n 3, 1) := by decide +kernel
theorem dX2_withControlled_13 : decode cX2_withControlled 13 = .ok (.invokevirtual 80, 3) := by decide +kernel
theorem dX2_withControlled_16 : decode cX2_withControlled 16 = .ok (.bipush 50, 2) := by decide +kernel
theorem dX2_withControlled_18 : decode cX2_withControlled 18 = .ok (.if_icmp .le 9, 3) := by decide +kernel
theorem dX2_withControlled_21 : decode cX2_withControlled 21 = .ok (.iload_n 2, 1) := by decide +kernel
theorem dX2_withControlled_22 : decode cX2_withControlled 22 = .ok (.iconst 1, 1) := by decide +kernel
theorem dX2_withControlled_23 : decode cX2_withControlled 23 = .ok (.iload_n 3, 1) := by decide +kernel
theorem dX2_withControlled_24 : decode cX2_withControlled 24 = .ok (.ishl, 1) := by decide +kernel
theorem dX2_withControlled_25 : decode cX2_withControlled 25 = .ok (.ior, 1) := by decide +kernel
theorem dX2_withControlled_26 : decode cX2_withControlled 26 = .ok (.istore_n 2, 1) := by decide +kernel
theorem dX2_withControlled_27 : decode cX2_withControlled 27 = .ok (.iinc 3 1, 3) := by decide +kernel
theorem dX2_withControlled_30 : decode cX2_withControlled 30 = .ok (.goto (-26), 3) := by decide +kernel
theorem dX2_withControlled_33 : decode cX2_withControlled 33 = .ok (.iload_n 2, 1) := by decide +kernel
theorem dX2_withControlled_34 : decode cX2_withControlled 34 = .ok (.ireturn, 1) := by decide +kernel
set_option maxRecDepth 20000 in
theorem ggX2_heldAmong_X3_isMember : GoodIn wsX2_heldAmong wsX3_isMember := goodIn_r _ [4] (by decide +kernel) (by decide +kernel)
set_option maxRecDepth 20000 in
theorem gX2_heldAmong_X3_isMember_n83 : GoodIn wsX2_heldAmong (wsX3_isMember) := ggX2_heldAmong_X3_isMember
set_option maxRecDepth 20000 in
theorem ggX2_heldAmong_X3_pair : GoodIn wsX2_heldAmong wsX3_pair := goodIn_r _ [6] (by decide +kernel) (by decide +kernel)
set_option maxRecDepth 20000 in
theorem gX2_heldAmong_X3_pair_n31 : GoodIn wsX2_heldAmong (wsX3_pair) := ggX2_heldAmong_X3_pair
theorem dX2_heldAmong_0 : decode cX2_heldAmong 0 = .ok (.iconst 0, 1) := by decide +kernel
theorem dX2_heldAmong_1 : decode cX2_heldAmong 1 = .ok (.istore_n 3, 1) := by decide +kernel
theorem dX2_heldAmong_2 : decode cX2_heldAmong 2 = .ok (.iconst 0, 1) := by decide +kernel
theorem dX2_heldAmong_3 : decode cX2_heldAmong 3 = .ok (.istore 4, 2) := by decide +kernel
theorem dX2_heldAmong_5 : decode cX2_heldAmong 5 = .ok (.iload 4, 2) := by decide +kernel
theorem dX2_heldAmong_7 : decode cX2_heldAmong 7 = .ok (.bipush 6, 2) := by decide +kernel
theorem dX2_heldAmong_9 : decode cX2_heldAmong 9 = .ok (.if_icmp .ge 32, 3) := by decide +kernel
theorem dX2_heldAmong_12 : decode cX2_heldAmong 12 = .ok (.iload_n 1, 1) := by decide +kernel
theorem dX2_heldAmong_13 : decode cX2_heldAmong 13 = .ok (.iload 4, 2) := by decide +kernel
theorem dX2_heldAmong_15 : decode cX2_heldAmong 15 = .ok (.invokestatic 83, 3) := by decide +kernel
theorem dX2_heldAmong_18 : decode cX2_heldAmong 18 = .ok (.ifCond .eq 17, 3) := by decide +kernel
theorem dX2_heldAmong_21 : decode cX2_heldAmong 21 = .ok (.iload_n 3, 1) := by decide +kernel
theorem dX2_heldAmong_22 : decode cX2_heldAmong 22 = .ok (.aload_n 0, 1) := by decide +kernel
theorem dX2_heldAmong_23 : decode cX2_heldAmong 23 = .ok (.getfield 9, 3) := by decide +kernel
theorem dX2_heldAmong_26 : decode cX2_heldAmong 26 = .ok (.iload 4, 2) := by decide +kernel
theorem dX2_heldAmong_28 : decode cX2_heldAmong 28 = .ok (.iload_n 2, 1) := by decide +kernel
theorem dX2_heldAmong_29 : decode cX2_heldAmong 29 = .ok (.invokestatic 31, 3) := by decide +kernel
theorem dX2_heldAmong_32 : decode cX2_heldAmong 32 = .ok (.iaload, 1) := by decide +kernel
theorem dX2_heldAmong_33 : decode cX2_heldAmong 33 = .ok (.iadd, 1) := by decide +kernel
theorem dX2_heldAmong_34 : decode cX2_heldAmong 34 = .ok (.istore_n 3, 1) := by decide +kernel
theorem dX2_heldAmong_35 : decode cX2_heldAmong 35 = .ok (.iinc 4 1, 3) := by decide +kernel
theorem dX2_heldAmong_38 : decode cX2_heldAmong 38 = .ok (.goto (-33), 3) := by decide +kernel
theorem dX2_heldAmong_41 : decode cX2_heldAmong 41 = .ok (.iload_n 3, 1) := by decide +kernel
theorem dX2_heldAmong_42 : decode cX2_heldAmong 42 = .ok (.ireturn, 1) := by decide +kernel
set_option maxRecDepth 20000 in
theorem ggX3_init_X2_init : GoodIn wsX3_init wsX2_init := goodIn_r _ [21, 22, 2, 3, 16, 23, 24, 25, 26, 27, 28, 29, 45, 46, 47, 48, 49, 50] (by decide +kernel) (by decide +kernel)
set_option maxRecDepth 20000 in
theorem gX3_init_X2_init_n9 : GoodIn wsX3_init (wsX2_init) := ggX3_init_X2_init
set_option maxRecDepth 20000 in
theorem ggX3_init_X1_init : GoodIn wsX3_init wsX1_init := goodIn_r _ [31, 32, 2, 3, 16, 33, 34, 35, 36, 37, 38, 39, 57, 58, 59, 60, 61, 62, 63] (by decide +kernel) (by decide +kernel)
set_option maxRecDepth 20000 in
theorem gX3_init_X1_init_n18 : GoodIn wsX3_init (wsX1_init) := ggX3_init_X1_init
set_option maxRecDepth 20000 in
theorem ggX3_init_X0_init : GoodIn wsX3_init wsX0_init := goodIn_r _ [41, 42, 2, 3, 16, 43, 44, 64, 65] (by decide +kernel) (by decide +kernel)
set_option maxRecDepth 20000 in
theorem gX3_init_X0_init_n25 : GoodIn wsX3_init (wsX0_init) := ggX3_init_X0_init
theorem dX3_init_0 : decode cX3_init 0 = .ok (.aload_n 0, 1) := by decide +kernel
theorem dX3_init_1 : decode cX3_init 1 = .ok (.invokespecial 1, 3) := by decide +kernel
theorem dX3_init_4 : decode cX3_init 4 = .ok (.aload_n 0, 1) := by decide +kernel
theorem dX3_init_5 : decode cX3_init 5 = .ok (.new 7, 3) := by decide +kernel
theorem dX3_init_8 : decode cX3_init 8 = .ok (.dup, 1) := by decide +kernel
theorem dX3_init_9 : decode cX3_init 9 = .ok (.invokespecial 9, 3) := by decide +kernel
theorem dX3_init_12 : decode cX3_init 12 = .ok (.putfield 10, 3) := by decide +kernel
theorem dX3_init_15 : decode cX3_init 15 = .ok (.aload_n 0, 1) := by decide +kernel
theorem dX3_init_16 : decode cX3_init 16 = .ok (.new 16, 3) := by decide +kernel
theorem dX3_init_19 : decode cX3_init 19 = .ok (.dup, 1) := by decide +kernel
theorem dX3_init_20 : decode cX3_init 20 = .ok (.invokespecial 18, 3) := by decide +kernel
theorem dX3_init_23 : decode cX3_init 23 = .ok (.putfield 19, 3) := by decide +kernel
theorem dX3_init_26 : decode cX3_init 26 = .ok (.aload_n 0, 1) := by decide +kernel
theorem dX3_init_27 : decode cX3_init 27 = .ok (.new 23, 3) := by decide +kernel
theorem dX3_init_30 : decode cX3_init 30 = .ok (.dup, 1) := by decide +kernel
theorem dX3_init_31 : decode cX3_init 31 = .ok (.invokespecial 25, 3) := by decide +kernel
theorem dX3_init_34 : decode cX3_init 34 = .ok (.putfield 26, 3) := by decide +kernel
theorem dX3_init_37 : decode cX3_init 37 = .ok (.aload_n 0, 1) := by decide +kernel
theorem dX3_init_38 : decode cX3_init 38 = .ok (.bipush 6, 2) := by decide +kernel
theorem dX3_init_40 : decode cX3_init 40 = .ok (.newarray .int, 2) := by decide +kernel
theorem dX3_init_42 : decode cX3_init 42 = .ok (.putfield 30, 3) := by decide +kernel
theorem dX3_init_45 : decode cX3_init 45 = .ok (.aload_n 0, 1) := by decide +kernel
theorem dX3_init_46 : decode cX3_init 46 = .ok (.bipush 12, 2) := by decide +kernel
theorem dX3_init_48 : decode cX3_init 48 = .ok (.newarray .int, 2) := by decide +kernel
theorem dX3_init_50 : decode cX3_init 50 = .ok (.putfield 34, 3) := by decide +kernel
theorem dX3_init_53 : decode cX3_init 53 = .ok (.aload_n 0, 1) := by decide +kernel
theorem dX3_init_54 : decode cX3_init 54 = .ok (.iconst 0, 1) := by decide +kernel
theorem dX3_init_55 : decode cX3_init 55 = .ok (.putfield 37, 3) := by decide +kernel
theorem dX3_init_58 : decode cX3_init 58 = .ok (.return_, 1) := by decide +kernel
set_option maxRecDepth 20000 in
theorem ggX3_hold_X3_requireTwoCompanies : GoodIn wsX3_hold wsX3_requireTwoCompanies := goodIn_ca (goodIn_r _ [5, 6, 7, 8, 9, 4, 10, 11, 12, 13] (by decide +kernel) (by decide +kernel)) (goodIn_sub (fun _ h => List.mem_cons_of_mem _ (List.mem_append_left _ (List.mem_append_right _ h))) (by decide +kernel))
set_option maxRecDepth 20000 in
theorem gX3_hold_X3_requireTwoCompanies : GoodIn wsX3_hold (va_wsS RX3 41 yX3_requireTwoCompanies wsX3_requireTwoCompanies) := goodIn_app (goodIn_of _ (by decide +kernel)) ggX3_hold_X3_requireTwoCompanies
set_option maxRecDepth 20000 in
theorem ggX3_hold_X3_requireRange : GoodIn wsX3_hold wsX3_requireRange := goodIn_ca (goodIn_r _ [13, 6, 7] (by decide +kernel) (by decide +kernel)) (goodIn_sub (fun _ h => List.mem_cons_of_mem _ (List.mem_append_left _ (List.mem_append_right _ h))) (by decide +kernel))
set_option maxRecDepth 20000 in
theorem gX3_hold_X3_requireRange : GoodIn wsX3_hold (va_wsS RX3 45 yX3_requireRange wsX3_requireRange) := goodIn_app (goodIn_of _ (by decide +kernel)) ggX3_hold_X3_requireRange
set_option maxRecDepth 20000 in
theorem ggX3_hold_X2_percentOf : GoodIn wsX3_hold wsX2_percentOf := goodIn_r _ [17, 18, 19, 4, 20, 66, 67, 68, 69, 70, 71] (by decide +kernel) (by decide +kernel)
set_option maxRecDepth 20000 in
theorem gX3_hold_X2_percentOf_n49 : GoodIn wsX3_hold (wsX2_percentOf) := ggX3_hold_X2_percentOf
set_option maxRecDepth 20000 in
theorem ggX3_hold_X2_take : GoodIn wsX3_hold wsX2_take := goodIn_r _ [23, 18, 19, 4, 20, 24, 25, 26, 15, 27, 28, 29, 30, 31, 32, 33, 34, 35, 36, 37, 38, 39, 40, 41, 42, 43, 44, 45, 46, 47, 48, 49, 50, 51, 52, 53, 54, 66, 67, 68, 69, 70, 71] (by decide +kernel) (by decide +kernel)
set_option maxRecDepth 20000 in
theorem gX3_hold_X2_take_n53 : GoodIn wsX3_hold (wsX2_take) := ggX3_hold_X2_take
set_option maxRecDepth 20000 in
theorem ggX3_hold_X3_requireTaken : GoodIn wsX3_hold wsX3_requireTaken := goodIn_ca (goodIn_r _ [57, 58, 59] (by decide +kernel) (by decide +kernel)) (goodIn_sub (fun _ h => List.mem_cons_of_mem _ (List.mem_append_right _ h)) (by decide +kernel))
set_option maxRecDepth 20000 in
theorem gX3_hold_X3_requireTaken : GoodIn wsX3_hold (va_wsS RX3 57 yX3_requireTaken wsX3_requireTaken) := goodIn_app (goodIn_of _ (by decide +kernel)) ggX3_hold_X3_requireTaken
theorem dX3_hold_0 : decode cX3_hold 0 = .ok (.iload_n 1, 1) := by decide +kernel
theorem dX3_hold_1 : decode cX3_hold 1 = .ok (.iload_n 2, 1) := by decide +kernel
theorem dX3_hold_2 : decode cX3_hold 2 = .ok (.invokestatic 41, 3) := by decide +kernel
theorem dX3_hold_5 : decode cX3_hold 5 = .ok (.iload_n 3, 1) := by decide +kernel
theorem dX3_hold_6 : decode cX3_hold 6 = .ok (.iconst 0, 1) := by decide +kernel
theorem dX3_hold_7 : decode cX3_hold 7 = .ok (.bipush 100, 2) := by decide +kernel
theorem dX3_hold_9 : decode cX3_hold 9 = .ok (.invokestatic 45, 3) := by decide +kernel
theorem dX3_hold_12 : decode cX3_hold 12 = .ok (.aload_n 0, 1) := by decide +kernel
theorem dX3_hold_13 : decode cX3_hold 13 = .ok (.getfield 10, 3) := by decide +kernel
theorem dX3_hold_16 : decode cX3_hold 16 = .ok (.iload_n 1, 1) := by decide +kernel
theorem dX3_hold_17 : decode cX3_hold 17 = .ok (.iload_n 2, 1) := by decide +kernel
theorem dX3_hold_18 : decode cX3_hold 18 = .ok (.invokevirtual 49, 3) := by decide +kernel
theorem dX3_hold_21 : decode cX3_hold 21 = .ok (.istore 4, 2) := by decide +kernel
theorem dX3_hold_23 : decode cX3_hold 23 = .ok (.aload_n 0, 1) := by decide +kernel
theorem dX3_hold_24 : decode cX3_hold 24 = .ok (.getfield 10, 3) := by decide +kernel
theorem dX3_hold_27 : decode cX3_hold 27 = .ok (.iload_n 1, 1) := by decide +kernel
theorem dX3_hold_28 : decode cX3_hold 28 = .ok (.iload_n 2, 1) := by decide +kernel
theorem dX3_hold_29 : decode cX3_hold 29 = .ok (.iload_n 3, 1) := by decide +kernel
theorem dX3_hold_30 : decode cX3_hold 30 = .ok (.invokevirtual 53, 3) := by decide +kernel
theorem dX3_hold_33 : decode cX3_hold 33 = .ok (.invokestatic 57, 3) := by decide +kernel
theorem dX3_hold_36 : decode cX3_hold 36 = .ok (.iload 4, 2) := by decide +kernel
theorem dX3_hold_38 : decode cX3_hold 38 = .ok (.ireturn, 1) := by decide +kernel
set_option maxRecDepth 20000 in
theorem ggX3_held_X3_requireCompany : GoodIn wsX3_held wsX3_requireCompany := goodIn_ca (goodIn_r _ [5, 6, 7, 4, 8, 9, 10] (by decide +kernel) (by decide +kernel)) (goodIn_sub (fun _ h => List.mem_cons_of_mem _ (List.mem_append_right _ h)) (by decide +kernel))
set_option maxRecDepth 20000 in
theorem gX3_held_X3_requireCompany : GoodIn wsX3_held (va_wsS RX3 71 yX3_requireCompany wsX3_requireCompany) := goodIn_app (goodIn_of _ (by decide +kernel)) ggX3_held_X3_requireCompany
set_option maxRecDepth 20000 in
theorem ggX3_held_X2_percentOf : GoodIn wsX3_held wsX2_percentOf := goodIn_r _ [14, 15, 16, 4, 17, 24, 25, 26, 27, 28, 29] (by decide +kernel) (by decide +kernel)
set_option maxRecDepth 20000 in
theorem gX3_held_X2_percentOf_n49 : GoodIn wsX3_held (wsX2_percentOf) := ggX3_held_X2_percentOf
theorem dX3_held_0 : decode cX3_held 0 = .ok (.iload_n 1, 1) := by decide +kernel
theorem dX3_held_1 : decode cX3_held 1 = .ok (.invokestatic 71, 3) := by decide +kernel
theorem dX3_held_4 : decode cX3_held 4 = .ok (.iload_n 2, 1) := by decide +kernel
theorem dX3_held_5 : decode cX3_held 5 = .ok (.invokestatic 71, 3) := by decide +kernel
theorem dX3_held_8 : decode cX3_held 8 = .ok (.aload_n 0, 1) := by decide +kernel
theorem dX3_held_9 : decode cX3_held 9 = .ok (.getfield 10, 3) := by decide +kernel
theorem dX3_held_12 : decode cX3_held 12 = .ok (.iload_n 1, 1) := by decide +kernel
theorem dX3_held_13 : decode cX3_held 13 = .ok (.iload_n 2, 1) := by decide +kernel
theorem dX3_held_14 : decode cX3_held 14 = .ok (.invokevirtual 49, 3) := by decide +kernel
theorem dX3_held_17 : decode cX3_held 17 = .ok (.ireturn, 1) := by decide +kernel
set_option maxRecDepth 20000 in
theorem ggX3_shareNumerator_X3_requireCompany : GoodIn wsX3_shareNumerator wsX3_requireCompany := goodIn_ca (goodIn_r _ [5, 6, 7, 4, 8, 9, 10] (by decide +kernel) (by decide +kernel)) (goodIn_sub (fun _ h => List.mem_cons_of_mem _ (List.mem_append_right _ h)) (by decide +kernel))
set_option maxRecDepth 20000 in
theorem gX3_shareNumerator_X3_requireCompany : GoodIn wsX3_shareNumerator (va_wsS RX3 71 yX3_requireCompany wsX3_requireCompany) := goodIn_app (goodIn_of _ (by decide +kernel)) ggX3_shareNumerator_X3_requireCompany
set_option maxRecDepth 20000 in
theorem ggX3_shareNumerator_X2_numeratorOf : GoodIn wsX3_shareNumerator wsX2_numeratorOf := goodIn_r _ [14, 15, 22, 23, 24, 25, 26, 27] (by decide +kernel) (by decide +kernel)
set_option maxRecDepth 20000 in
theorem gX3_shareNumerator_X2_numeratorOf_n75 : GoodIn wsX3_shareNumerator (wsX2_numeratorOf) := ggX3_shareNumerator_X2_numeratorOf
theorem dX3_shareNumerator_0 : decode cX3_shareNumerator 0 = .ok (.iload_n 1, 1) := by decide +kernel
theorem dX3_shareNumerator_1 : decode cX3_shareNumerator 1 = .ok (.invokestatic 71, 3) := by decide +kernel
theorem dX3_shareNumerator_4 : decode cX3_shareNumerator 4 = .ok (.aload_n 0, 1) := by decide +kernel
theorem dX3_shareNumerator_5 : decode cX3_shareNumerator 5 = .ok (.getfield 10, 3) := by decide +kernel
theorem dX3_shareNumerator_8 : decode cX3_shareNumerator 8 = .ok (.iload_n 1, 1) := by decide +kernel
theorem dX3_shareNumerator_9 : decode cX3_shareNumerator 9 = .ok (.invokevirtual 75, 3) := by decide +kernel
theorem dX3_shareNumerator_12 : decode cX3_shareNumerator 12 = .ok (.lreturn, 1) := by decide +kernel
set_option maxRecDepth 20000 in
theorem ggX3_shareDenominator_X3_requireCompany : GoodIn wsX3_shareDenominator wsX3_requireCompany := goodIn_ca (goodIn_r _ [5, 6, 7, 4, 8, 9, 10] (by decide +kernel) (by decide +kernel)) (goodIn_sub (fun _ h => List.mem_cons_of_mem _ (List.mem_append_right _ h)) (by decide +kernel))
set_option maxRecDepth 20000 in
theorem gX3_shareDenominator_X3_requireCompany : GoodIn wsX3_shareDenominator (va_wsS RX3 71 yX3_requireCompany wsX3_requireCompany) := goodIn_app (goodIn_of _ (by decide +kernel)) ggX3_shareDenominator_X3_requireCompany
set_option maxRecDepth 20000 in
theorem ggX3_shareDenominator_X2_denominatorOf : GoodIn wsX3_shareDenominator wsX2_denominatorOf := goodIn_r _ [14, 15, 22, 23, 24, 25, 26, 27] (by decide +kernel) (by decide +kernel)
set_option maxRecDepth 20000 in
theorem gX3_shareDenominator_X2_denominatorOf_n79 : GoodIn wsX3_shareDenominator (wsX2_denominatorOf) := ggX3_shareDenominator_X2_denominatorOf
theorem dX3_shareDenominator_0 : decode cX3_shareDenominator 0 = .ok (.iload_n 1, 1) := by decide +kernel
theorem dX3_shareDenominator_1 : decode cX3_shareDenominator 1 = .ok (.invokestatic 71, 3) := by decide +kernel
theorem dX3_shareDenominator_4 : decode cX3_shareDenominator 4 = .ok (.aload_n 0, 1) := by decide +kernel
theorem dX3_shareDenominator_5 : decode cX3_shareDenominator 5 = .ok (.getfield 10, 3) := by decide +kernel
theorem dX3_shareDenominator_8 : decode cX3_shareDenominator 8 = .ok (.iload_n 1, 1) := by decide +kernel
theorem dX3_shareDenominator_9 : decode cX3_shareDenominator 9 = .ok (.invokevirtual 79, 3) := by decide +kernel
theorem dX3_shareDenominator_12 : decode cX3_shareDenominator 12 = .ok (.lreturn, 1) := by decide +kernel
set_option maxRecDepth 20000 in
theorem ggX3_shareByRounds_X3_requireCompany : GoodIn wsX3_shareByRounds wsX3_requireCompany := goodIn_ca (goodIn_r _ [5, 6, 7, 4, 8, 9, 10] (by decide +kernel) (by decide +kernel)) (goodIn_sub (fun _ h => List.mem_cons_of_mem _ (List.mem_append_right _ h)) (by decide +kernel))
set_option maxRecDepth 20000 in
theorem gX3_shareByRounds_X3_requireCompany : GoodIn wsX3_shareByRounds (va_wsS RX3 71 yX3_requireCompany wsX3_requireCompany) := goodIn_app (goodIn_of _ (by decide +kernel)) ggX3_shareByRounds_X3_requireCompany
set_option maxRecDepth 20000 in
theorem ggX3_shareByRounds_X3_requireRange : GoodIn wsX3_shareByRounds wsX3_requireRange := goodIn_ca (goodIn_r _ [8, 9, 10] (by decide +kernel) (by decide +kernel)) (goodIn_sub (fun _ h => List.mem_cons_of_mem _ (List.mem_append_right _ h)) (by decide +kernel))
set_option maxRecDepth 20000 in
theorem gX3_shareByRounds_X3_requireRange : GoodIn wsX3_shareByRounds (va_wsS RX3 45 yX3_requireRange wsX3_requireRange) := goodIn_app (goodIn_of _ (by decide +kernel)) ggX3_shareByRounds_X3_requireRange
set_option maxRecDepth 20000 in
theorem ggX3_shareByRounds_X2_millionthsAfter : GoodIn wsX3_shareByRounds wsX2_millionthsAfter := goodIn_r _ [14, 15, 16, 17, 18, 19, 12, 20, 21, 22, 23, 4, 24, 31, 32, 33, 34, 35, 36] (by decide +kernel) (by decide +kernel)
set_option maxRecDepth 20000 in
theorem gX3_shareByRounds_X2_millionthsAfter_n82 : GoodIn wsX3_shareByRounds (wsX2_millionthsAfter) := ggX3_shareByRounds_X2_millionthsAfter
theorem dX3_shareByRounds_0 : decode cX3_shareByRounds 0 = .ok (.iload_n 1, 1) := by decide +kernel
theorem dX3_shareByRounds_1 : decode cX3_shareByRounds 1 = .ok (.invokestatic 71, 3) := by decide +kernel
theorem dX3_shareByRounds_4 : decode cX3_shareByRounds 4 = .ok (.iload_n 2, 1) := by decide +kernel
theorem dX3_shareByRounds_5 : decode cX3_shareByRounds 5 = .ok (.iconst 0, 1) := by decide +kernel
theorem dX3_shareByRounds_6 : decode cX3_shareByRounds 6 = .ok (.sipush 200, 3) := by decide +kernel
theorem dX3_shareByRounds_9 : decode cX3_shareByRounds 9 = .ok (.invokestatic 45, 3) := by decide +kernel
theorem dX3_shareByRounds_12 : decode cX3_shareByRounds 12 = .ok (.aload_n 0, 1) := by decide +kernel
theorem dX3_shareByRounds_13 : decode cX3_shareByRounds 13 = .ok (.getfield 10, 3) := by decide +kernel
theorem dX3_shareByRounds_16 : decode cX3_shareByRounds 16 = .ok (.iload_n 2, 1) := by decide +kernel
theorem dX3_shareByRounds_17 : decode cX3_shareByRounds 17 = .ok (.iload_n 1, 1) := by decide +kernel
theorem dX3_shareByRounds_18 : decode cX3_shareByRounds 18 = .ok (.invokevirtual 82, 3) := by decide +kernel
theorem dX3_shareByRounds_21 : decode cX3_shareByRounds 21 = .ok (.ireturn, 1) := by decide +kernel
set_option maxRecDepth 20000 in
theorem ggX3_group_X2_members : GoodIn wsX3_group wsX2_members := goodIn_r _ [5, 6, 7, 8, 3, 9, 10, 11, 12, 13, 14, 15, 16, 17, 18, 19, 26, 27, 28, 29, 30, 31] (by decide +kernel) (by decide +kernel)
set_option maxRecDepth 20000 in
theorem gX3_group_X2_members_n85 : GoodIn wsX3_group (wsX2_members) := ggX3_group_X2_members
theorem dX3_group_0 : decode cX3_group 0 = .ok (.aload_n 0, 1) := by decide +kernel
theorem dX3_group_1 : decode cX3_group 1 = .ok (.getfield 10, 3) := by decide +kernel
theorem dX3_group_4 : decode cX3_group 4 = .ok (.invokevirtual 85, 3) := by decide +kernel
theorem dX3_group_7 : decode cX3_group 7 = .ok (.ireturn, 1) := by decide +kernel
set_option maxRecDepth 20000 in
theorem ggX3_goodwill_X3_requireCompany : GoodIn wsX3_goodwill wsX3_requireCompany := goodIn_ca (goodIn_r _ [5, 6, 7, 4, 8, 9, 10] (by decide +kernel) (by decide +kernel)) (goodIn_sub (fun _ h => List.mem_cons_of_mem _ (List.mem_append_right _ h)) (by decide +kernel))
set_option maxRecDepth 20000 in
theorem gX3_goodwill_X3_requireCompany : GoodIn wsX3_goodwill (va_wsS RX3 71 yX3_requireCompany wsX3_requireCompany) := goodIn_app (goodIn_of _ (by decide +kernel)) ggX3_goodwill_X3_requireCompany
theorem dX3_goodwill_0 : decode cX3_goodwill 0 = .ok (.iload_n 1, 1) := by decide +kernel
theorem dX3_goodwill_1 : decode cX3_goodwill 1 = .ok (.invokestatic 71, 3) := by decide +kernel
theorem dX3_goodwill_4 : decode cX3_goodwill 4 = .ok (.aload_n 0, 1) := by decide +kernel
theorem dX3_goodwill_5 : decode cX3_goodwill 5 = .ok (.getfield 30, 3) := by decide +kernel
theorem dX3_goodwill_8 : decode cX3_goodwill 8 = .ok (.iload_n 1, 1) := by decide +kernel
theorem dX3_goodwill_9 : decode cX3_goodwill 9 = .ok (.iaload, 1) := by decide +kernel
theorem dX3_goodwill_10 : decode cX3_goodwill 10 = .ok (.ireturn, 1) := by decide +kernel
set_option maxRecDepth 20000 in
theorem ggX3_netValue_X3_requireCompany : GoodIn wsX3_netValue wsX3_requireCompany := goodIn_ca (goodIn_r _ [5, 6, 7, 4, 8, 9, 10] (by decide +kernel) (by decide +kernel)) (goodIn_sub (fun _ h => List.mem_cons_of_mem _ (List.mem_append_right _ h)) (by decide +kernel))
set_option maxRecDepth 20000 in
theorem gX3_netValue_X3_requireCompany : GoodIn wsX3_netValue (va_wsS RX3 71 yX3_requireCompany wsX3_requireCompany) := goodIn_app (goodIn_of _ (by decide +kernel)) ggX3_netValue_X3_requireCompany
set_option maxRecDepth 20000 in
theorem ggX3_netValue_X1_netOf : GoodIn wsX3_netValue wsX1_netOf := goodIn_r _ [14, 15, 16, 17, 12, 18, 19, 20, 21, 22, 23, 24, 25, 26, 27, 28, 29, 30, 31, 32, 39, 40, 41, 42, 43, 44, 45] (by decide +kernel) (by decide +kernel)
set_option maxRecDepth 20000 in
theorem gX3_netValue_X1_netOf_n62 : GoodIn wsX3_netValue (wsX1_netOf) := ggX3_netValue_X1_netOf
theorem dX3_netValue_0 : decode cX3_netValue 0 = .ok (.iload_n 1, 1) := by decide +kernel
theorem dX3_netValue_1 : decode cX3_netValue 1 = .ok (.invokestatic 71, 3) := by decide +kernel
theorem dX3_netValue_4 : decode cX3_netValue 4 = .ok (.aload_n 0, 1) := by decide +kernel
theorem dX3_netValue_5 : decode cX3_netValue 5 = .ok (.getfield 19, 3) := by decide +kernel
theorem dX3_netValue_8 : decode cX3_netValue 8 = .ok (.iload_n 1, 1) := by decide +kernel
theorem dX3_netValue_9 : decode cX3_netValue 9 = .ok (.invokevirtual 62, 3) := by decide +kernel
theorem dX3_netValue_12 : decode cX3_netValue 12 = .ok (.ireturn, 1) := by decide +kernel
set_option maxRecDepth 20000 in
theorem ggX3_translatedEquity_X3_requireCompany : GoodIn wsX3_translatedEquity wsX3_requireCompany := goodIn_ca (goodIn_r _ [5, 6, 7, 4, 8, 9, 10] (by decide +kernel) (by decide +kernel)) (goodIn_sub (fun _ h => List.mem_cons_of_mem _ (List.mem_append_right _ h)) (by decide +kernel))
set_option maxRecDepth 20000 in
theorem gX3_translatedEquity_X3_requireCompany : GoodIn wsX3_translatedEquity (va_wsS RX3 71 yX3_requireCompany wsX3_requireCompany) := goodIn_app (goodIn_of _ (by decide +kernel)) ggX3_translatedEquity_X3_requireCompany
set_option maxRecDepth 20000 in
theorem ggX3_translatedEquity_X1_equityOf : GoodIn wsX3_translatedEquity wsX1_equityOf := goodIn_r _ [14, 15, 16, 17, 18, 12, 19, 20, 21, 22, 23, 30, 31, 32, 33, 34, 35, 36] (by decide +kernel) (by decide +kernel)
set_option maxRecDepth 20000 in
theorem gX3_translatedEquity_X1_equityOf_n101 : GoodIn wsX3_translatedEquity (wsX1_equityOf) := ggX3_translatedEquity_X1_equityOf
theorem dX3_translatedEquity_0 : decode cX3_translatedEquity 0 = .ok (.iload_n 1, 1) := by decide +kernel
theorem dX3_translatedEquity_1 : decode cX3_translatedEquity 1 = .ok (.invokestatic 71, 3) := by decide +kernel
theorem dX3_translatedEquity_4 : decode cX3_translatedEquity 4 = .ok (.aload_n 0, 1) := by decide +kernel
theorem dX3_translatedEquity_5 : decode cX3_translatedEquity 5 = .ok (.getfield 19, 3) := by decide +kernel
theorem dX3_translatedEquity_8 : decode cX3_translatedEquity 8 = .ok (.iload_n 1, 1) := by decide +kernel
theorem dX3_translatedEquity_9 : decode cX3_translatedEquity 9 = .ok (.invokevirtual 101, 3) := by decide +kernel
theorem dX3_translatedEquity_12 : decode cX3_translatedEquity 12 = .ok (.ireturn, 1) := by decide +kernel
set_option maxRecDepth 20000 in
theorem ggX3_translatedResult_X3_requireCompany : GoodIn wsX3_translatedResult wsX3_requireCompany := goodIn_ca (goodIn_r _ [5, 6, 7, 4, 8, 9, 10] (by decide +kernel) (by decide +kernel)) (goodIn_sub (fun _ h => List.mem_cons_of_mem _ (List.mem_append_right _ h)) (by decide +kernel))
set_option maxRecDepth 20000 in
theorem gX3_translatedResult_X3_requireCompany : GoodIn wsX3_translatedResult (va_wsS RX3 71 yX3_requireCompany wsX3_requireCompany) := goodIn_app (goodIn_of _ (by decide +kernel)) ggX3_translatedResult_X3_requireCompany
set_option maxRecDepth 20000 in
theorem ggX3_translatedResult_X1_profitOf : GoodIn wsX3_translatedResult wsX1_profitOf := goodIn_r _ [14, 15, 16, 17, 18, 12, 19, 20, 21, 22, 23, 30, 31, 32, 33, 34, 35, 36] (by decide +kernel) (by decide +kernel)
set_option maxRecDepth 20000 in
theorem gX3_translatedResult_X1_profitOf_n104 : GoodIn wsX3_translatedResult (wsX1_profitOf) := ggX3_translatedResult_X1_profitOf
theorem dX3_translatedResult_0 : decode cX3_translatedResult 0 = .ok (.iload_n 1, 1) := by decide +kernel
theorem dX3_translatedResult_1 : decode cX3_translatedResult 1 = .ok (.invokestatic 71, 3) := by decide +kernel
theorem dX3_translatedResult_4 : decode cX3_translatedResult 4 = .ok (.aload_n 0, 1) := by decide +kernel
theorem dX3_translatedResult_5 : decode cX3_translatedResult 5 = .ok (.getfield 19, 3) := by decide +kernel
theorem dX3_translatedResult_8 : decode cX3_translatedResult 8 = .ok (.iload_n 1, 1) := by decide +kernel
theorem dX3_translatedResult_9 : decode cX3_translatedResult 9 = .ok (.invokevirtual 104, 3) := by decide +kernel
theorem dX3_translatedResult_12 : decode cX3_translatedResult 12 = .ok (.ireturn, 1) := by decide +kernel
set_option maxRecDepth 20000 in
theorem ggX3_reserve_X3_requireCompany : GoodIn wsX3_reserve wsX3_requireCompany := goodIn_ca (goodIn_r _ [5, 6, 7, 4, 8, 9, 10] (by decide +kernel) (by decide +kernel)) (goodIn_sub (fun _ h => List.mem_cons_of_mem _ (List.mem_append_right _ h)) (by decide +kernel))
set_option maxRecDepth 20000 in
theorem gX3_reserve_X3_requireCompany : GoodIn wsX3_reserve (va_wsS RX3 71 yX3_requireCompany wsX3_requireCompany) := goodIn_app (goodIn_of _ (by decide +kernel)) ggX3_reserve_X3_requireCompany
set_option maxRecDepth 20000 in
theorem ggX3_reserve_X1_netOf : GoodIn wsX3_reserve wsX1_netOf := goodIn_r _ [14, 15, 16, 17, 12, 18, 19, 20, 21, 22, 23, 24, 25, 26, 27, 28, 29, 30, 31, 32, 49, 50, 51, 52, 53, 54, 55] (by decide +kernel) (by decide +kernel)
set_option maxRecDepth 20000 in
theorem gX3_reserve_X1_netOf_n62 : GoodIn wsX3_reserve (wsX1_netOf) := ggX3_reserve_X1_netOf
set_option maxRecDepth 20000 in
theorem ggX3_reserve_X1_equityOf : GoodIn wsX3_reserve wsX1_equityOf := goodIn_r _ [35, 36, 37, 21, 22, 12, 23, 24, 25, 26, 27, 49, 50, 51, 52, 53, 54, 55] (by decide +kernel) (by decide +kernel)
set_option maxRecDepth 20000 in
theorem gX3_reserve_X1_equityOf_n101 : GoodIn wsX3_reserve (wsX1_equityOf) := ggX3_reserve_X1_equityOf
set_option maxRecDepth 20000 in
theorem ggX3_reserve_X1_profitOf : GoodIn wsX3_reserve wsX1_profitOf := goodIn_r _ [40, 41, 42, 21, 22, 12, 23, 24, 25, 26, 27, 49, 50, 51, 52, 53, 54, 55] (by decide +kernel) (by decide +kernel)
set_option maxRecDepth 20000 in
theorem gX3_reserve_X1_profitOf_n104 : GoodIn wsX3_reserve (wsX1_profitOf) := ggX3_reserve_X1_profitOf
theorem dX3_reserve_0 : decode cX3_reserve 0 = .ok (.iload_n 1, 1) := by decide +kernel
theorem dX3_reserve_1 : decode cX3_reserve 1 = .ok (.invokestatic 71, 3) := by decide +kernel
theorem dX3_reserve_4 : decode cX3_reserve 4 = .ok (.aload_n 0, 1) := by decide +kernel
theorem dX3_reserve_5 : decode cX3_reserve 5 = .ok (.getfield 19, 3) := by decide +kernel
theorem dX3_reserve_8 : decode cX3_reserve 8 = .ok (.iload_n 1, 1) := by decide +kernel
theorem dX3_reserve_9 : decode cX3_reserve 9 = .ok (.invokevirtual 62, 3) := by decide +kernel
theorem dX3_reserve_12 : decode cX3_reserve 12 = .ok (.aload_n 0, 1) := by decide +kernel
theorem dX3_reserve_13 : decode cX3_reserve 13 = .ok (.getfield 19, 3) := by decide +kernel
theorem dX3_reserve_16 : decode cX3_reserve 16 = .ok (.iload_n 1, 1) := by decide +kernel
theorem dX3_reserve_17 : decode cX3_reserve 17 = .ok (.invokevirtual 101, 3) := by decide +kernel
theorem dX3_reserve_20 : decode cX3_reserve 20 = .ok (.isub, 1) := by decide +kernel
theorem dX3_reserve_21 : decode cX3_reserve 21 = .ok (.aload_n 0, 1) := by decide +kernel
theorem dX3_reserve_22 : decode cX3_reserve 22 = .ok (.getfield 19, 3) := by decide +kernel
theorem dX3_reserve_25 : decode cX3_reserve 25 = .ok (.iload_n 1, 1) := by decide +kernel
theorem dX3_reserve_26 : decode cX3_reserve 26 = .ok (.invokevirtual 104, 3) := by decide +kernel
theorem dX3_reserve_29 : decode cX3_reserve 29 = .ok (.isub, 1) := by decide +kernel
theorem dX3_reserve_30 : decode cX3_reserve 30 = .ok (.ireturn, 1) := by decide +kernel
set_option maxRecDepth 20000 in
theorem ggX3_difference_X3_requireTwoCompanies : GoodIn wsX3_difference wsX3_requireTwoCompanies := goodIn_ca (goodIn_r _ [5, 6, 7, 8, 9, 4, 10, 11, 12, 13] (by decide +kernel) (by decide +kernel)) (goodIn_sub (fun _ h => List.mem_cons_of_mem _ (List.mem_append_right _ h)) (by decide +kernel))
set_option maxRecDepth 20000 in
theorem gX3_difference_X3_requireTwoCompanies : GoodIn wsX3_difference (va_wsS RX3 41 yX3_requireTwoCompanies wsX3_requireTwoCompanies) := goodIn_app (goodIn_of _ (by decide +kernel)) ggX3_difference_X3_requireTwoCompanies
set_option maxRecDepth 20000 in
theorem ggX3_difference_X0_disputed : GoodIn wsX3_difference wsX0_disputed := goodIn_r _ [17, 18, 19, 20, 4, 21, 28, 29] (by decide +kernel) (by decide +kernel)
set_option maxRecDepth 20000 in
theorem gX3_difference_X0_disputed_n114 : GoodIn wsX3_difference (wsX0_disputed) := ggX3_difference_X0_disputed
theorem dX3_difference_0 : decode cX3_difference 0 = .ok (.iload_n 1, 1) := by decide +kernel
theorem dX3_difference_1 : decode cX3_difference 1 = .ok (.iload_n 2, 1) := by decide +kernel
theorem dX3_difference_2 : decode cX3_difference 2 = .ok (.invokestatic 41, 3) := by decide +kernel
theorem dX3_difference_5 : decode cX3_difference 5 = .ok (.aload_n 0, 1) := by decide +kernel
theorem dX3_difference_6 : decode cX3_difference 6 = .ok (.getfield 26, 3) := by decide +kernel
theorem dX3_difference_9 : decode cX3_difference 9 = .ok (.iload_n 1, 1) := by decide +kernel
theorem dX3_difference_10 : decode cX3_difference 10 = .ok (.iload_n 2, 1) := by decide +kernel
theorem dX3_difference_11 : decode cX3_difference 11 = .ok (.invokevirtual 114, 3) := by decide +kernel
theorem dX3_difference_14 : decode cX3_difference 14 = .ok (.ireturn, 1) := by decide +kernel
set_option maxRecDepth 20000 in
theorem ggX3_eliminated_X2_members : GoodIn wsX3_eliminated wsX2_members := goodIn_r _ [6, 7, 8, 9, 4, 10, 11, 12, 13, 14, 15, 16, 17, 18, 19, 20, 37, 38, 39, 40, 41, 42] (by decide +kernel) (by decide +kernel)
set_option maxRecDepth 20000 in
theorem gX3_eliminated_X2_members_n85 : GoodIn wsX3_eliminated (wsX2_members) := ggX3_eliminated_X2_members
set_option maxRecDepth 20000 in
theorem ggX3_eliminated_X0_agreedAmong : GoodIn wsX3_eliminated wsX0_agreedAmong := goodIn_r _ [24, 25, 26, 27, 28, 29, 30, 16, 17, 18, 19, 20, 43, 44] (by decide +kernel) (by decide +kernel)
set_option maxRecDepth 20000 in
theorem gX3_eliminated_X0_agreedAmong_n117 : GoodIn wsX3_eliminated (wsX0_agreedAmong) := ggX3_eliminated_X0_agreedAmong
theorem dX3_eliminated_0 : decode cX3_eliminated 0 = .ok (.aload_n 0, 1) := by decide +kernel
theorem dX3_eliminated_1 : decode cX3_eliminated 1 = .ok (.getfield 26, 3) := by decide +kernel
theorem dX3_eliminated_4 : decode cX3_eliminated 4 = .ok (.aload_n 0, 1) := by decide +kernel
theorem dX3_eliminated_5 : decode cX3_eliminated 5 = .ok (.getfield 10, 3) := by decide +kernel
theorem dX3_eliminated_8 : decode cX3_eliminated 8 = .ok (.invokevirtual 85, 3) := by decide +kernel
theorem dX3_eliminated_11 : decode cX3_eliminated 11 = .ok (.invokevirtual 117, 3) := by decide +kernel
theorem dX3_eliminated_14 : decode cX3_eliminated 14 = .ok (.ireturn, 1) := by decide +kernel
set_option maxRecDepth 20000 in
theorem ggX3_assets_X2_members : GoodIn wsX3_assets wsX2_members := goodIn_r _ [7, 8, 9, 10, 5, 11, 12, 13, 14, 15, 16, 17, 18, 19, 20, 21, 52, 53, 54, 55, 56, 57] (by decide +kernel) (by decide +kernel)
set_option maxRecDepth 20000 in
theorem gX3_assets_X2_members_n85 : GoodIn wsX3_assets (wsX2_members) := ggX3_assets_X2_members
set_option maxRecDepth 20000 in
theorem ggX3_assets_X3_isMember : GoodIn wsX3_assets wsX3_isMember := goodIn_r _ [19] (by decide +kernel) (by decide +kernel)
set_option maxRecDepth 20000 in
theorem gX3_assets_X3_isMember : GoodIn wsX3_assets (va_wsS RX3 120 yX3_isMember wsX3_isMember) := goodIn_app (goodIn_of _ (by decide +kernel)) ggX3_assets_X3_isMember
set_option maxRecDepth 20000 in
theorem ggX3_assets_X1_assetsOf : GoodIn wsX3_assets wsX1_assetsOf := goodIn_r _ [26, 27, 28, 29, 30, 24, 31, 32, 33, 34, 35, 58, 59, 60, 61, 62, 63, 64] (by decide +kernel) (by decide +kernel)
set_option maxRecDepth 20000 in
theorem gX3_assets_X1_assetsOf_n124 : GoodIn wsX3_assets (wsX1_assetsOf) := ggX3_assets_X1_assetsOf
set_option maxRecDepth 20000 in
theorem ggX3_assets_X0_agreedAmong : GoodIn wsX3_assets wsX0_agreedAmong := goodIn_r _ [39, 40, 41, 42, 43, 44, 45, 17, 18, 19, 20, 21, 65, 66] (by decide +kernel) (by decide +kernel)
set_option maxRecDepth 20000 in
theorem gX3_assets_X0_agreedAmong_n117 : GoodIn wsX3_assets (wsX0_agreedAmong) := ggX3_assets_X0_agreedAmong
theorem dX3_assets_0 : decode cX3_assets 0 = .ok (.aload_n 0, 1) := by decide +kernel
theorem dX3_assets_1 : decode cX3_assets 1 = .ok (.getfield 10, 3) := by decide +kernel
theorem dX3_assets_4 : decode cX3_assets 4 = .ok (.invokevirtual 85, 3) := by decide +kernel
theorem dX3_assets_7 : decode cX3_assets 7 = .ok (.istore_n 1, 1) := by decide +kernel
theorem dX3_assets_8 : decode cX3_assets 8 = .ok (.iconst 0, 1) := by decide +kernel
theorem dX3_assets_9 : decode cX3_assets 9 = .ok (.istore_n 2, 1) := by decide +kernel
theorem dX3_assets_10 : decode cX3_assets 10 = .ok (.iconst 0, 1) := by decide +kernel
theorem dX3_assets_11 : decode cX3_assets 11 = .ok (.istore_n 3, 1) := by decide +kernel
theorem dX3_assets_12 : decode cX3_assets 12 = .ok (.iload_n 3, 1) := by decide +kernel
theorem dX3_assets_13 : decode cX3_assets 13 = .ok (.bipush 6, 2) := by decide +kernel
theorem dX3_assets_15 : decode cX3_assets 15 = .ok (.if_icmp .ge 28, 3) := by decide +kernel
theorem dX3_assets_18 : decode cX3_assets 18 = .ok (.iload_n 1, 1) := by decide +kernel
theorem dX3_assets_19 : decode cX3_assets 19 = .ok (.iload_n 3, 1) := by decide +kernel
theorem dX3_assets_20 : decode cX3_assets 20 = .ok (.invokestatic 120, 3) := by decide +kernel
theorem dX3_assets_23 : decode cX3_assets 23 = .ok (.ifCond .eq 14, 3) := by decide +kernel
theorem dX3_assets_26 : decode cX3_assets 26 = .ok (.iload_n 2, 1) := by decide +kernel
theorem dX3_assets_27 : decode cX3_assets 27 = .ok (.aload_n 0, 1) := by decide +kernel
theorem dX3_assets_28 : decode cX3_assets 28 = .ok (.getfield 19, 3) := by decide +kernel
theorem dX3_assets_31 : decode cX3_assets 31 = .ok (.iload_n 3, 1) := by decide +kernel
theorem dX3_assets_32 : decode cX3_assets 32 = .ok (.invokevirtual 124, 3) := by decide +kernel
theorem dX3_assets_35 : decode cX3_assets 35 = .ok (.iadd, 1) := by decide +kernel
theorem dX3_assets_36 : decode cX3_assets 36 = .ok (.istore_n 2, 1) := by decide +kernel
theorem dX3_assets_37 : decode cX3_assets 37 = .ok (.iinc 3 1, 3) := by decide +kernel
theorem dX3_assets_40 : decode cX3_assets 40 = .ok (.goto (-28), 3) := by decide +kernel
theorem dX3_assets_43 : decode cX3_assets 43 = .ok (.iload_n 2, 1) := by decide +kernel
theorem dX3_assets_44 : decode cX3_assets 44 = .ok (.aload_n 0, 1) := by decide +kernel
theorem dX3_assets_45 : decode cX3_assets 45 = .ok (.getfield 26, 3) := by decide +kernel
theorem dX3_assets_48 : decode cX3_assets 48 = .ok (.iload_n 1, 1) := by decide +kernel
theorem dX3_assets_49 : decode cX3_assets 49 = .ok (.invokevirtual 117, 3) := by decide +kernel
theorem dX3_assets_52 : decode cX3_assets 52 = .ok (.isub, 1) := by decide +kernel
theorem dX3_assets_53 : decode cX3_assets 53 = .ok (.ireturn, 1) := by decide +kernel
set_option maxRecDepth 20000 in
theorem ggX3_debts_X2_members : GoodIn wsX3_debts wsX2_members := goodIn_r _ [7, 8, 9, 10, 5, 11, 12, 13, 14, 15, 16, 17, 18, 19, 20, 21, 52, 53, 54, 55, 56, 57] (by decide +kernel) (by decide +kernel)
set_option maxRecDepth 20000 in
theorem gX3_debts_X2_members_n85 : GoodIn wsX3_debts (wsX2_members) := ggX3_debts_X2_members
set_option maxRecDepth 20000 in
theorem ggX3_debts_X3_isMember : GoodIn wsX3_debts wsX3_isMember := goodIn_r _ [19] (by decide +kernel) (by decide +kernel)
set_option maxRecDepth 20000 in
theorem gX3_debts_X3_isMember : GoodIn wsX3_debts (va_wsS RX3 120 yX3_isMember wsX3_isMember) := goodIn_app (goodIn_of _ (by decide +kernel)) ggX3_debts_X3_isMember
set_option maxRecDepth 20000 in
theorem ggX3_debts_X1_debtsOf : GoodIn wsX3_debts wsX1_debtsOf := goodIn_r _ [26, 27, 28, 29, 30, 24, 31, 32, 33, 34, 35, 58, 59, 60, 61, 62, 63, 64] (by decide +kernel) (by decide +kernel)
set_option maxRecDepth 20000 in
theorem gX3_debts_X1_debtsOf_n127 : GoodIn wsX3_debts (wsX1_debtsOf) := ggX3_debts_X1_debtsOf
set_option maxRecDepth 20000 in
theorem ggX3_debts_X0_agreedAmong : GoodIn wsX3_debts wsX0_agreedAmong := goodIn_r _ [39, 40, 41, 42, 43, 44, 45, 17, 18, 19, 20, 21, 65, 66] (by decide +kernel) (by decide +kernel)
set_option maxRecDepth 20000 in
theorem gX3_debts_X0_agreedAmong_n117 : GoodIn wsX3_debts (wsX0_agreedAmong) := ggX3_debts_X0_agreedAmong
theorem dX3_debts_0 : decode cX3_debts 0 = .ok (.aload_n 0, 1) := by decide +kernel
theorem dX3_debts_1 : decode cX3_debts 1 = .ok (.getfield 10, 3) := by decide +kernel
theorem dX3_debts_4 : decode cX3_debts 4 = .ok (.invokevirtual 85, 3) := by decide +kernel
theorem dX3_debts_7 : decode cX3_debts 7 = .ok (.istore_n 1, 1) := by decide +kernel
theorem dX3_debts_8 : decode cX3_debts 8 = .ok (.iconst 0, 1) := by decide +kernel
theorem dX3_debts_9 : decode cX3_debts 9 = .ok (.istore_n 2, 1) := by decide +kernel
theorem dX3_debts_10 : decode cX3_debts 10 = .ok (.iconst 0, 1) := by decide +kernel
theorem dX3_debts_11 : decode cX3_debts 11 = .ok (.istore_n 3, 1) := by decide +kernel
theorem dX3_debts_12 : decode cX3_debts 12 = .ok (.iload_n 3, 1) := by decide +kernel
theorem dX3_debts_13 : decode cX3_debts 13 = .ok (.bipush 6, 2) := by decide +kernel
theorem dX3_debts_15 : decode cX3_debts 15 = .ok (.if_icmp .ge 28, 3) := by decide +kernel
theorem dX3_debts_18 : decode cX3_debts 18 = .ok (.iload_n 1, 1) := by decide +kernel
theorem dX3_debts_19 : decode cX3_debts 19 = .ok (.iload_n 3, 1) := by decide +kernel
theorem dX3_debts_20 : decode cX3_debts 20 = .ok (.invokestatic 120, 3) := by decide +kernel
theorem dX3_debts_23 : decode cX3_debts 23 = .ok (.ifCond .eq 14, 3) := by decide +kernel
theorem dX3_debts_26 : decode cX3_debts 26 = .ok (.iload_n 2, 1) := by decide +kernel
theorem dX3_debts_27 : decode cX3_debts 27 = .ok (.aload_n 0, 1) := by decide +kernel
theorem dX3_debts_28 : decode cX3_debts 28 = .ok (.getfield 19, 3) := by decide +kernel
theorem dX3_debts_31 : decode cX3_debts 31 = .ok (.iload_n 3, 1) := by decide +kernel
theorem dX3_debts_32 : decode cX3_debts 32 = .ok (.invokevirtual 127, 3) := by decide +kernel
theorem dX3_debts_35 : decode cX3_debts 35 = .ok (.iadd, 1) := by decide +kernel
theorem dX3_debts_36 : decode cX3_debts 36 = .ok (.istore_n 2, 1) := by decide +kernel
theorem dX3_debts_37 : decode cX3_debts 37 = .ok (.iinc 3 1, 3) := by decide +kernel
theorem dX3_debts_40 : decode cX3_debts 40 = .ok (.goto (-28), 3) := by decide +kernel
theorem dX3_debts_43 : decode cX3_debts 43 = .ok (.iload_n 2, 1) := by decide +kernel
theorem dX3_debts_44 : decode cX3_debts 44 = .ok (.aload_n 0, 1) := by decide +kernel
theorem dX3_debts_45 : decode cX3_debts 45 = .ok (.getfield 26, 3) := by decide +kernel
theorem dX3_debts_48 : decode cX3_debts 48 = .ok (.iload_n 1, 1) := by decide +kernel
theorem dX3_debts_49 : decode cX3_debts 49 = .ok (.invokevirtual 117, 3) := by decide +kernel
theorem dX3_debts_52 : decode cX3_debts 52 = .ok (.isub, 1) := by decide +kernel
theorem dX3_debts_53 : decode cX3_debts 53 = .ok (.ireturn, 1) := by decide +kernel
set_option maxRecDepth 20000 in
theorem ggX3_minority_X3_requireCompany : GoodIn wsX3_minority wsX3_requireCompany := goodIn_ca (goodIn_r _ [5, 6, 7, 4, 8, 9, 10] (by decide +kernel) (by decide +kernel)) (goodIn_sub (fun _ h => List.mem_cons_of_mem _ (List.mem_append_right _ h)) (by decide +kernel))
set_option maxRecDepth 20000 in
theorem gX3_minority_X3_requireCompany : GoodIn wsX3_minority (va_wsS RX3 71 yX3_requireCompany wsX3_requireCompany) := goodIn_app (goodIn_of _ (by decide +kernel)) ggX3_minority_X3_requireCompany
set_option maxRecDepth 20000 in
theorem ggX3_minority_X2_members : GoodIn wsX3_minority wsX2_members := goodIn_r _ [14, 15, 16, 17, 12, 18, 19, 20, 21, 22, 23, 24, 4, 25, 26, 27, 73, 74, 75, 76, 77, 78] (by decide +kernel) (by decide +kernel)
set_option maxRecDepth 20000 in
theorem gX3_minority_X2_members_n85 : GoodIn wsX3_minority (wsX2_members) := ggX3_minority_X2_members
set_option maxRecDepth 20000 in
theorem ggX3_minority_X3_minorityAmong : GoodIn wsX3_minority wsX3_minorityAmong := goodIn_r _ [31, 1, 32, 33, 24, 4, 25, 34, 35, 36, 37, 38, 39, 40, 41, 42, 43, 44, 45, 46, 47, 48, 49, 50, 51, 52, 53, 54, 55, 56, 12, 57, 58, 59, 60, 61, 62, 63, 64, 65, 66, 67, 68, 69, 70, 71, 72, 79, 80, 81, 82, 83, 84, 85, 73, 74, 75, 76, 77, 78] (by decide +kernel) (by decide +kernel)
set_option maxRecDepth 20000 in
theorem gX3_minority_X3_minorityAmong : GoodIn wsX3_minority (wsV RX3 130 RX3 yX3_minorityAmong wsX3_minorityAmong) := goodIn_app (goodIn_of _ (by decide +kernel)) ggX3_minority_X3_minorityAmong
theorem dX3_minority_0 : decode cX3_minority 0 = .ok (.iload_n 1, 1) := by decide +kernel
theorem dX3_minority_1 : decode cX3_minority 1 = .ok (.invokestatic 71, 3) := by decide +kernel
theorem dX3_minority_4 : decode cX3_minority 4 = .ok (.aload_n 0, 1) := by decide +kernel
theorem dX3_minority_5 : decode cX3_minority 5 = .ok (.aload_n 0, 1) := by decide +kernel
theorem dX3_minority_6 : decode cX3_minority 6 = .ok (.getfield 10, 3) := by decide +kernel
theorem dX3_minority_9 : decode cX3_minority 9 = .ok (.invokevirtual 85, 3) := by decide +kernel
theorem dX3_minority_12 : decode cX3_minority 12 = .ok (.iload_n 1, 1) := by decide +kernel
theorem dX3_minority_13 : decode cX3_minority 13 = .ok (.invokevirtual 130, 3) := by decide +kernel
theorem dX3_minority_16 : decode cX3_minority 16 = .ok (.ireturn, 1) := by decide +kernel
set_option maxRecDepth 20000 in
theorem ggX3_equity_X2_members : GoodIn wsX3_equity wsX2_members := goodIn_r _ [5, 6, 7, 8, 3, 9, 10, 11, 12, 13, 14, 15, 16, 17, 18, 19, 84, 85, 86, 87, 88, 89] (by decide +kernel) (by decide +kernel)
set_option maxRecDepth 20000 in
theorem gX3_equity_X2_members_n85 : GoodIn wsX3_equity (wsX2_members) := ggX3_equity_X2_members
set_option maxRecDepth 20000 in
theorem ggX3_equity_X3_minorityAmong : GoodIn wsX3_equity wsX3_minorityAmong := goodIn_r _ [23, 1, 24, 25, 15, 16, 17, 26, 27, 28, 29, 30, 31, 32, 33, 34, 35, 36, 37, 38, 39, 40, 41, 42, 43, 44, 45, 46, 47, 48, 3, 49, 50, 51, 52, 53, 54, 55, 56, 57, 58, 78, 79, 80, 81, 82, 83, 90, 91, 92, 93, 94, 95, 96, 84, 85, 86, 87, 88, 89] (by decide +kernel) (by decide +kernel)
set_option maxRecDepth 20000 in
theorem gX3_equity_X3_minorityAmong : GoodIn wsX3_equity (wsV RX3 130 RX3 yX3_minorityAmong wsX3_minorityAmong) := goodIn_app (goodIn_of _ (by decide +kernel)) ggX3_equity_X3_minorityAmong
set_option maxRecDepth 20000 in
theorem ggX3_equity_X3_assets : GoodIn wsX3_equity wsX3_assets := goodIn_r _ [62, 1, 24, 63, 2, 3, 4, 5, 6, 7, 8, 9, 10, 11, 12, 13, 14, 15, 16, 17, 18, 19, 25, 31, 27, 32, 33, 34, 35, 36, 37, 38, 39, 40, 41, 42, 64, 65, 66, 67, 68, 69, 70, 71, 72, 73, 78, 79, 80, 81, 82, 83, 84, 85, 86, 87, 88, 89, 90, 91, 92, 93, 94, 95, 96, 97, 98] (by decide +kernel) (by decide +kernel)
set_option maxRecDepth 20000 in
theorem gX3_equity_X3_assets : GoodIn wsX3_equity (wsV RX3 133 RX3 yX3_assets wsX3_assets) := goodIn_app (goodIn_of _ (by decide +kernel)) ggX3_equity_X3_assets
set_option maxRecDepth 20000 in
theorem ggX3_equity_X3_debts : GoodIn wsX3_equity wsX3_debts := goodIn_r _ [77, 1, 24, 63, 2, 3, 4, 5, 6, 7, 8, 9, 10, 11, 12, 13, 14, 15, 16, 17, 18, 19, 25, 44, 27, 45, 46, 47, 35, 36, 37, 38, 39, 40, 41, 42, 64, 65, 66, 67, 68, 69, 70, 71, 72, 73, 78, 79, 80, 81, 82, 83, 84, 85, 86, 87, 88, 89, 90, 91, 92, 93, 94, 95, 96, 97, 98] (by decide +kernel) (by decide +kernel)
set_option maxRecDepth 20000 in
theorem gX3_equity_X3_debts : GoodIn wsX3_equity (wsV RX3 136 RX3 yX3_debts wsX3_debts) := goodIn_app (goodIn_of _ (by decide +kernel)) ggX3_equity_X3_debts
theorem dX3_equity_0 : decode cX3_equity 0 = .ok (.aload_n 0, 1) := by decide +kernel
theorem dX3_equity_1 : decode cX3_equity 1 = .ok (.getfield 10, 3) := by decide +kernel
theorem dX3_equity_4 : decode cX3_equity 4 = .ok (.invokevirtual 85, 3) := by decide +kernel
theorem dX3_equity_7 : decode cX3_equity 7 = .ok (.istore_n 1, 1) := by decide +kernel
theorem dX3_equity_8 : decode cX3_equity 8 = .ok (.iconst 0, 1) := by decide +kernel
theorem dX3_equity_9 : decode cX3_equity 9 = .ok (.istore_n 2, 1) := by decide +kernel
theorem dX3_equity_10 : decode cX3_equity 10 = .ok (.iconst 0, 1) := by decide +kernel
theorem dX3_equity_11 : decode cX3_equity 11 = .ok (.istore_n 3, 1) := by decide +kernel
theorem dX3_equity_12 : decode cX3_equity 12 = .ok (.iload_n 3, 1) := by decide +kernel
theorem dX3_equity_13 : decode cX3_equity 13 = .ok (.bipush 6, 2) := by decide +kernel
theorem dX3_equity_15 : decode cX3_equity 15 = .ok (.if_icmp .ge 18, 3) := by decide +kernel
theorem dX3_equity_18 : decode cX3_equity 18 = .ok (.iload_n 2, 1) := by decide +kernel
theorem dX3_equity_19 : decode cX3_equity 19 = .ok (.aload_n 0, 1) := by decide +kernel
theorem dX3_equity_20 : decode cX3_equity 20 = .ok (.iload_n 1, 1) := by decide +kernel
theorem dX3_equity_21 : decode cX3_equity 21 = .ok (.iload_n 3, 1) := by decide +kernel
theorem dX3_equity_22 : decode cX3_equity 22 = .ok (.invokevirtual 130, 3) := by decide +kernel
theorem dX3_equity_25 : decode cX3_equity 25 = .ok (.iadd, 1) := by decide +kernel
theorem dX3_equity_26 : decode cX3_equity 26 = .ok (.istore_n 2, 1) := by decide +kernel
theorem dX3_equity_27 : decode cX3_equity 27 = .ok (.iinc 3 1, 3) := by decide +kernel
theorem dX3_equity_30 : decode cX3_equity 30 = .ok (.goto (-18), 3) := by decide +kernel
theorem dX3_equity_33 : decode cX3_equity 33 = .ok (.aload_n 0, 1) := by decide +kernel
theorem dX3_equity_34 : decode cX3_equity 34 = .ok (.invokevirtual 133, 3) := by decide +kernel
theorem dX3_equity_37 : decode cX3_equity 37 = .ok (.aload_n 0, 1) := by decide +kernel
theorem dX3_equity_38 : decode cX3_equity 38 = .ok (.invokevirtual 136, 3) := by decide +kernel
theorem dX3_equity_41 : decode cX3_equity 41 = .ok (.isub, 1) := by decide +kernel
theorem dX3_equity_42 : decode cX3_equity 42 = .ok (.iload_n 2, 1) := by decide +kernel
theorem dX3_equity_43 : decode cX3_equity 43 = .ok (.isub, 1) := by decide +kernel
theorem dX3_equity_44 : decode cX3_equity 44 = .ok (.ireturn, 1) := by decide +kernel
set_option maxRecDepth 20000 in
theorem ggX3_result_X2_members : GoodIn wsX3_result wsX2_members := goodIn_r _ [6, 7, 8, 9, 4, 10, 11, 12, 13, 14, 15, 16, 17, 18, 19, 20, 52, 53, 54, 55, 56, 57] (by decide +kernel) (by decide +kernel)
set_option maxRecDepth 20000 in
theorem gX3_result_X2_members_n85 : GoodIn wsX3_result (wsX2_members) := ggX3_result_X2_members
set_option maxRecDepth 20000 in
theorem ggX3_result_X3_isMember : GoodIn wsX3_result wsX3_isMember := goodIn_r _ [18] (by decide +kernel) (by decide +kernel)
set_option maxRecDepth 20000 in
theorem gX3_result_X3_isMember : GoodIn wsX3_result (va_wsS RX3 120 yX3_isMember wsX3_isMember) := goodIn_app (goodIn_of _ (by decide +kernel)) ggX3_result_X3_isMember
set_option maxRecDepth 20000 in
theorem ggX3_result_X1_profitOf : GoodIn wsX3_result wsX1_profitOf := goodIn_r _ [25, 26, 27, 28, 29, 23, 30, 31, 32, 33, 34, 58, 59, 60, 61, 62, 63, 64] (by decide +kernel) (by decide +kernel)
set_option maxRecDepth 20000 in
theorem gX3_result_X1_profitOf_n104 : GoodIn wsX3_result (wsX1_profitOf) := ggX3_result_X1_profitOf
set_option maxRecDepth 20000 in
theorem ggX3_result_X2_partOfParent : GoodIn wsX3_result wsX2_partOfParent := goodIn_r _ [37, 38, 39, 40, 41, 4, 42, 43, 44, 33, 45, 52, 53, 54, 55, 56, 57] (by decide +kernel) (by decide +kernel)
set_option maxRecDepth 20000 in
theorem gX3_result_X2_partOfParent_n139 : GoodIn wsX3_result (wsX2_partOfParent) := ggX3_result_X2_partOfParent
theorem dX3_result_0 : decode cX3_result 0 = .ok (.aload_n 0, 1) := by decide +kernel
theorem dX3_result_1 : decode cX3_result 1 = .ok (.getfield 10, 3) := by decide +kernel
theorem dX3_result_4 : decode cX3_result 4 = .ok (.invokevirtual 85, 3) := by decide +kernel
theorem dX3_result_7 : decode cX3_result 7 = .ok (.istore_n 1, 1) := by decide +kernel
theorem dX3_result_8 : decode cX3_result 8 = .ok (.iconst 0, 1) := by decide +kernel
theorem dX3_result_9 : decode cX3_result 9 = .ok (.istore_n 2, 1) := by decide +kernel
theorem dX3_result_10 : decode cX3_result 10 = .ok (.iconst 0, 1) := by decide +kernel
theorem dX3_result_11 : decode cX3_result 11 = .ok (.istore_n 3, 1) := by decide +kernel
theorem dX3_result_12 : decode cX3_result 12 = .ok (.iload_n 3, 1) := by decide +kernel
theorem dX3_result_13 : decode cX3_result 13 = .ok (.bipush 6, 2) := by decide +kernel
theorem dX3_result_15 : decode cX3_result 15 = .ok (.if_icmp .ge 36, 3) := by decide +kernel
theorem dX3_result_18 : decode cX3_result 18 = .ok (.iload_n 1, 1) := by decide +kernel
theorem dX3_result_19 : decode cX3_result 19 = .ok (.iload_n 3, 1) := by decide +kernel
theorem dX3_result_20 : decode cX3_result 20 = .ok (.invokestatic 120, 3) := by decide +kernel
theorem dX3_result_23 : decode cX3_result 23 = .ok (.ifCond .eq 22, 3) := by decide +kernel
theorem dX3_result_26 : decode cX3_result 26 = .ok (.iload_n 2, 1) := by decide +kernel
theorem dX3_result_27 : decode cX3_result 27 = .ok (.aload_n 0, 1) := by decide +kernel
theorem dX3_result_28 : decode cX3_result 28 = .ok (.getfield 10, 3) := by decide +kernel
theorem dX3_result_31 : decode cX3_result 31 = .ok (.iload_n 3, 1) := by decide +kernel
theorem dX3_result_32 : decode cX3_result 32 = .ok (.aload_n 0, 1) := by decide +kernel
theorem dX3_result_33 : decode cX3_result 33 = .ok (.getfield 19, 3) := by decide +kernel
theorem dX3_result_36 : decode cX3_result 36 = .ok (.iload_n 3, 1) := by decide +kernel
theorem dX3_result_37 : decode cX3_result 37 = .ok (.invokevirtual 104, 3) := by decide +kernel
theorem dX3_result_40 : decode cX3_result 40 = .ok (.invokevirtual 139, 3) := by decide +kernel
theorem dX3_result_43 : decode cX3_result 43 = .ok (.iadd, 1) := by decide +kernel
theorem dX3_result_44 : decode cX3_result 44 = .ok (.istore_n 2, 1) := by decide +kernel
theorem dX3_result_45 : decode cX3_result 45 = .ok (.iinc 3 1, 3) := by decide +kernel
theorem dX3_result_48 : decode cX3_result 48 = .ok (.goto (-36), 3) := by decide +kernel
theorem dX3_result_51 : decode cX3_result 51 = .ok (.iload_n 2, 1) := by decide +kernel
theorem dX3_result_52 : decode cX3_result 52 = .ok (.ireturn, 1) := by decide +kernel
set_option maxRecDepth 20000 in
theorem ggX3_minorityAmong_X3_isMember : GoodIn wsX3_minorityAmong wsX3_isMember := goodIn_r _ [6] (by decide +kernel) (by decide +kernel)
set_option maxRecDepth 20000 in
theorem gX3_minorityAmong_X3_isMember : GoodIn wsX3_minorityAmong (va_wsS RX3 120 yX3_isMember wsX3_isMember) := goodIn_app (goodIn_of _ (by decide +kernel)) ggX3_minorityAmong_X3_isMember
set_option maxRecDepth 20000 in
theorem ggX3_minorityAmong_X1_netOf : GoodIn wsX3_minorityAmong wsX1_netOf := goodIn_r _ [10, 11, 12, 13, 8, 14, 15, 16, 17, 18, 19, 20, 21, 22, 23, 24, 25, 26, 27, 28, 47, 48, 49, 50, 51, 52, 53] (by decide +kernel) (by decide +kernel)
set_option maxRecDepth 20000 in
theorem gX3_minorityAmong_X1_netOf_n62 : GoodIn wsX3_minorityAmong (wsX1_netOf) := ggX3_minorityAmong_X1_netOf
set_option maxRecDepth 20000 in
theorem ggX3_minorityAmong_X2_partOfOthers : GoodIn wsX3_minorityAmong wsX2_partOfOthers := goodIn_r _ [32, 33, 34, 35, 36, 30, 37, 38, 39, 22, 40, 54, 55, 56, 57, 58, 59] (by decide +kernel) (by decide +kernel)
set_option maxRecDepth 20000 in
theorem gX3_minorityAmong_X2_partOfOthers_n160 : GoodIn wsX3_minorityAmong (wsX2_partOfOthers) := ggX3_minorityAmong_X2_partOfOthers
theorem dX3_minorityAmong_0 : decode cX3_minorityAmong 0 = .ok (.iload_n 1, 1) := by decide +kernel
theorem dX3_minorityAmong_1 : decode cX3_minorityAmong 1 = .ok (.iload_n 2, 1) := by decide +kernel
theorem dX3_minorityAmong_2 : decode cX3_minorityAmong 2 = .ok (.invokestatic 120, 3) := by decide +kernel
theorem dX3_minorityAmong_5 : decode cX3_minorityAmong 5 = .ok (.ifCond .eq 22, 3) := by decide +kernel
theorem dX3_minorityAmong_8 : decode cX3_minorityAmong 8 = .ok (.aload_n 0, 1) := by decide +kernel
theorem dX3_minorityAmong_9 : decode cX3_minorityAmong 9 = .ok (.getfield 10, 3) := by decide +kernel
theorem dX3_minorityAmong_12 : decode cX3_minorityAmong 12 = .ok (.iload_n 2, 1) := by decide +kernel
theorem dX3_minorityAmong_13 : decode cX3_minorityAmong 13 = .ok (.aload_n 0, 1) := by decide +kernel
theorem dX3_minorityAmong_14 : decode cX3_minorityAmong 14 = .ok (.getfield 19, 3) := by decide +kernel
theorem dX3_minorityAmong_17 : decode cX3_minorityAmong 17 = .ok (.iload_n 2, 1) := by decide +kernel
theorem dX3_minorityAmong_18 : decode cX3_minorityAmong 18 = .ok (.invokevirtual 62, 3) := by decide +kernel
theorem dX3_minorityAmong_21 : decode cX3_minorityAmong 21 = .ok (.invokevirtual 160, 3) := by decide +kernel
theorem dX3_minorityAmong_24 : decode cX3_minorityAmong 24 = .ok (.goto 4, 3) := by decide +kernel
theorem dX3_minorityAmong_27 : decode cX3_minorityAmong 27 = .ok (.iconst 0, 1) := by decide +kernel
theorem dX3_minorityAmong_28 : decode cX3_minorityAmong 28 = .ok (.ireturn, 1) := by decide +kernel
theorem dX3_isMember_0 : decode cX3_isMember 0 = .ok (.iload_n 0, 1) := by decide +kernel
theorem dX3_isMember_1 : decode cX3_isMember 1 = .ok (.iload_n 1, 1) := by decide +kernel
theorem dX3_isMember_2 : decode cX3_isMember 2 = .ok (.ishr, 1) := by decide +kernel
theorem dX3_isMember_3 : decode cX3_isMember 3 = .ok (.iconst 1, 1) := by decide +kernel
theorem dX3_isMember_4 : decode cX3_isMember 4 = .ok (.iand, 1) := by decide +kernel
theorem dX3_isMember_5 : decode cX3_isMember 5 = .ok (.iconst 1, 1) := by decide +kernel
theorem dX3_isMember_6 : decode cX3_isMember 6 = .ok (.if_icmp .ne 7, 3) := by decide +kernel
theorem dX3_isMember_9 : decode cX3_isMember 9 = .ok (.iconst 1, 1) := by decide +kernel
theorem dX3_isMember_10 : decode cX3_isMember 10 = .ok (.goto 4, 3) := by decide +kernel
theorem dX3_isMember_13 : decode cX3_isMember 13 = .ok (.iconst 0, 1) := by decide +kernel
theorem dX3_isMember_14 : decode cX3_isMember 14 = .ok (.ireturn, 1) := by decide +kernel
set_option maxRecDepth 20000 in
theorem ggX3_requireCompany_X3_requireRange : GoodIn wsX3_requireCompany wsX3_requireRange := goodIn_ca (goodIn_r _ [4, 5, 6] (by decide +kernel) (by decide +kernel)) (goodIn_sub (fun _ h => List.mem_cons_of_mem _ (List.mem_append_right _ h)) (by decide +kernel))
set_option maxRecDepth 20000 in
theorem gX3_requireCompany_X3_requireRange : GoodIn wsX3_requireCompany (va_wsS RX3 45 yX3_requireRange wsX3_requireRange) := goodIn_app (goodIn_of _ (by decide +kernel)) ggX3_requireCompany_X3_requireRange
theorem dX3_requireCompany_0 : decode cX3_requireCompany 0 = .ok (.iload_n 0, 1) := by decide +kernel
theorem dX3_requireCompany_1 : decode cX3_requireCompany 1 = .ok (.iconst 0, 1) := by decide +kernel
theorem dX3_requireCompany_2 : decode cX3_requireCompany 2 = .ok (.iconst 5, 1) := by decide +kernel
theorem dX3_requireCompany_3 : decode cX3_requireCompany 3 = .ok (.invokestatic 45, 3) := by decide +kernel
theorem dX3_requireCompany_6 : decode cX3_requireCompany 6 = .ok (.return_, 1) := by decide +kernel
set_option maxRecDepth 20000 in
theorem ggX3_requireTwoCompanies_X3_requireCompany : GoodIn wsX3_requireTwoCompanies wsX3_requireCompany := goodIn_ca (goodIn_r _ [6, 7, 8, 5, 9, 1, 2] (by decide +kernel) (by decide +kernel)) (goodIn_sub (fun _ h => List.mem_cons_of_mem _ (List.mem_append_right _ h)) (by decide +kernel))
set_option maxRecDepth 20000 in
theorem gX3_requireTwoCompanies_X3_requireCompany : GoodIn wsX3_requireTwoCompanies (va_wsS RX3 71 yX3_requireCompany wsX3_requireCompany) := goodIn_app (goodIn_of _ (by decide +kernel)) ggX3_requireTwoCompanies_X3_requireCompany
theorem dX3_requireTwoCompanies_0 : decode cX3_requireTwoCompanies 0 = .ok (.iload_n 0, 1) := by decide +kernel
theorem dX3_requireTwoCompanies_1 : decode cX3_requireTwoCompanies 1 = .ok (.invokestatic 71, 3) := by decide +kernel
theorem dX3_requireTwoCompanies_4 : decode cX3_requireTwoCompanies 4 = .ok (.iload_n 1, 1) := by decide +kernel
theorem dX3_requireTwoCompanies_5 : decode cX3_requireTwoCompanies 5 = .ok (.invokestatic 71, 3) := by decide +kernel
theorem dX3_requireTwoCompanies_8 : decode cX3_requireTwoCompanies 8 = .ok (.iload_n 0, 1) := by decide +kernel
theorem dX3_requireTwoCompanies_9 : decode cX3_requireTwoCompanies 9 = .ok (.iload_n 1, 1) := by decide +kernel
theorem dX3_requireTwoCompanies_10 : decode cX3_requireTwoCompanies 10 = .ok (.if_icmp .ne 13, 3) := by decide +kernel
theorem dX3_requireTwoCompanies_13 : decode cX3_requireTwoCompanies 13 = .ok (.new 155, 3) := by decide +kernel
theorem dX3_requireTwoCompanies_16 : decode cX3_requireTwoCompanies 16 = .ok (.dup, 1) := by decide +kernel
theorem dX3_requireTwoCompanies_17 : decode cX3_requireTwoCompanies 17 = .ok (.ldc 163, 2) := by decide +kernel
theorem dX3_requireTwoCompanies_19 : decode cX3_requireTwoCompanies 19 = .ok (.invokespecial 159, 3) := by decide +kernel
theorem dX3_requireTwoCompanies_22 : decode cX3_requireTwoCompanies 22 = .ok (.athrow, 1) := by decide +kernel
theorem dX3_requireTwoCompanies_23 : decode cX3_requireTwoCompanies 23 = .ok (.return_, 1) := by decide +kernel
theorem dX3_requireRange_0 : decode cX3_requireRange 0 = .ok (.iload_n 0, 1) := by decide +kernel
theorem dX3_requireRange_1 : decode cX3_requireRange 1 = .ok (.iload_n 1, 1) := by decide +kernel
theorem dX3_requireRange_2 : decode cX3_requireRange 2 = .ok (.if_icmp .lt 8, 3) := by decide +kernel
theorem dX3_requireRange_5 : decode cX3_requireRange 5 = .ok (.iload_n 0, 1) := by decide +kernel
theorem dX3_requireRange_6 : decode cX3_requireRange 6 = .ok (.iload_n 2, 1) := by decide +kernel
theorem dX3_requireRange_7 : decode cX3_requireRange 7 = .ok (.if_icmp .le 13, 3) := by decide +kernel
theorem dX3_requireRange_10 : decode cX3_requireRange 10 = .ok (.new 155, 3) := by decide +kernel
theorem dX3_requireRange_13 : decode cX3_requireRange 13 = .ok (.dup, 1) := by decide +kernel
theorem dX3_requireRange_14 : decode cX3_requireRange 14 = .ok (.ldc 165, 2) := by decide +kernel
theorem dX3_requireRange_16 : decode cX3_requireRange 16 = .ok (.invokespecial 159, 3) := by decide +kernel
theorem dX3_requireRange_19 : decode cX3_requireRange 19 = .ok (.athrow, 1) := by decide +kernel
theorem dX3_requireRange_20 : decode cX3_requireRange 20 = .ok (.return_, 1) := by decide +kernel
theorem dX3_pair_0 : decode cX3_pair 0 = .ok (.iload_n 0, 1) := by decide +kernel
theorem dX3_pair_1 : decode cX3_pair 1 = .ok (.bipush 6, 2) := by decide +kernel
theorem dX3_pair_3 : decode cX3_pair 3 = .ok (.imul, 1) := by decide +kernel
theorem dX3_pair_4 : decode cX3_pair 4 = .ok (.iload_n 1, 1) := by decide +kernel
theorem dX3_pair_5 : decode cX3_pair 5 = .ok (.iadd, 1) := by decide +kernel
theorem dX3_pair_6 : decode cX3_pair 6 = .ok (.ireturn, 1) := by decide +kernel
theorem dJ9_floorDiv_7cf53_0 : decode cJ9_floorDiv_7cf53 0 = .ok (.iload_n 0, 1) := by decide +kernel
theorem dJ9_floorDiv_7cf53_1 : decode cJ9_floorDiv_7cf53 1 = .ok (.iload_n 1, 1) := by decide +kernel
theorem dJ9_floorDiv_7cf53_2 : decode cJ9_floorDiv_7cf53 2 = .ok (.idiv, 1) := by decide +kernel
theorem dJ9_floorDiv_7cf53_3 : decode cJ9_floorDiv_7cf53 3 = .ok (.istore_n 2, 1) := by decide +kernel
theorem dJ9_floorDiv_7cf53_4 : decode cJ9_floorDiv_7cf53 4 = .ok (.iload_n 0, 1) := by decide +kernel
theorem dJ9_floorDiv_7cf53_5 : decode cJ9_floorDiv_7cf53 5 = .ok (.iload_n 1, 1) := by decide +kernel
theorem dJ9_floorDiv_7cf53_6 : decode cJ9_floorDiv_7cf53 6 = .ok (.ixor, 1) := by decide +kernel
theorem dJ9_floorDiv_7cf53_7 : decode cJ9_floorDiv_7cf53 7 = .ok (.ifCond .ge 14, 3) := by decide +kernel
theorem dJ9_floorDiv_7cf53_10 : decode cJ9_floorDiv_7cf53 10 = .ok (.iload_n 2, 1) := by decide +kernel
theorem dJ9_floorDiv_7cf53_11 : decode cJ9_floorDiv_7cf53 11 = .ok (.iload_n 1, 1) := by decide +kernel
theorem dJ9_floorDiv_7cf53_12 : decode cJ9_floorDiv_7cf53 12 = .ok (.imul, 1) := by decide +kernel
theorem dJ9_floorDiv_7cf53_13 : decode cJ9_floorDiv_7cf53 13 = .ok (.iload_n 0, 1) := by decide +kernel
theorem dJ9_floorDiv_7cf53_14 : decode cJ9_floorDiv_7cf53 14 = .ok (.if_icmp .eq 7, 3) := by decide +kernel
theorem dJ9_floorDiv_7cf53_17 : decode cJ9_floorDiv_7cf53 17 = .ok (.iload_n 2, 1) := by decide +kernel
theorem dJ9_floorDiv_7cf53_18 : decode cJ9_floorDiv_7cf53 18 = .ok (.iconst 1, 1) := by decide +kernel
theorem dJ9_floorDiv_7cf53_19 : decode cJ9_floorDiv_7cf53 19 = .ok (.isub, 1) := by decide +kernel
theorem dJ9_floorDiv_7cf53_20 : decode cJ9_floorDiv_7cf53 20 = .ok (.ireturn, 1) := by decide +kernel
theorem dJ9_floorDiv_7cf53_21 : decode cJ9_floorDiv_7cf53 21 = .ok (.iload_n 2, 1) := by decide +kernel
theorem dJ9_floorDiv_7cf53_22 : decode cJ9_floorDiv_7cf53 22 = .ok (.ireturn, 1) := by decide +kernel
theorem dJ9_floorDiv_f86c9_0 : decode cJ9_floorDiv_f86c9 0 = .ok (.lload_n 0, 1) := by decide +kernel
theorem dJ9_floorDiv_f86c9_1 : decode cJ9_floorDiv_f86c9 1 = .ok (.lload_n 2, 1) := by decide +kernel
theorem dJ9_floorDiv_f86c9_2 : decode cJ9_floorDiv_f86c9 2 = .ok (.ldiv, 1) := by decide +kernel
theorem dJ9_floorDiv_f86c9_3 : decode cJ9_floorDiv_f86c9 3 = .ok (.lstore 4, 2) := by decide +kernel
theorem dJ9_floorDiv_f86c9_5 : decode cJ9_floorDiv_f86c9 5 = .ok (.lload_n 0, 1) := by decide +kernel
theorem dJ9_floorDiv_f86c9_6 : decode cJ9_floorDiv_f86c9 6 = .ok (.lload_n 2, 1) := by decide +kernel
theorem dJ9_floorDiv_f86c9_7 : decode cJ9_floorDiv_f86c9 7 = .ok (.lxor, 1) := by decide +kernel
theorem dJ9_floorDiv_f86c9_8 : decode cJ9_floorDiv_f86c9 8 = .ok (.lconst 0, 1) := by decide +kernel
theorem dJ9_floorDiv_f86c9_9 : decode cJ9_floorDiv_f86c9 9 = .ok (.lcmp, 1) := by decide +kernel
theorem dJ9_floorDiv_f86c9_10 : decode cJ9_floorDiv_f86c9 10 = .ok (.ifCond .ge 17, 3) := by decide +kernel
theorem dJ9_floorDiv_f86c9_13 : decode cJ9_floorDiv_f86c9 13 = .ok (.lload 4, 2) := by decide +kernel
theorem dJ9_floorDiv_f86c9_15 : decode cJ9_floorDiv_f86c9 15 = .ok (.lload_n 2, 1) := by decide +kernel
theorem dJ9_floorDiv_f86c9_16 : decode cJ9_floorDiv_f86c9 16 = .ok (.lmul, 1) := by decide +kernel
theorem dJ9_floorDiv_f86c9_17 : decode cJ9_floorDiv_f86c9 17 = .ok (.lload_n 0, 1) := by decide +kernel
theorem dJ9_floorDiv_f86c9_18 : decode cJ9_floorDiv_f86c9 18 = .ok (.lcmp, 1) := by decide +kernel
theorem dJ9_floorDiv_f86c9_19 : decode cJ9_floorDiv_f86c9 19 = .ok (.ifCond .eq 8, 3) := by decide +kernel
theorem dJ9_floorDiv_f86c9_22 : decode cJ9_floorDiv_f86c9 22 = .ok (.lload 4, 2) := by decide +kernel
theorem dJ9_floorDiv_f86c9_24 : decode cJ9_floorDiv_f86c9 24 = .ok (.lconst 1, 1) := by decide +kernel
theorem dJ9_floorDiv_f86c9_25 : decode cJ9_floorDiv_f86c9 25 = .ok (.lsub, 1) := by decide +kernel
theorem dJ9_floorDiv_f86c9_26 : decode cJ9_floorDiv_f86c9 26 = .ok (.lreturn, 1) := by decide +kernel
theorem dJ9_floorDiv_f86c9_27 : decode cJ9_floorDiv_f86c9 27 = .ok (.lload 4, 2) := by decide +kernel
theorem dJ9_floorDiv_f86c9_29 : decode cJ9_floorDiv_f86c9 29 = .ok (.lreturn, 1) := by decide +kernel
