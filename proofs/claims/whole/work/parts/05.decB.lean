set_option maxRecDepth 20000 in
theorem ggX3_init_X2_init : GoodIn wsX3_init wsX2_init := goodIn_r _ [21, 22, 2, 3, 16, 23, 24, 25, 26, 27, 28, 29, 45, 46, 47, 48, 49, 50] (by decide +kernel) (by decide +kernel)
set_option maxRecDepth 20000 in
theorem gX3_init_X2_init_n9 : GoodIn wsX3_init (wsX2_init) := ggX3_init_X2_init
set_option maxRecDepth 20000 in
theorem ggX3_init_X1_init : GoodIn wsX3_init wsX1_init := goodIn_r _ [31, 32, 2, 3, 16, 33, 34, 35, 36, 37, 38, 39, 57, 58, 59, 60, 61, 62, 63] (by decide +kernel) (by decide +kernel)
set_option maxRecDepth 20000 in
theorem gX3_init_X1_init_n18 : GoodIn wsX3_init (wsX1_init) := ggX3_init_X1_init
set_option maxRecDepth 20000 in
theorem ggX3_init_X0_init : GoodIn wsX3_init wsX0_init := goodIn_r _ [41, 42, 2, 3, 16, 43, 44, 64, 65] (by decide +kernel) (by decide +kernel)
set_option maxRecDepth 20000 in
theorem gX3_init_X0_init_n25 : GoodIn wsX3_init (wsX0_init) := ggX3_init_X0_init
theorem dX3_init_0 : decode cX3_init 0 = .ok (.aload_n 0, 1) := by decide +kernel
theorem dX3_init_1 : decode cX3_init 1 = .ok (.invokespecial 1, 3) := by decide +kernel
theorem dX3_init_4 : decode cX3_init 4 = .ok (.aload_n 0, 1) := by decide +kernel
theorem dX3_init_5 : decode cX3_init 5 = .ok (.new 7, 3) := by decide +kernel
theorem dX3_init_8 : decode cX3_init 8 = .ok (.dup, 1) := by decide +kernel
theorem dX3_init_9 : decode cX3_init 9 = .ok (.invokespecial 9, 3) := by decide +kernel
theorem dX3_init_12 : decode cX3_init 12 = .ok (.putfield 10, 3) := by decide +kernel
theorem dX3_init_15 : decode cX3_init 15 = .ok (.aload_n 0, 1) := by decide +kernel
theorem dX3_init_16 : decode cX3_init 16 = .ok (.new 16, 3) := by decide +kernel
theorem dX3_init_19 : decode cX3_init 19 = .ok (.dup, 1) := by decide +kernel
theorem dX3_init_20 : decode cX3_init 20 = .ok (.invokespecial 18, 3) := by decide +kernel
theorem dX3_init_23 : decode cX3_init 23 = .ok (.putfield 19, 3) := by decide +kernel
theorem dX3_init_26 : decode cX3_init 26 = .ok (.aload_n 0, 1) := by decide +kernel
theorem dX3_init_27 : decode cX3_init 27 = .ok (.new 23, 3) := by decide +kernel
theorem dX3_init_30 : decode cX3_init 30 = .ok (.dup, 1) := by decide +kernel
theorem dX3_init_31 : decode cX3_init 31 = .ok (.invokespecial 25, 3) := by decide +kernel
theorem dX3_init_34 : decode cX3_init 34 = .ok (.putfield 26, 3) := by decide +kernel
theorem dX3_init_37 : decode cX3_init 37 = .ok (.aload_n 0, 1) := by decide +kernel
theorem dX3_init_38 : decode cX3_init 38 = .ok (.bipush 6, 2) := by decide +kernel
theorem dX3_init_40 : decode cX3_init 40 = .ok (.newarray .int, 2) := by decide +kernel
theorem dX3_init_42 : decode cX3_init 42 = .ok (.putfield 30, 3) := by decide +kernel
theorem dX3_init_45 : decode cX3_init 45 = .ok (.aload_n 0, 1) := by decide +kernel
theorem dX3_init_46 : decode cX3_init 46 = .ok (.bipush 12, 2) := by decide +kernel
theorem dX3_init_48 : decode cX3_init 48 = .ok (.newarray .int, 2) := by decide +kernel
theorem dX3_init_50 : decode cX3_init 50 = .ok (.putfield 34, 3) := by decide +kernel
theorem dX3_init_53 : decode cX3_init 53 = .ok (.aload_n 0, 1) := by decide +kernel
theorem dX3_init_54 : decode cX3_init 54 = .ok (.iconst 0, 1) := by decide +kernel
theorem dX3_init_55 : decode cX3_init 55 = .ok (.putfield 37, 3) := by decide +kernel
theorem dX3_init_58 : decode cX3_init 58 = .ok (.return_, 1) := by decide +kernel
set_option maxRecDepth 20000 in
theorem ggX3_hold_X3_requireTwoCompanies : GoodIn wsX3_hold wsX3_requireTwoCompanies := goodIn_ca (goodIn_r _ [5, 6, 7, 8, 9, 4, 10, 11, 12, 13] (by decide +kernel) (by decide +kernel)) (goodIn_sub (fun _ h => List.mem_cons_of_mem _ (List.mem_append_left _ (List.mem_append_right _ h))) (by decide +kernel))
set_option maxRecDepth 20000 in
theorem gX3_hold_X3_requireTwoCompanies : GoodIn wsX3_hold (va_wsS RX3 41 yX3_requireTwoCompanies wsX3_requireTwoCompanies) := goodIn_app (goodIn_of _ (by decide +kernel)) ggX3_hold_X3_requireTwoCompanies
set_option maxRecDepth 20000 in
theorem ggX3_hold_X3_requireRange : GoodIn wsX3_hold wsX3_requireRange := goodIn_ca (goodIn_r _ [13, 6, 7] (by decide +kernel) (by decide +kernel)) (goodIn_sub (fun _ h => List.mem_cons_of_mem _ (List.mem_append_left _ (List.mem_append_right _ h))) (by decide +kernel))
set_option maxRecDepth 20000 in
theorem gX3_hold_X3_requireRange : GoodIn wsX3_hold (va_wsS RX3 45 yX3_requireRange wsX3_requireRange) := goodIn_app (goodIn_of _ (by decide +kernel)) ggX3_hold_X3_requireRange
set_option maxRecDepth 20000 in
theorem ggX3_hold_X2_percentOf : GoodIn wsX3_hold wsX2_percentOf := goodIn_r _ [17, 18, 19, 4, 20, 66, 67, 68, 69, 70, 71] (by decide +kernel) (by decide +kernel)
set_option maxRecDepth 20000 in
theorem gX3_hold_X2_percentOf_n49 : GoodIn wsX3_hold (wsX2_percentOf) := ggX3_hold_X2_percentOf
set_option maxRecDepth 20000 in
theorem ggX3_hold_X2_take : GoodIn wsX3_hold wsX2_take := goodIn_r _ [23, 18, 19, 4, 20, 24, 25, 26, 15, 27, 28, 29, 30, 31, 32, 33, 34, 35, 36, 37, 38, 39, 40, 41, 42, 43, 44, 45, 46, 47, 48, 49, 50, 51, 52, 53, 54, 66, 67, 68, 69, 70, 71] (by decide +kernel) (by decide +kernel)
set_option maxRecDepth 20000 in
theorem gX3_hold_X2_take_n53 : GoodIn wsX3_hold (wsX2_take) := ggX3_hold_X2_take
set_option maxRecDepth 20000 in
theorem ggX3_hold_X3_requireTaken : GoodIn wsX3_hold wsX3_requireTaken := goodIn_ca (goodIn_r _ [57, 58, 59] (by decide +kernel) (by decide +kernel)) (goodIn_sub (fun _ h => List.mem_cons_of_mem _ (List.mem_append_right _ h)) (by decide +kernel))
set_option maxRecDepth 20000 in
theorem gX3_hold_X3_requireTaken : GoodIn wsX3_hold (va_wsS RX3 57 yX3_requireTaken wsX3_requireTaken) := goodIn_app (goodIn_of _ (by decide +kernel)) ggX3_hold_X3_requireTaken
theorem dX3_hold_0 : decode cX3_hold 0 = .ok (.iload_n 1, 1) := by decide +kernel
theorem dX3_hold_1 : decode cX3_hold 1 = .ok (.iload_n 2, 1) := by decide +kernel
theorem dX3_hold_2 : decode cX3_hold 2 = .ok (.invokestatic 41, 3) := by decide +kernel
theorem dX3_hold_5 : decode cX3_hold 5 = .ok (.iload_n 3, 1) := by decide +kernel
theorem dX3_hold_6 : decode cX3_hold 6 = .ok (.iconst 0, 1) := by decide +kernel
theorem dX3_hold_7 : decode cX3_hold 7 = .ok (.bipush 100, 2) := by decide +kernel
theorem dX3_hold_9 : decode cX3_hold 9 = .ok (.invokestatic 45, 3) := by decide +kernel
theorem dX3_hold_12 : decode cX3_hold 12 = .ok (.aload_n 0, 1) := by decide +kernel
theorem dX3_hold_13 : decode cX3_hold 13 = .ok (.getfield 10, 3) := by decide +kernel
theorem dX3_hold_16 : decode cX3_hold 16 = .ok (.iload_n 1, 1) := by decide +kernel
theorem dX3_hold_17 : decode cX3_hold 17 = .ok (.iload_n 2, 1) := by decide +kernel
theorem dX3_hold_18 : decode cX3_hold 18 = .ok (.invokevirtual 49, 3) := by decide +kernel
theorem dX3_hold_21 : decode cX3_hold 21 = .ok (.istore 4, 2) := by decide +kernel
theorem dX3_hold_23 : decode cX3_hold 23 = .ok (.aload_n 0, 1) := by decide +kernel
theorem dX3_hold_24 : decode cX3_hold 24 = .ok (.getfield 10, 3) := by decide +kernel
theorem dX3_hold_27 : decode cX3_hold 27 = .ok (.iload_n 1, 1) := by decide +kernel
theorem dX3_hold_28 : decode cX3_hold 28 = .ok (.iload_n 2, 1) := by decide +kernel
theorem dX3_hold_29 : decode cX3_hold 29 = .ok (.iload_n 3, 1) := by decide +kernel
theorem dX3_hold_30 : decode cX3_hold 30 = .ok (.invokevirtual 53, 3) := by decide +kernel
theorem dX3_hold_33 : decode cX3_hold 33 = .ok (.invokestatic 57, 3) := by decide +kernel
theorem dX3_hold_36 : decode cX3_hold 36 = .ok (.iload 4, 2) := by decide +kernel
theorem dX3_hold_38 : decode cX3_hold 38 = .ok (.ireturn, 1) := by decide +kernel
set_option maxRecDepth 20000 in
theorem ggX3_acquire_X3_requireTwoCompanies : GoodIn wsX3_acquire wsX3_requireTwoCompanies := goodIn_ca (goodIn_r _ [8, 9, 10, 11, 12, 7, 13, 14, 15, 16] (by decide +kernel) (by decide +kernel)) (goodIn_sub (fun _ h => List.mem_cons_of_mem _ (List.mem_append_left _ (List.mem_append_right _ h))) (by decide +kernel))
set_option maxRecDepth 20000 in
theorem gX3_acquire_X3_requireTwoCompanies : GoodIn wsX3_acquire (va_wsS RX3 41 yX3_requireTwoCompanies wsX3_requireTwoCompanies) := goodIn_app (goodIn_of _ (by decide +kernel)) ggX3_acquire_X3_requireTwoCompanies
set_option maxRecDepth 20000 in
theorem ggX3_acquire_X3_requireRange : GoodIn wsX3_acquire wsX3_requireRange := goodIn_ca (goodIn_r _ [16, 9, 10] (by decide +kernel) (by decide +kernel)) (goodIn_sub (fun _ h => List.mem_cons_of_mem _ (List.mem_append_left _ (List.mem_append_right _ h))) (by decide +kernel))
set_option maxRecDepth 20000 in
theorem gX3_acquire_X3_requireRange : GoodIn wsX3_acquire (va_wsS RX3 45 yX3_requireRange wsX3_requireRange) := goodIn_app (goodIn_of _ (by decide +kernel)) ggX3_acquire_X3_requireRange
set_option maxRecDepth 20000 in
theorem ggX3_acquire_X2_percentOf : GoodIn wsX3_acquire wsX2_percentOf := goodIn_r _ [20, 21, 22, 7, 23, 92, 93, 94, 95, 96, 97] (by decide +kernel) (by decide +kernel)
set_option maxRecDepth 20000 in
theorem gX3_acquire_X2_percentOf_n49 : GoodIn wsX3_acquire (wsX2_percentOf) := ggX3_acquire_X2_percentOf
set_option maxRecDepth 20000 in
theorem ggX3_acquire_X2_take : GoodIn wsX3_acquire wsX2_take := goodIn_r _ [26, 21, 22, 7, 23, 27, 28, 29, 18, 30, 31, 32, 33, 34, 35, 36, 37, 38, 39, 40, 41, 42, 43, 44, 45, 46, 47, 48, 49, 50, 51, 52, 53, 54, 55, 56, 57, 92, 93, 94, 95, 96, 97] (by decide +kernel) (by decide +kernel)
set_option maxRecDepth 20000 in
theorem gX3_acquire_X2_take_n53 : GoodIn wsX3_acquire (wsX2_take) := ggX3_acquire_X2_take
set_option maxRecDepth 20000 in
theorem ggX3_acquire_X3_requireTaken : GoodIn wsX3_acquire wsX3_requireTaken := goodIn_ca (goodIn_r _ [60, 61, 62] (by decide +kernel) (by decide +kernel)) (goodIn_sub (fun _ h => List.mem_cons_of_mem _ (List.mem_append_right _ h)) (by decide +kernel))
set_option maxRecDepth 20000 in
theorem gX3_acquire_X3_requireTaken : GoodIn wsX3_acquire (va_wsS RX3 57 yX3_requireTaken wsX3_requireTaken) := goodIn_app (goodIn_of _ (by decide +kernel)) ggX3_acquire_X3_requireTaken
set_option maxRecDepth 20000 in
theorem ggX3_acquire_X1_netOf : GoodIn wsX3_acquire wsX1_netOf := goodIn_r _ [66, 67, 68, 69, 64, 70, 71, 72, 73, 74, 75, 76, 77, 78, 79, 80, 81, 82, 83, 84, 98, 99, 100, 101, 102, 103, 104] (by decide +kernel) (by decide +kernel)
set_option maxRecDepth 20000 in
theorem gX3_acquire_X1_netOf_n62 : GoodIn wsX3_acquire (wsX1_netOf) := ggX3_acquire_X1_netOf
set_option maxRecDepth 20000 in
theorem ggX3_acquire_J9_floorDiv_7cf53 : GoodIn wsX3_acquire wsJ9_floorDiv_7cf53 := goodIn_r _ [79] (by decide +kernel) (by decide +kernel)
set_option maxRecDepth 20000 in
theorem gX3_acquire_J9_floorDiv_7cf53 : GoodIn wsX3_acquire (va_wsS RX3 66 yJ9_floorDiv_7cf53 wsJ9_floorDiv_7cf53) := goodIn_app (goodIn_of _ (by decide +kernel)) ggX3_acquire_J9_floorDiv_7cf53
theorem dX3_acquire_0 : decode cX3_acquire 0 = .ok (.iload_n 1, 1) := by decide +kernel
theorem dX3_acquire_1 : decode cX3_acquire 1 = .ok (.iload_n 2, 1) := by decide +kernel
theorem dX3_acquire_2 : decode cX3_acquire 2 = .ok (.invokestatic 41, 3) := by decide +kernel
theorem dX3_acquire_5 : decode cX3_acquire 5 = .ok (.iload_n 3, 1) := by decide +kernel
theorem dX3_acquire_6 : decode cX3_acquire 6 = .ok (.iconst 1, 1) := by decide +kernel
theorem dX3_acquire_7 : decode cX3_acquire 7 = .ok (.bipush 100, 2) := by decide +kernel
theorem dX3_acquire_9 : decode cX3_acquire 9 = .ok (.invokestatic 45, 3) := by decide +kernel
theorem dX3_acquire_12 : decode cX3_acquire 12 = .ok (.iload 4, 2) := by decide +kernel
theorem dX3_acquire_14 : decode cX3_acquire 14 = .ok (.iconst 0, 1) := by decide +kernel
theorem dX3_acquire_15 : decode cX3_acquire 15 = .ok (.ldc 61, 2) := by decide +kernel
theorem dX3_acquire_17 : decode cX3_acquire 17 = .ok (.invokestatic 45, 3) := by decide +kernel
theorem dX3_acquire_20 : decode cX3_acquire 20 = .ok (.aload_n 0, 1) := by decide +kernel
theorem dX3_acquire_21 : decode cX3_acquire 21 = .ok (.getfield 10, 3) := by decide +kernel
theorem dX3_acquire_24 : decode cX3_acquire 24 = .ok (.iload_n 1, 1) := by decide +kernel
theorem dX3_acquire_25 : decode cX3_acquire 25 = .ok (.iload_n 2, 1) := by decide +kernel
theorem dX3_acquire_26 : decode cX3_acquire 26 = .ok (.invokevirtual 49, 3) := by decide +kernel
theorem dX3_acquire_29 : decode cX3_acquire 29 = .ok (.iload_n 3, 1) := by decide +kernel
theorem dX3_acquire_30 : decode cX3_acquire 30 = .ok (.iadd, 1) := by decide +kernel
theorem dX3_acquire_31 : decode cX3_acquire 31 = .ok (.istore 5, 2) := by decide +kernel
theorem dX3_acquire_33 : decode cX3_acquire 33 = .ok (.aload_n 0, 1) := by decide +kernel
theorem dX3_acquire_34 : decode cX3_acquire 34 = .ok (.getfield 10, 3) := by decide +kernel
theorem dX3_acquire_37 : decode cX3_acquire 37 = .ok (.iload_n 1, 1) := by decide +kernel
theorem dX3_acquire_38 : decode cX3_acquire 38 = .ok (.iload_n 2, 1) := by decide +kernel
theorem dX3_acquire_39 : decode cX3_acquire 39 = .ok (.iload 5, 2) := by decide +kernel
theorem dX3_acquire_41 : decode cX3_acquire 41 = .ok (.invokevirtual 53, 3) := by decide +kernel
theorem dX3_acquire_44 : decode cX3_acquire 44 = .ok (.invokestatic 57, 3) := by decide +kernel
theorem dX3_acquire_47 : decode cX3_acquire 47 = .ok (.aload_n 0, 1) := by decide +kernel
theorem dX3_acquire_48 : decode cX3_acquire 48 = .ok (.getfield 30, 3) := by decide +kernel
theorem dX3_acquire_51 : decode cX3_acquire 51 = .ok (.iload_n 2, 1) := by decide +kernel
theorem dX3_acquire_52 : decode cX3_acquire 52 = .ok (.dup2, 1) := by decide +kernel
theorem dX3_acquire_53 : decode cX3_acquire 53 = .ok (.iaload, 1) := by decide +kernel
theorem dX3_acquire_54 : decode cX3_acquire 54 = .ok (.iload 4, 2) := by decide +kernel
theorem dX3_acquire_56 : decode cX3_acquire 56 = .ok (.iload_n 3, 1) := by decide +kernel
theorem dX3_acquire_57 : decode cX3_acquire 57 = .ok (.aload_n 0, 1) := by decide +kernel
theorem dX3_acquire_58 : decode cX3_acquire 58 = .ok (.getfield 19, 3) := by decide +kernel
theorem dX3_acquire_61 : decode cX3_acquire 61 = .ok (.iload_n 2, 1) := by decide +kernel
theorem dX3_acquire_62 : decode cX3_acquire 62 = .ok (.invokevirtual 62, 3) := by decide +kernel
theorem dX3_acquire_65 : decode cX3_acquire 65 = .ok (.imul, 1) := by decide +kernel
theorem dX3_acquire_66 : decode cX3_acquire 66 = .ok (.bipush 100, 2) := by decide +kernel
theorem dX3_acquire_68 : decode cX3_acquire 68 = .ok (.invokestatic 66, 3) := by decide +kernel
theorem dX3_acquire_71 : decode cX3_acquire 71 = .ok (.isub, 1) := by decide +kernel
theorem dX3_acquire_72 : decode cX3_acquire 72 = .ok (.iadd, 1) := by decide +kernel
theorem dX3_acquire_73 : decode cX3_acquire 73 = .ok (.iastore, 1) := by decide +kernel
theorem dX3_acquire_74 : decode cX3_acquire 74 = .ok (.iload 5, 2) := by decide +kernel
theorem dX3_acquire_76 : decode cX3_acquire 76 = .ok (.ireturn, 1) := by decide +kernel
set_option maxRecDepth 20000 in
theorem ggX3_held_X3_requireCompany : GoodIn wsX3_held wsX3_requireCompany := goodIn_ca (goodIn_r _ [5, 6, 7, 4, 8, 9, 10] (by decide +kernel) (by decide +kernel)) (goodIn_sub (fun _ h => List.mem_cons_of_mem _ (List.mem_append_right _ h)) (by decide +kernel))
set_option maxRecDepth 20000 in
theorem gX3_held_X3_requireCompany : GoodIn wsX3_held (va_wsS RX3 71 yX3_requireCompany wsX3_requireCompany) := goodIn_app (goodIn_of _ (by decide +kernel)) ggX3_held_X3_requireCompany
set_option maxRecDepth 20000 in
theorem ggX3_held_X2_percentOf : GoodIn wsX3_held wsX2_percentOf := goodIn_r _ [14, 15, 16, 4, 17, 24, 25, 26, 27, 28, 29] (by decide +kernel) (by decide +kernel)
set_option maxRecDepth 20000 in
theorem gX3_held_X2_percentOf_n49 : GoodIn wsX3_held (wsX2_percentOf) := ggX3_held_X2_percentOf
theorem dX3_held_0 : decode cX3_held 0 = .ok (.iload_n 1, 1) := by decide +kernel
theorem dX3_held_1 : decode cX3_held 1 = .ok (.invokestatic 71, 3) := by decide +kernel
theorem dX3_held_4 : decode cX3_held 4 = .ok (.iload_n 2, 1) := by decide +kernel
theorem dX3_held_5 : decode cX3_held 5 = .ok (.invokestatic 71, 3) := by decide +kernel
theorem dX3_held_8 : decode cX3_held 8 = .ok (.aload_n 0, 1) := by decide +kernel
theorem dX3_held_9 : decode cX3_held 9 = .ok (.getfield 10, 3) := by decide +kernel
theorem dX3_held_12 : decode cX3_held 12 = .ok (.iload_n 1, 1) := by decide +kernel
theorem dX3_held_13 : decode cX3_held 13 = .ok (.iload_n 2, 1) := by decide +kernel
theorem dX3_held_14 : decode cX3_held 14 = .ok (.invokevirtual 49, 3) := by decide +kernel
theorem dX3_held_17 : decode cX3_held 17 = .ok (.ireturn, 1) := by decide +kernel
set_option maxRecDepth 20000 in
theorem ggX3_shareNumerator_X3_requireCompany : GoodIn wsX3_shareNumerator wsX3_requireCompany := goodIn_ca (goodIn_r _ [5, 6, 7, 4, 8, 9, 10] (by decide +kernel) (by decide +kernel)) (goodIn_sub (fun _ h => List.mem_cons_of_mem _ (List.mem_append_right _ h)) (by decide +kernel))
set_option maxRecDepth 20000 in
theorem gX3_shareNumerator_X3_requireCompany : GoodIn wsX3_shareNumerator (va_wsS RX3 71 yX3_requireCompany wsX3_requireCompany) := goodIn_app (goodIn_of _ (by decide +kernel)) ggX3_shareNumerator_X3_requireCompany
set_option maxRecDepth 20000 in
theorem ggX3_shareNumerator_X2_numeratorOf : GoodIn wsX3_shareNumerator wsX2_numeratorOf := goodIn_r _ [14, 15, 22, 23, 24, 25, 26, 27] (by decide +kernel) (by decide +kernel)
set_option maxRecDepth 20000 in
theorem gX3_shareNumerator_X2_numeratorOf_n75 : GoodIn wsX3_shareNumerator (wsX2_numeratorOf) := ggX3_shareNumerator_X2_numeratorOf
theorem dX3_shareNumerator_0 : decode cX3_shareNumerator 0 = .ok (.iload_n 1, 1) := by decide +kernel
theorem dX3_shareNumerator_1 : decode cX3_shareNumerator 1 = .ok (.invokestatic 71, 3) := by decide +kernel
theorem dX3_shareNumerator_4 : decode cX3_shareNumerator 4 = .ok (.aload_n 0, 1) := by decide +kernel
theorem dX3_shareNumerator_5 : decode cX3_shareNumerator 5 = .ok (.getfield 10, 3) := by decide +kernel
theorem dX3_shareNumerator_8 : decode cX3_shareNumerator 8 = .ok (.iload_n 1, 1) := by decide +kernel
theorem dX3_shareNumerator_9 : decode cX3_shareNumerator 9 = .ok (.invokevirtual 75, 3) := by decide +kernel
theorem dX3_shareNumerator_12 : decode cX3_shareNumerator 12 = .ok (.lreturn, 1) := by decide +kernel
set_option maxRecDepth 20000 in
theorem ggX3_shareDenominator_X3_requireCompany : GoodIn wsX3_shareDenominator wsX3_requireCompany := goodIn_ca (goodIn_r _ [5, 6, 7, 4, 8, 9, 10] (by decide +kernel) (by decide +kernel)) (goodIn_sub (fun _ h => List.mem_cons_of_mem _ (List.mem_append_right _ h)) (by decide +kernel))
set_option maxRecDepth 20000 in
theorem gX3_shareDenominator_X3_requireCompany : GoodIn wsX3_shareDenominator (va_wsS RX3 71 yX3_requireCompany wsX3_requireCompany) := goodIn_app (goodIn_of _ (by decide +kernel)) ggX3_shareDenominator_X3_requireCompany
set_option maxRecDepth 20000 in
theorem ggX3_shareDenominator_X2_denominatorOf : GoodIn wsX3_shareDenominator wsX2_denominatorOf := goodIn_r _ [14, 15, 22, 23, 24, 25, 26, 27] (by decide +kernel) (by decide +kernel)
set_option maxRecDepth 20000 in
theorem gX3_shareDenominator_X2_denominatorOf_n79 : GoodIn wsX3_shareDenominator (wsX2_denominatorOf) := ggX3_shareDenominator_X2_denominatorOf
theorem dX3_shareDenominator_0 : decode cX3_shareDenominator 0 = .ok (.iload_n 1, 1) := by decide +kernel
theorem dX3_shareDenominator_1 : decode cX3_shareDenominator 1 = .ok (.invokestatic 71, 3) := by decide +kernel
theorem dX3_shareDenominator_4 : decode cX3_shareDenominator 4 = .ok (.aload_n 0, 1) := by decide +kernel
theorem dX3_shareDenominator_5 : decode cX3_shareDenominator 5 = .ok (.getfield 10, 3) := by decide +kernel
theorem dX3_shareDenominator_8 : decode cX3_shareDenominator 8 = .ok (.iload_n 1, 1) := by decide +kernel
theorem dX3_shareDenominator_9 : decode cX3_shareDenominator 9 = .ok (.invokevirtual 79, 3) := by decide +kernel
theorem dX3_shareDenominator_12 : decode cX3_shareDenominator 12 = .ok (.lreturn, 1) := by decide +kernel
set_option maxRecDepth 20000 in
theorem ggX3_shareByRounds_X3_requireCompany : GoodIn wsX3_shareByRounds wsX3_requireCompany := goodIn_ca (goodIn_r _ [5, 6, 7, 4, 8, 9, 10] (by decide +kernel) (by decide +kernel)) (goodIn_sub (fun _ h => List.mem_cons_of_mem _ (List.mem_append_right _ h)) (by decide +kernel))
set_option maxRecDepth 20000 in
theorem gX3_shareByRounds_X3_requireCompany : GoodIn wsX3_shareByRounds (va_wsS RX3 71 yX3_requireCompany wsX3_requireCompany) := goodIn_app (goodIn_of _ (by decide +kernel)) ggX3_shareByRounds_X3_requireCompany
set_option maxRecDepth 20000 in
theorem ggX3_shareByRounds_X3_requireRange : GoodIn wsX3_shareByRounds wsX3_requireRange := goodIn_ca (goodIn_r _ [8, 9, 10] (by decide +kernel) (by decide +kernel)) (goodIn_sub (fun _ h => List.mem_cons_of_mem _ (List.mem_append_right _ h)) (by decide +kernel))
set_option maxRecDepth 20000 in
theorem gX3_shareByRounds_X3_requireRange : GoodIn wsX3_shareByRounds (va_wsS RX3 45 yX3_requireRange wsX3_requireRange) := goodIn_app (goodIn_of _ (by decide +kernel)) ggX3_shareByRounds_X3_requireRange
set_option maxRecDepth 20000 in
theorem ggX3_shareByRounds_X2_millionthsAfter : GoodIn wsX3_shareByRounds wsX2_millionthsAfter := goodIn_r _ [14, 15, 16, 17, 18, 19, 12, 20, 21, 22, 23, 4, 24, 31, 32, 33, 34, 35, 36] (by decide +kernel) (by decide +kernel)
set_option maxRecDepth 20000 in
theorem gX3_shareByRounds_X2_millionthsAfter_n82 : GoodIn wsX3_shareByRounds (wsX2_millionthsAfter) := ggX3_shareByRounds_X2_millionthsAfter
theorem dX3_shareByRounds_0 : decode cX3_shareByRounds 0 = .ok (.iload_n 1, 1) := by decide +kernel
theorem dX3_shareByRounds_1 : decode cX3_shareByRounds 1 = .ok (.invokestatic 71, 3) := by decide +kernel
theorem dX3_shareByRounds_4 : decode cX3_shareByRounds 4 = .ok (.iload_n 2, 1) := by decide +kernel
theorem dX3_shareByRounds_5 : decode cX3_shareByRounds 5 = .ok (.iconst 0, 1) := by decide +kernel
theorem dX3_shareByRounds_6 : decode cX3_shareByRounds 6 = .ok (.sipush 200, 3) := by decide +kernel
theorem dX3_shareByRounds_9 : decode cX3_shareByRounds 9 = .ok (.invokestatic 45, 3) := by decide +kernel
theorem dX3_shareByRounds_12 : decode cX3_shareByRounds 12 = .ok (.aload_n 0, 1) := by decide +kernel
theorem dX3_shareByRounds_13 : decode cX3_shareByRounds 13 = .ok (.getfield 10, 3) := by decide +kernel
theorem dX3_shareByRounds_16 : decode cX3_shareByRounds 16 = .ok (.iload_n 2, 1) := by decide +kernel
theorem dX3_shareByRounds_17 : decode cX3_shareByRounds 17 = .ok (.iload_n 1, 1) := by decide +kernel
theorem dX3_shareByRounds_18 : decode cX3_shareByRounds 18 = .ok (.invokevirtual 82, 3) := by decide +kernel
theorem dX3_shareByRounds_21 : decode cX3_shareByRounds 21 = .ok (.ireturn, 1) := by decide +kernel
set_option maxRecDepth 20000 in
theorem ggX3_group_X2_members : GoodIn wsX3_group wsX2_members := goodIn_r _ [5, 6, 7, 8, 3, 9, 10, 11, 12, 13, 14, 15, 16, 17, 18, 19, 26, 27, 28, 29, 30, 31] (by decide +kernel) (by decide +kernel)
set_option maxRecDepth 20000 in
theorem gX3_group_X2_members_n85 : GoodIn wsX3_group (wsX2_members) := ggX3_group_X2_members
theorem dX3_group_0 : decode cX3_group 0 = .ok (.aload_n 0, 1) := by decide +kernel
theorem dX3_group_1 : decode cX3_group 1 = .ok (.getfield 10, 3) := by decide +kernel
theorem dX3_group_4 : decode cX3_group 4 = .ok (.invokevirtual 85, 3) := by decide +kernel
theorem dX3_group_7 : decode cX3_group 7 = .ok (.ireturn, 1) := by decide +kernel
set_option maxRecDepth 20000 in
theorem ggX3_goodwill_X3_requireCompany : GoodIn wsX3_goodwill wsX3_requireCompany := goodIn_ca (goodIn_r _ [5, 6, 7, 4, 8, 9, 10] (by decide +kernel) (by decide +kernel)) (goodIn_sub (fun _ h => List.mem_cons_of_mem _ (List.mem_append_right _ h)) (by decide +kernel))
set_option maxRecDepth 20000 in
theorem gX3_goodwill_X3_requireCompany : GoodIn wsX3_goodwill (va_wsS RX3 71 yX3_requireCompany wsX3_requireCompany) := goodIn_app (goodIn_of _ (by decide +kernel)) ggX3_goodwill_X3_requireCompany
theorem dX3_goodwill_0 : decode cX3_goodwill 0 = .ok (.iload_n 1, 1) := by decide +kernel
theorem dX3_goodwill_1 : decode cX3_goodwill 1 = .ok (.invokestatic 71, 3) := by decide +kernel
theorem dX3_goodwill_4 : decode cX3_goodwill 4 = .ok (.aload_n 0, 1) := by decide +kernel
theorem dX3_goodwill_5 : decode cX3_goodwill 5 = .ok (.getfield 30, 3) := by decide +kernel
theorem dX3_goodwill_8 : decode cX3_goodwill 8 = .ok (.iload_n 1, 1) := by decide +kernel
theorem dX3_goodwill_9 : decode cX3_goodwill 9 = .ok (.iaload, 1) := by decide +kernel
theorem dX3_goodwill_10 : decode cX3_goodwill 10 = .ok (.ireturn, 1) := by decide +kernel
set_option maxRecDepth 20000 in
theorem ggX3_setBooks_X3_requireCompany : GoodIn wsX3_setBooks wsX3_requireCompany := goodIn_ca (goodIn_r _ [7, 8, 9, 6, 10, 11, 12] (by decide +kernel) (by decide +kernel)) (goodIn_sub (fun _ h => List.mem_cons_of_mem _ (List.mem_append_right _ h)) (by decide +kernel))
set_option maxRecDepth 20000 in
theorem gX3_setBooks_X3_requireCompany : GoodIn wsX3_setBooks (va_wsS RX3 71 yX3_requireCompany wsX3_requireCompany) := goodIn_app (goodIn_of _ (by decide +kernel)) ggX3_setBooks_X3_requireCompany
set_option maxRecDepth 20000 in
theorem ggX3_setBooks_X3_requireRange : GoodIn wsX3_setBooks wsX3_requireRange := goodIn_ca (goodIn_r _ [10, 11, 12] (by decide +kernel) (by decide +kernel)) (goodIn_sub (fun _ h => List.mem_cons_of_mem _ (List.mem_append_right _ h)) (by decide +kernel))
set_option maxRecDepth 20000 in
theorem gX3_setBooks_X3_requireRange : GoodIn wsX3_setBooks (va_wsS RX3 45 yX3_requireRange wsX3_requireRange) := goodIn_app (goodIn_of _ (by decide +kernel)) ggX3_setBooks_X3_requireRange
set_option maxRecDepth 20000 in
theorem ggX3_setBooks_X3_requireBalance : GoodIn wsX3_setBooks wsX3_requireBalance := goodIn_ca (goodIn_r _ [15, 11, 12] (by decide +kernel) (by decide +kernel)) (goodIn_sub (fun _ h => List.mem_cons_of_mem _ (List.mem_append_right _ h)) (by decide +kernel))
set_option maxRecDepth 20000 in
theorem gX3_setBooks_X3_requireBalance : GoodIn wsX3_setBooks (va_wsS RX3 90 yX3_requireBalance wsX3_requireBalance) := goodIn_app (goodIn_of _ (by decide +kernel)) ggX3_setBooks_X3_requireBalance
set_option maxRecDepth 20000 in
theorem ggX3_setBooks_X1_enter : GoodIn wsX3_setBooks wsX1_enter := goodIn_r _ [19, 20, 21, 22, 23, 30, 31, 32, 33, 34, 35, 36] (by decide +kernel) (by decide +kernel)
set_option maxRecDepth 20000 in
theorem gX3_setBooks_X1_enter_n93 : GoodIn wsX3_setBooks (wsX1_enter) := ggX3_setBooks_X1_enter
theorem dX3_setBooks_0 : decode cX3_setBooks 0 = .ok (.iload_n 1, 1) := by decide +kernel
theorem dX3_setBooks_1 : decode cX3_setBooks 1 = .ok (.invokestatic 71, 3) := by decide +kernel
theorem dX3_setBooks_4 : decode cX3_setBooks 4 = .ok (.iload_n 2, 1) := by decide +kernel
theorem dX3_setBooks_5 : decode cX3_setBooks 5 = .ok (.iconst 0, 1) := by decide +kernel
theorem dX3_setBooks_6 : decode cX3_setBooks 6 = .ok (.ldc 61, 2) := by decide +kernel
theorem dX3_setBooks_8 : decode cX3_setBooks 8 = .ok (.invokestatic 45, 3) := by decide +kernel
theorem dX3_setBooks_11 : decode cX3_setBooks 11 = .ok (.iload_n 3, 1) := by decide +kernel
theorem dX3_setBooks_12 : decode cX3_setBooks 12 = .ok (.iconst 0, 1) := by decide +kernel
theorem dX3_setBooks_13 : decode cX3_setBooks 13 = .ok (.ldc 61, 2) := by decide +kernel
theorem dX3_setBooks_15 : decode cX3_setBooks 15 = .ok (.invokestatic 45, 3) := by decide +kernel
theorem dX3_setBooks_18 : decode cX3_setBooks 18 = .ok (.iload 4, 2) := by decide +kernel
theorem dX3_setBooks_20 : decode cX3_setBooks 20 = .ok (.ldc 89, 2) := by decide +kernel
theorem dX3_setBooks_22 : decode cX3_setBooks 22 = .ok (.ldc 61, 2) := by decide +kernel
theorem dX3_setBooks_24 : decode cX3_setBooks 24 = .ok (.invokestatic 45, 3) := by decide +kernel
theorem dX3_setBooks_27 : decode cX3_setBooks 27 = .ok (.iload 5, 2) := by decide +kernel
theorem dX3_setBooks_29 : decode cX3_setBooks 29 = .ok (.ldc 89, 2) := by decide +kernel
theorem dX3_setBooks_31 : decode cX3_setBooks 31 = .ok (.ldc 61, 2) := by decide +kernel
theorem dX3_setBooks_33 : decode cX3_setBooks 33 = .ok (.invokestatic 45, 3) := by decide +kernel
theorem dX3_setBooks_36 : decode cX3_setBooks 36 = .ok (.iload_n 2, 1) := by decide +kernel
theorem dX3_setBooks_37 : decode cX3_setBooks 37 = .ok (.iload_n 3, 1) := by decide +kernel
theorem dX3_setBooks_38 : decode cX3_setBooks 38 = .ok (.iload 4, 2) := by decide +kernel
theorem dX3_setBooks_40 : decode cX3_setBooks 40 = .ok (.iadd, 1) := by decide +kernel
theorem dX3_setBooks_41 : decode cX3_setBooks 41 = .ok (.iload 5, 2) := by decide +kernel
theorem dX3_setBooks_43 : decode cX3_setBooks 43 = .ok (.iadd, 1) := by decide +kernel
theorem dX3_setBooks_44 : decode cX3_setBooks 44 = .ok (.invokestatic 90, 3) := by decide +kernel
theorem dX3_setBooks_47 : decode cX3_setBooks 47 = .ok (.aload_n 0, 1) := by decide +kernel
theorem dX3_setBooks_48 : decode cX3_setBooks 48 = .ok (.getfield 19, 3) := by decide +kernel
theorem dX3_setBooks_51 : decode cX3_setBooks 51 = .ok (.iload_n 1, 1) := by decide +kernel
theorem dX3_setBooks_52 : decode cX3_setBooks 52 = .ok (.iload_n 2, 1) := by decide +kernel
theorem dX3_setBooks_53 : decode cX3_setBooks 53 = .ok (.iload_n 3, 1) := by decide +kernel
theorem dX3_setBooks_54 : decode cX3_setBooks 54 = .ok (.iload 4, 2) := by decide +kernel
theorem dX3_setBooks_56 : decode cX3_setBooks 56 = .ok (.iload 5, 2) := by decide +kernel
theorem dX3_setBooks_58 : decode cX3_setBooks 58 = .ok (.invokevirtual 93, 3) := by decide +kernel
theorem dX3_setBooks_61 : decode cX3_setBooks 61 = .ok (.return_, 1) := by decide +kernel
set_option maxRecDepth 20000 in
theorem ggX3_setRates_X3_requireCompany : GoodIn wsX3_setRates wsX3_requireCompany := goodIn_ca (goodIn_r _ [5, 6, 7, 4, 8, 9, 10] (by decide +kernel) (by decide +kernel)) (goodIn_sub (fun _ h => List.mem_cons_of_mem _ (List.mem_append_right _ h)) (by decide +kernel))
set_option maxRecDepth 20000 in
theorem gX3_setRates_X3_requireCompany : GoodIn wsX3_setRates (va_wsS RX3 71 yX3_requireCompany wsX3_requireCompany) := goodIn_app (goodIn_of _ (by decide +kernel)) ggX3_setRates_X3_requireCompany
set_option maxRecDepth 20000 in
theorem ggX3_setRates_X3_requireRange : GoodIn wsX3_setRates wsX3_requireRange := goodIn_ca (goodIn_r _ [8, 9, 10] (by decide +kernel) (by decide +kernel)) (goodIn_sub (fun _ h => List.mem_cons_of_mem _ (List.mem_append_right _ h)) (by decide +kernel))
set_option maxRecDepth 20000 in
theorem gX3_setRates_X3_requireRange : GoodIn wsX3_setRates (va_wsS RX3 45 yX3_requireRange wsX3_requireRange) := goodIn_app (goodIn_of _ (by decide +kernel)) ggX3_setRates_X3_requireRange
set_option maxRecDepth 20000 in
theorem ggX3_setRates_X1_enterRates : GoodIn wsX3_setRates wsX1_enterRates := goodIn_r _ [14, 15, 16, 17, 24, 25, 26, 27, 28, 29, 30] (by decide +kernel) (by decide +kernel)
set_option maxRecDepth 20000 in
theorem gX3_setRates_X1_enterRates_n97 : GoodIn wsX3_setRates (wsX1_enterRates) := ggX3_setRates_X1_enterRates
theorem dX3_setRates_0 : decode cX3_setRates 0 = .ok (.iload_n 1, 1) := by decide +kernel
theorem dX3_setRates_1 : decode cX3_setRates 1 = .ok (.invokestatic 71, 3) := by decide +kernel
theorem dX3_setRates_4 : decode cX3_setRates 4 = .ok (.iload_n 2, 1) := by decide +kernel
theorem dX3_setRates_5 : decode cX3_setRates 5 = .ok (.iconst 1, 1) := by decide +kernel
theorem dX3_setRates_6 : decode cX3_setRates 6 = .ok (.sipush 1000, 3) := by decide +kernel
theorem dX3_setRates_9 : decode cX3_setRates 9 = .ok (.invokestatic 45, 3) := by decide +kernel
theorem dX3_setRates_12 : decode cX3_setRates 12 = .ok (.iload_n 3, 1) := by decide +kernel
theorem dX3_setRates_13 : decode cX3_setRates 13 = .ok (.iconst 1, 1) := by decide +kernel
theorem dX3_setRates_14 : decode cX3_setRates 14 = .ok (.sipush 1000, 3) := by decide +kernel
theorem dX3_setRates_17 : decode cX3_setRates 17 = .ok (.invokestatic 45, 3) := by decide +kernel
theorem dX3_setRates_20 : decode cX3_setRates 20 = .ok (.iload 4, 2) := by decide +kernel
theorem dX3_setRates_22 : decode cX3_setRates 22 = .ok (.iconst 1, 1) := by decide +kernel
theorem dX3_setRates_23 : decode cX3_setRates 23 = .ok (.sipush 1000, 3) := by decide +kernel
theorem dX3_setRates_26 : decode cX3_setRates 26 = .ok (.invokestatic 45, 3) := by decide +kernel
theorem dX3_setRates_29 : decode cX3_setRates 29 = .ok (.aload_n 0, 1) := by decide +kernel
theorem dX3_setRates_30 : decode cX3_setRates 30 = .ok (.getfield 19, 3) := by decide +kernel
theorem dX3_setRates_33 : decode cX3_setRates 33 = .ok (.iload_n 1, 1) := by decide +kernel
theorem dX3_setRates_34 : decode cX3_setRates 34 = .ok (.iload_n 2, 1) := by decide +kernel
theorem dX3_setRates_35 : decode cX3_setRates 35 = .ok (.iload_n 3, 1) := by decide +kernel
theorem dX3_setRates_36 : decode cX3_setRates 36 = .ok (.iload 4, 2) := by decide +kernel
theorem dX3_setRates_38 : decode cX3_setRates 38 = .ok (.invokevirtual 97, 3) := by decide +kernel
theorem dX3_setRates_41 : decode cX3_setRates 41 = .ok (.return_, 1) := by decide +kernel
set_option maxRecDepth 20000 in
theorem ggX3_netValue_X3_requireCompany : GoodIn wsX3_netValue wsX3_requireCompany := goodIn_ca (goodIn_r _ [5, 6, 7, 4, 8, 9, 10] (by decide +kernel) (by decide +kernel)) (goodIn_sub (fun _ h => List.mem_cons_of_mem _ (List.mem_append_right _ h)) (by decide +kernel))
set_option maxRecDepth 20000 in
theorem gX3_netValue_X3_requireCompany : GoodIn wsX3_netValue (va_wsS RX3 71 yX3_requireCompany wsX3_requireCompany) := goodIn_app (goodIn_of _ (by decide +kernel)) ggX3_netValue_X3_requireCompany
set_option maxRecDepth 20000 in
theorem ggX3_netValue_X1_netOf : GoodIn wsX3_netValue wsX1_netOf := goodIn_r _ [14, 15, 16, 17, 12, 18, 19, 20, 21, 22, 23, 24, 25, 26, 27, 28, 29, 30, 31, 32, 39, 40, 41, 42, 43, 44, 45] (by decide +kernel) (by decide +kernel)
set_option maxRecDepth 20000 in
theorem gX3_netValue_X1_netOf_n62 : GoodIn wsX3_netValue (wsX1_netOf) := ggX3_netValue_X1_netOf
theorem dX3_netValue_0 : decode cX3_netValue 0 = .ok (.iload_n 1, 1) := by decide +kernel
theorem dX3_netValue_1 : decode cX3_netValue 1 = .ok (.invokestatic 71, 3) := by decide +kernel
theorem dX3_netValue_4 : decode cX3_netValue 4 = .ok (.aload_n 0, 1) := by decide +kernel
theorem dX3_netValue_5 : decode cX3_netValue 5 = .ok (.getfield 19, 3) := by decide +kernel
theorem dX3_netValue_8 : decode cX3_netValue 8 = .ok (.iload_n 1, 1) := by decide +kernel
theorem dX3_netValue_9 : decode cX3_netValue 9 = .ok (.invokevirtual 62, 3) := by decide +kernel
theorem dX3_netValue_12 : decode cX3_netValue 12 = .ok (.ireturn, 1) := by decide +kernel
set_option maxRecDepth 20000 in
theorem ggX3_translatedEquity_X3_requireCompany : GoodIn wsX3_translatedEquity wsX3_requireCompany := goodIn_ca (goodIn_r _ [5, 6, 7, 4, 8, 9, 10] (by decide +kernel) (by decide +kernel)) (goodIn_sub (fun _ h => List.mem_cons_of_mem _ (List.mem_append_right _ h)) (by decide +kernel))
set_option maxRecDepth 20000 in
theorem gX3_translatedEquity_X3_requireCompany : GoodIn wsX3_translatedEquity (va_wsS RX3 71 yX3_requireCompany wsX3_requireCompany) := goodIn_app (goodIn_of _ (by decide +kernel)) ggX3_translatedEquity_X3_requireCompany
set_option maxRecDepth 20000 in
theorem ggX3_translatedEquity_X1_equityOf : GoodIn wsX3_translatedEquity wsX1_equityOf := goodIn_r _ [14, 15, 16, 17, 18, 12, 19, 20, 21, 22, 23, 30, 31, 32, 33, 34, 35, 36] (by decide +kernel) (by decide +kernel)
set_option maxRecDepth 20000 in
theorem gX3_translatedEquity_X1_equityOf_n101 : GoodIn wsX3_translatedEquity (wsX1_equityOf) := ggX3_translatedEquity_X1_equityOf
theorem dX3_translatedEquity_0 : decode cX3_translatedEquity 0 = .ok (.iload_n 1, 1) := by decide +kernel
theorem dX3_translatedEquity_1 : decode cX3_translatedEquity 1 = .ok (.invokestatic 71, 3) := by decide +kernel
theorem dX3_translatedEquity_4 : decode cX3_translatedEquity 4 = .ok (.aload_n 0, 1) := by decide +kernel
theorem dX3_translatedEquity_5 : decode cX3_translatedEquity 5 = .ok (.getfield 19, 3) := by decide +kernel
theorem dX3_translatedEquity_8 : decode cX3_translatedEquity 8 = .ok (.iload_n 1, 1) := by decide +kernel
theorem dX3_translatedEquity_9 : decode cX3_translatedEquity 9 = .ok (.invokevirtual 101, 3) := by decide +kernel
theorem dX3_translatedEquity_12 : decode cX3_translatedEquity 12 = .ok (.ireturn, 1) := by decide +kernel
set_option maxRecDepth 20000 in
theorem ggX3_translatedResult_X3_requireCompany : GoodIn wsX3_translatedResult wsX3_requireCompany := goodIn_ca (goodIn_r _ [5, 6, 7, 4, 8, 9, 10] (by decide +kernel) (by decide +kernel)) (goodIn_sub (fun _ h => List.mem_cons_of_mem _ (List.mem_append_right _ h)) (by decide +kernel))
set_option maxRecDepth 20000 in
theorem gX3_translatedResult_X3_requireCompany : GoodIn wsX3_translatedResult (va_wsS RX3 71 yX3_requireCompany wsX3_requireCompany) := goodIn_app (goodIn_of _ (by decide +kernel)) ggX3_translatedResult_X3_requireCompany
set_option maxRecDepth 20000 in
theorem ggX3_translatedResult_X1_profitOf : GoodIn wsX3_translatedResult wsX1_profitOf := goodIn_r _ [14, 15, 16, 17, 18, 12, 19, 20, 21, 22, 23, 30, 31, 32, 33, 34, 35, 36] (by decide +kernel) (by decide +kernel)
set_option maxRecDepth 20000 in
theorem gX3_translatedResult_X1_profitOf_n104 : GoodIn wsX3_translatedResult (wsX1_profitOf) := ggX3_translatedResult_X1_profitOf
theorem dX3_translatedResult_0 : decode cX3_translatedResult 0 = .ok (.iload_n 1, 1) := by decide +kernel
theorem dX3_translatedResult_1 : decode cX3_translatedResult 1 = .ok (.invokestatic 71, 3) := by decide +kernel
theorem dX3_translatedResult_4 : decode cX3_translatedResult 4 = .ok (.aload_n 0, 1) := by decide +kernel
theorem dX3_translatedResult_5 : decode cX3_translatedResult 5 = .ok (.getfield 19, 3) := by decide +kernel
theorem dX3_translatedResult_8 : decode cX3_translatedResult 8 = .ok (.iload_n 1, 1) := by decide +kernel
theorem dX3_translatedResult_9 : decode cX3_translatedResult 9 = .ok (.invokevirtual 104, 3) := by decide +kernel
theorem dX3_translatedResult_12 : decode cX3_translatedResult 12 = .ok (.ireturn, 1) := by decide +kernel
set_option maxRecDepth 20000 in
theorem ggX3_reserve_X3_requireCompany : GoodIn wsX3_reserve wsX3_requireCompany := goodIn_ca (goodIn_r _ [5, 6, 7, 4, 8, 9, 10] (by decide +kernel) (by decide +kernel)) (goodIn_sub (fun _ h => List.mem_cons_of_mem _ (List.mem_append_right _ h)) (by decide +kernel))
set_option maxRecDepth 20000 in
theorem gX3_reserve_X3_requireCompany : GoodIn wsX3_reserve (va_wsS RX3 71 yX3_requireCompany wsX3_requireCompany) := goodIn_app (goodIn_of _ (by decide +kernel)) ggX3_reserve_X3_requireCompany
set_option maxRecDepth 20000 in
theorem ggX3_reserve_X1_netOf : GoodIn wsX3_reserve wsX1_netOf := goodIn_r _ [14, 15, 16, 17, 12, 18, 19, 20, 21, 22, 23, 24, 25, 26, 27, 28, 29, 30, 31, 32, 49, 50, 51, 52, 53, 54, 55] (by decide +kernel) (by decide +kernel)
set_option maxRecDepth 20000 in
theorem gX3_reserve_X1_netOf_n62 : GoodIn wsX3_reserve (wsX1_netOf) := ggX3_reserve_X1_netOf
set_option maxRecDepth 20000 in
theorem ggX3_reserve_X1_equityOf : GoodIn wsX3_reserve wsX1_equityOf := goodIn_r _ [35, 36, 37, 21, 22, 12, 23, 24, 25, 26, 27, 49, 50, 51, 52, 53, 54, 55] (by decide +kernel) (by decide +kernel)
set_option maxRecDepth 20000 in
theorem gX3_reserve_X1_equityOf_n101 : GoodIn wsX3_reserve (wsX1_equityOf) := ggX3_reserve_X1_equityOf
set_option maxRecDepth 20000 in
theorem ggX3_reserve_X1_profitOf : GoodIn wsX3_reserve wsX1_profitOf := goodIn_r _ [40, 41, 42, 21, 22, 12, 23, 24, 25, 26, 27, 49, 50, 51, 52, 53, 54, 55] (by decide +kernel) (by decide +kernel)
set_option maxRecDepth 20000 in
theorem gX3_reserve_X1_profitOf_n104 : GoodIn wsX3_reserve (wsX1_profitOf) := ggX3_reserve_X1_profitOf
theorem dX3_reserve_0 : decode cX3_reserve 0 = .ok (.iload_n 1, 1) := by decide +kernel
theorem dX3_reserve_1 : decode cX3_reserve 1 = .ok (.invokestatic 71, 3) := by decide +kernel
theorem dX3_reserve_4 : decode cX3_reserve 4 = .ok (.aload_n 0, 1) := by decide +kernel
theorem dX3_reserve_5 : decode cX3_reserve 5 = .ok (.getfield 19, 3) := by decide +kernel
theorem dX3_reserve_8 : decode cX3_reserve 8 = .ok (.iload_n 1, 1) := by decide +kernel
theorem dX3_reserve_9 : decode cX3_reserve 9 = .ok (.invokevirtual 62, 3) := by decide +kernel
theorem dX3_reserve_12 : decode cX3_reserve 12 = .ok (.aload_n 0, 1) := by decide +kernel
theorem dX3_reserve_13 : decode cX3_reserve 13 = .ok (.getfield 19, 3) := by decide +kernel
theorem dX3_reserve_16 : decode cX3_reserve 16 = .ok (.iload_n 1, 1) := by decide +kernel
theorem dX3_reserve_17 : decode cX3_reserve 17 = .ok (.invokevirtual 101, 3) := by decide +kernel
theorem dX3_reserve_20 : decode cX3_reserve 20 = .ok (.isub, 1) := by decide +kernel
theorem dX3_reserve_21 : decode cX3_reserve 21 = .ok (.aload_n 0, 1) := by decide +kernel
theorem dX3_reserve_22 : decode cX3_reserve 22 = .ok (.getfield 19, 3) := by decide +kernel
theorem dX3_reserve_25 : decode cX3_reserve 25 = .ok (.iload_n 1, 1) := by decide +kernel
theorem dX3_reserve_26 : decode cX3_reserve 26 = .ok (.invokevirtual 104, 3) := by decide +kernel
theorem dX3_reserve_29 : decode cX3_reserve 29 = .ok (.isub, 1) := by decide +kernel
theorem dX3_reserve_30 : decode cX3_reserve 30 = .ok (.ireturn, 1) := by decide +kernel
set_option maxRecDepth 20000 in
theorem ggX3_claim_X3_requireTwoCompanies : GoodIn wsX3_claim wsX3_requireTwoCompanies := goodIn_ca (goodIn_r _ [6, 7, 8, 9, 10, 5, 11, 12, 13, 14] (by decide +kernel) (by decide +kernel)) (goodIn_sub (fun _ h => List.mem_cons_of_mem _ (List.mem_append_right _ h)) (by decide +kernel))
set_option maxRecDepth 20000 in
theorem gX3_claim_X3_requireTwoCompanies : GoodIn wsX3_claim (va_wsS RX3 41 yX3_requireTwoCompanies wsX3_requireTwoCompanies) := goodIn_app (goodIn_of _ (by decide +kernel)) ggX3_claim_X3_requireTwoCompanies
set_option maxRecDepth 20000 in
theorem ggX3_claim_X3_requireRange : GoodIn wsX3_claim wsX3_requireRange := goodIn_ca (goodIn_r _ [14, 7, 8] (by decide +kernel) (by decide +kernel)) (goodIn_sub (fun _ h => List.mem_cons_of_mem _ (List.mem_append_right _ h)) (by decide +kernel))
set_option maxRecDepth 20000 in
theorem gX3_claim_X3_requireRange : GoodIn wsX3_claim (va_wsS RX3 45 yX3_requireRange wsX3_requireRange) := goodIn_app (goodIn_of _ (by decide +kernel)) ggX3_claim_X3_requireRange
set_option maxRecDepth 20000 in
theorem ggX3_claim_X0_replaceClaim : GoodIn wsX3_claim wsX0_replaceClaim := goodIn_r _ [18, 19, 20, 5, 21, 28, 29] (by decide +kernel) (by decide +kernel)
set_option maxRecDepth 20000 in
theorem gX3_claim_X0_replaceClaim_n107 : GoodIn wsX3_claim (wsX0_replaceClaim) := ggX3_claim_X0_replaceClaim
theorem dX3_claim_0 : decode cX3_claim 0 = .ok (.iload_n 1, 1) := by decide +kernel
theorem dX3_claim_1 : decode cX3_claim 1 = .ok (.iload_n 2, 1) := by decide +kernel
theorem dX3_claim_2 : decode cX3_claim 2 = .ok (.invokestatic 41, 3) := by decide +kernel
theorem dX3_claim_5 : decode cX3_claim 5 = .ok (.iload_n 3, 1) := by decide +kernel
theorem dX3_claim_6 : decode cX3_claim 6 = .ok (.iconst 0, 1) := by decide +kernel
theorem dX3_claim_7 : decode cX3_claim 7 = .ok (.ldc 61, 2) := by decide +kernel
theorem dX3_claim_9 : decode cX3_claim 9 = .ok (.invokestatic 45, 3) := by decide +kernel
theorem dX3_claim_12 : decode cX3_claim 12 = .ok (.aload_n 0, 1) := by decide +kernel
theorem dX3_claim_13 : decode cX3_claim 13 = .ok (.getfield 26, 3) := by decide +kernel
theorem dX3_claim_16 : decode cX3_claim 16 = .ok (.iload_n 1, 1) := by decide +kernel
theorem dX3_claim_17 : decode cX3_claim 17 = .ok (.iload_n 2, 1) := by decide +kernel
theorem dX3_claim_18 : decode cX3_claim 18 = .ok (.iload_n 3, 1) := by decide +kernel
theorem dX3_claim_19 : decode cX3_claim 19 = .ok (.invokevirtual 107, 3) := by decide +kernel
theorem dX3_claim_22 : decode cX3_claim 22 = .ok (.ireturn, 1) := by decide +kernel
set_option maxRecDepth 20000 in
theorem ggX3_admit_X3_requireTwoCompanies : GoodIn wsX3_admit wsX3_requireTwoCompanies := goodIn_ca (goodIn_r _ [6, 7, 8, 9, 10, 5, 11, 12, 13, 14] (by decide +kernel) (by decide +kernel)) (goodIn_sub (fun _ h => List.mem_cons_of_mem _ (List.mem_append_right _ h)) (by decide +kernel))
set_option maxRecDepth 20000 in
theorem gX3_admit_X3_requireTwoCompanies : GoodIn wsX3_admit (va_wsS RX3 41 yX3_requireTwoCompanies wsX3_requireTwoCompanies) := goodIn_app (goodIn_of _ (by decide +kernel)) ggX3_admit_X3_requireTwoCompanies
set_option maxRecDepth 20000 in
theorem ggX3_admit_X3_requireRange : GoodIn wsX3_admit wsX3_requireRange := goodIn_ca (goodIn_r _ [14, 7, 8] (by decide +kernel) (by decide +kernel)) (goodIn_sub (fun _ h => List.mem_cons_of_mem _ (List.mem_append_right _ h)) (by decide +kernel))
set_option maxRecDepth 20000 in
theorem gX3_admit_X3_requireRange : GoodIn wsX3_admit (va_wsS RX3 45 yX3_requireRange wsX3_requireRange) := goodIn_app (goodIn_of _ (by decide +kernel)) ggX3_admit_X3_requireRange
set_option maxRecDepth 20000 in
theorem ggX3_admit_X0_replaceAdmitted : GoodIn wsX3_admit wsX0_replaceAdmitted := goodIn_r _ [18, 19, 20, 5, 21, 28, 29] (by decide +kernel) (by decide +kernel)
set_option maxRecDepth 20000 in
theorem gX3_admit_X0_replaceAdmitted_n111 : GoodIn wsX3_admit (wsX0_replaceAdmitted) := ggX3_admit_X0_replaceAdmitted
theorem dX3_admit_0 : decode cX3_admit 0 = .ok (.iload_n 1, 1) := by decide +kernel
theorem dX3_admit_1 : decode cX3_admit 1 = .ok (.iload_n 2, 1) := by decide +kernel
theorem dX3_admit_2 : decode cX3_admit 2 = .ok (.invokestatic 41, 3) := by decide +kernel
theorem dX3_admit_5 : decode cX3_admit 5 = .ok (.iload_n 3, 1) := by decide +kernel
theorem dX3_admit_6 : decode cX3_admit 6 = .ok (.iconst 0, 1) := by decide +kernel
theorem dX3_admit_7 : decode cX3_admit 7 = .ok (.ldc 61, 2) := by decide +kernel
theorem dX3_admit_9 : decode cX3_admit 9 = .ok (.invokestatic 45, 3) := by decide +kernel
theorem dX3_admit_12 : decode cX3_admit 12 = .ok (.aload_n 0, 1) := by decide +kernel
theorem dX3_admit_13 : decode cX3_admit 13 = .ok (.getfield 26, 3) := by decide +kernel
theorem dX3_admit_16 : decode cX3_admit 16 = .ok (.iload_n 2, 1) := by decide +kernel
theorem dX3_admit_17 : decode cX3_admit 17 = .ok (.iload_n 1, 1) := by decide +kernel
theorem dX3_admit_18 : decode cX3_admit 18 = .ok (.iload_n 3, 1) := by decide +kernel
theorem dX3_admit_19 : decode cX3_admit 19 = .ok (.invokevirtual 111, 3) := by decide +kernel
theorem dX3_admit_22 : decode cX3_admit 22 = .ok (.ireturn, 1) := by decide +kernel
set_option maxRecDepth 20000 in
theorem ggX3_difference_X3_requireTwoCompanies : GoodIn wsX3_difference wsX3_requireTwoCompanies := goodIn_ca (goodIn_r _ [5, 6, 7, 8, 9, 4, 10, 11, 12, 13] (by decide +kernel) (by decide +kernel)) (goodIn_sub (fun _ h => List.mem_cons_of_mem _ (List.mem_append_right _ h)) (by decide +kernel))
set_option maxRecDepth 20000 in
theorem gX3_difference_X3_requireTwoCompanies : GoodIn wsX3_difference (va_wsS RX3 41 yX3_requireTwoCompanies wsX3_requireTwoCompanies) := goodIn_app (goodIn_of _ (by decide +kernel)) ggX3_difference_X3_requireTwoCompanies
set_option maxRecDepth 20000 in
theorem ggX3_difference_X0_disputed : GoodIn wsX3_difference wsX0_disputed := goodIn_r _ [17, 18, 19, 20, 4, 21, 28, 29] (by decide +kernel) (by decide +kernel)
set_option maxRecDepth 20000 in
theorem gX3_difference_X0_disputed_n114 : GoodIn wsX3_difference (wsX0_disputed) := ggX3_difference_X0_disputed
theorem dX3_difference_0 : decode cX3_difference 0 = .ok (.iload_n 1, 1) := by decide +kernel
theorem dX3_difference_1 : decode cX3_difference 1 = .ok (.iload_n 2, 1) := by decide +kernel
theorem dX3_difference_2 : decode cX3_difference 2 = .ok (.invokestatic 41, 3) := by decide +kernel
theorem dX3_difference_5 : decode cX3_difference 5 = .ok (.aload_n 0, 1) := by decide +kernel
theorem dX3_difference_6 : decode cX3_difference 6 = .ok (.getfield 26, 3) := by decide +kernel
theorem dX3_difference_9 : decode cX3_difference 9 = .ok (.iload_n 1, 1) := by decide +kernel
theorem dX3_difference_10 : decode cX3_difference 10 = .ok (.iload_n 2, 1) := by decide +kernel
theorem dX3_difference_11 : decode cX3_difference 11 = .ok (.invokevirtual 114, 3) := by decide +kernel
theorem dX3_difference_14 : decode cX3_difference 14 = .ok (.ireturn, 1) := by decide +kernel
set_option maxRecDepth 20000 in
theorem ggX3_eliminated_X2_members : GoodIn wsX3_eliminated wsX2_members := goodIn_r _ [6, 7, 8, 9, 4, 10, 11, 12, 13, 14, 15, 16, 17, 18, 19, 20, 37, 38, 39, 40, 41, 42] (by decide +kernel) (by decide +kernel)
set_option maxRecDepth 20000 in
theorem gX3_eliminated_X2_members_n85 : GoodIn wsX3_eliminated (wsX2_members) := ggX3_eliminated_X2_members
set_option maxRecDepth 20000 in
theorem ggX3_eliminated_X0_agreedAmong : GoodIn wsX3_eliminated wsX0_agreedAmong := goodIn_r _ [24, 25, 26, 27, 28, 29, 30, 16, 17, 18, 19, 20, 43, 44] (by decide +kernel) (by decide +kernel)
set_option maxRecDepth 20000 in
theorem gX3_eliminated_X0_agreedAmong_n117 : GoodIn wsX3_eliminated (wsX0_agreedAmong) := ggX3_eliminated_X0_agreedAmong
theorem dX3_eliminated_0 : decode cX3_eliminated 0 = .ok (.aload_n 0, 1) := by decide +kernel
theorem dX3_eliminated_1 : decode cX3_eliminated 1 = .ok (.getfield 26, 3) := by decide +kernel
theorem dX3_eliminated_4 : decode cX3_eliminated 4 = .ok (.aload_n 0, 1) := by decide +kernel
theorem dX3_eliminated_5 : decode cX3_eliminated 5 = .ok (.getfield 10, 3) := by decide +kernel
theorem dX3_eliminated_8 : decode cX3_eliminated 8 = .ok (.invokevirtual 85, 3) := by decide +kernel
theorem dX3_eliminated_11 : decode cX3_eliminated 11 = .ok (.invokevirtual 117, 3) := by decide +kernel
theorem dX3_eliminated_14 : decode cX3_eliminated 14 = .ok (.ireturn, 1) := by decide +kernel
set_option maxRecDepth 20000 in
theorem ggX3_assets_X2_members : GoodIn wsX3_assets wsX2_members := goodIn_r _ [7, 8, 9, 10, 5, 11, 12, 13, 14, 15, 16, 17, 18, 19, 20, 21, 52, 53, 54, 55, 56, 57] (by decide +kernel) (by decide +kernel)
set_option maxRecDepth 20000 in
theorem gX3_assets_X2_members_n85 : GoodIn wsX3_assets (wsX2_members) := ggX3_assets_X2_members
set_option maxRecDepth 20000 in
theorem ggX3_assets_X3_isMember : GoodIn wsX3_assets wsX3_isMember := goodIn_r _ [19] (by decide +kernel) (by decide +kernel)
set_option maxRecDepth 20000 in
theorem gX3_assets_X3_isMember : GoodIn wsX3_assets (va_wsS RX3 120 yX3_isMember wsX3_isMember) := goodIn_app (goodIn_of _ (by decide +kernel)) ggX3_assets_X3_isMember
set_option maxRecDepth 20000 in
theorem ggX3_assets_X1_assetsOf : GoodIn wsX3_assets wsX1_assetsOf := goodIn_r _ [26, 27, 28, 29, 30, 24, 31, 32, 33, 34, 35, 58, 59, 60, 61, 62, 63, 64] (by decide +kernel) (by decide +kernel)
set_option maxRecDepth 20000 in
theorem gX3_assets_X1_assetsOf_n124 : GoodIn wsX3_assets (wsX1_assetsOf) := ggX3_assets_X1_assetsOf
set_option maxRecDepth 20000 in
theorem ggX3_assets_X0_agreedAmong : GoodIn wsX3_assets wsX0_agreedAmong := goodIn_r _ [39, 40, 41, 42, 43, 44, 45, 17, 18, 19, 20, 21, 65, 66] (by decide +kernel) (by decide +kernel)
set_option maxRecDepth 20000 in
theorem gX3_assets_X0_agreedAmong_n117 : GoodIn wsX3_assets (wsX0_agreedAmong) := ggX3_assets_X0_agreedAmong
theorem dX3_assets_0 : decode cX3_assets 0 = .ok (.aload_n 0, 1) := by decide +kernel
theorem dX3_assets_1 : decode cX3_assets 1 = .ok (.getfield 10, 3) := by decide +kernel
theorem dX3_assets_4 : decode cX3_assets 4 = .ok (.invokevirtual 85, 3) := by decide +kernel
theorem dX3_assets_7 : decode cX3_assets 7 = .ok (.istore_n 1, 1) := by decide +kernel
theorem dX3_assets_8 : decode cX3_assets 8 = .ok (.iconst 0, 1) := by decide +kernel
theorem dX3_assets_9 : decode cX3_assets 9 = .ok (.istore_n 2, 1) := by decide +kernel
theorem dX3_assets_10 : decode cX3_assets 10 = .ok (.iconst 0, 1) := by decide +kernel
theorem dX3_assets_11 : decode cX3_assets 11 = .ok (.istore_n 3, 1) := by decide +kernel
theorem dX3_assets_12 : decode cX3_assets 12 = .ok (.iload_n 3, 1) := by decide +kernel
theorem dX3_assets_13 : decode cX3_assets 13 = .ok (.bipush 6, 2) := by decide +kernel
theorem dX3_assets_15 : decode cX3_assets 15 = .ok (.if_icmp .ge 28, 3) := by decide +kernel
theorem dX3_assets_18 : decode cX3_assets 18 = .ok (.iload_n 1, 1) := by decide +kernel
theorem dX3_assets_19 : decode cX3_assets 19 = .ok (.iload_n 3, 1) := by decide +kernel
theorem dX3_assets_20 : decode cX3_assets 20 = .ok (.invokestatic 120, 3) := by decide +kernel
theorem dX3_assets_23 : decode cX3_assets 23 = .ok (.ifCond .eq 14, 3) := by decide +kernel
theorem dX3_assets_26 : decode cX3_assets 26 = .ok (.iload_n 2, 1) := by decide +kernel
theorem dX3_assets_27 : decode cX3_assets 27 = .ok (.aload_n 0, 1) := by decide +kernel
theorem dX3_assets_28 : decode cX3_assets 28 = .ok (.getfield 19, 3) := by decide +kernel
theorem dX3_assets_31 : decode cX3_assets 31 = .ok (.iload_n 3, 1) := by decide +kernel
theorem dX3_assets_32 : decode cX3_assets 32 = .ok (.invokevirtual 124, 3) := by decide +kernel
theorem dX3_assets_35 : decode cX3_assets 35 = .ok (.iadd, 1) := by decide +kernel
theorem dX3_assets_36 : decode cX3_assets 36 = .ok (.istore_n 2, 1) := by decide +kernel
theorem dX3_assets_37 : decode cX3_assets 37 = .ok (.iinc 3 1, 3) := by decide +kernel
theorem dX3_assets_40 : decode cX3_assets 40 = .ok (.goto (-28), 3) := by decide +kernel
theorem dX3_assets_43 : decode cX3_assets 43 = .ok (.iload_n 2, 1) := by decide +kernel
theorem dX3_assets_44 : decode cX3_assets 44 = .ok (.aload_n 0, 1) := by decide +kernel
theorem dX3_assets_45 : decode cX3_assets 45 = .ok (.getfield 26, 3) := by decide +kernel
theorem dX3_assets_48 : decode cX3_assets 48 = .ok (.iload_n 1, 1) := by decide +kernel
theorem dX3_assets_49 : decode cX3_assets 49 = .ok (.invokevirtual 117, 3) := by decide +kernel
theorem dX3_assets_52 : decode cX3_assets 52 = .ok (.isub, 1) := by decide +kernel
theorem dX3_assets_53 : decode cX3_assets 53 = .ok (.ireturn, 1) := by decide +kernel
set_option maxRecDepth 20000 in
theorem ggX3_debts_X2_members : GoodIn wsX3_debts wsX2_members := goodIn_r _ [7, 8, 9, 10, 5, 11, 12, 13, 14, 15, 16, 17, 18, 19, 20, 21, 52, 53, 54, 55, 56, 57] (by decide +kernel) (by decide +kernel)
set_option maxRecDepth 20000 in
theorem gX3_debts_X2_members_n85 : GoodIn wsX3_debts (wsX2_members) := ggX3_debts_X2_members
set_option maxRecDepth 20000 in
theorem ggX3_debts_X3_isMember : GoodIn wsX3_debts wsX3_isMember := goodIn_r _ [19] (by decide +kernel) (by decide +kernel)
set_option maxRecDepth 20000 in
theorem gX3_debts_X3_isMember : GoodIn wsX3_debts (va_wsS RX3 120 yX3_isMember wsX3_isMember) := goodIn_app (goodIn_of _ (by decide +kernel)) ggX3_debts_X3_isMember
set_option maxRecDepth 20000 in
theorem ggX3_debts_X1_debtsOf : GoodIn wsX3_debts wsX1_debtsOf := goodIn_r _ [26, 27, 28, 29, 30, 24, 31, 32, 33, 34, 35, 58, 59, 60, 61, 62, 63, 64] (by decide +kernel) (by decide +kernel)
set_option maxRecDepth 20000 in
theorem gX3_debts_X1_debtsOf_n127 : GoodIn wsX3_debts (wsX1_debtsOf) := ggX3_debts_X1_debtsOf
set_option maxRecDepth 20000 in
theorem ggX3_debts_X0_agreedAmong : GoodIn wsX3_debts wsX0_agreedAmong := goodIn_r _ [39, 40, 41, 42, 43, 44, 45, 17, 18, 19, 20, 21, 65, 66] (by decide +kernel) (by decide +kernel)
set_option maxRecDepth 20000 in
theorem gX3_debts_X0_agreedAmong_n117 : GoodIn wsX3_debts (wsX0_agreedAmong) := ggX3_debts_X0_agreedAmong
theorem dX3_debts_0 : decode cX3_debts 0 = .ok (.aload_n 0, 1) := by decide +kernel
theorem dX3_debts_1 : decode cX3_debts 1 = .ok (.getfield 10, 3) := by decide +kernel
theorem dX3_debts_4 : decode cX3_debts 4 = .ok (.invokevirtual 85, 3) := by decide +kernel
theorem dX3_debts_7 : decode cX3_debts 7 = .ok (.istore_n 1, 1) := by decide +kernel
theorem dX3_debts_8 : decode cX3_debts 8 = .ok (.iconst 0, 1) := by decide +kernel
theorem dX3_debts_9 : decode cX3_debts 9 = .ok (.istore_n 2, 1) := by decide +kernel
theorem dX3_debts_10 : decode cX3_debts 10 = .ok (.iconst 0, 1) := by decide +kernel
theorem dX3_debts_11 : decode cX3_debts 11 = .ok (.istore_n 3, 1) := by decide +kernel
theorem dX3_debts_12 : decode cX3_debts 12 = .ok (.iload_n 3, 1) := by decide +kernel
theorem dX3_debts_13 : decode cX3_debts 13 = .ok (.bipush 6, 2) := by decide +kernel
theorem dX3_debts_15 : decode cX3_debts 15 = .ok (.if_icmp .ge 28, 3) := by decide +kernel
theorem dX3_debts_18 : decode cX3_debts 18 = .ok (.iload_n 1, 1) := by decide +kernel
theorem dX3_debts_19 : decode cX3_debts 19 = .ok (.iload_n 3, 1) := by decide +kernel
theorem dX3_debts_20 : decode cX3_debts 20 = .ok (.invokestatic 120, 3) := by decide +kernel
theorem dX3_debts_23 : decode cX3_debts 23 = .ok (.ifCond .eq 14, 3) := by decide +kernel
theorem dX3_debts_26 : decode cX3_debts 26 = .ok (.iload_n 2, 1) := by decide +kernel
theorem dX3_debts_27 : decode cX3_debts 27 = .ok (.aload_n 0, 1) := by decide +kernel
theorem dX3_debts_28 : decode cX3_debts 28 = .ok (.getfield 19, 3) := by decide +kernel
theorem dX3_debts_31 : decode cX3_debts 31 = .ok (.iload_n 3, 1) := by decide +kernel
theorem dX3_debts_32 : decode cX3_debts 32 = .ok (.invokevirtual 127, 3) := by decide +kernel
theorem dX3_debts_35 : decode cX3_debts 35 = .ok (.iadd, 1) := by decide +kernel
theorem dX3_debts_36 : decode cX3_debts 36 = .ok (.istore_n 2, 1) := by decide +kernel
theorem dX3_debts_37 : decode cX3_debts 37 = .ok (.iinc 3 1, 3) := by decide +kernel
theorem dX3_debts_40 : decode cX3_debts 40 = .ok (.goto (-28), 3) := by decide +kernel
theorem dX3_debts_43 : decode cX3_debts 43 = .ok (.iload_n 2, 1) := by decide +kernel
theorem dX3_debts_44 : decode cX3_debts 44 = .ok (.aload_n 0, 1) := by decide +kernel
theorem dX3_debts_45 : decode cX3_debts 45 = .ok (.getfield 26, 3) := by decide +kernel
theorem dX3_debts_48 : decode cX3_debts 48 = .ok (.iload_n 1, 1) := by decide +kernel
theorem dX3_debts_49 : decode cX3_debts 49 = .ok (.invokevirtual 117, 3) := by decide +kernel
theorem dX3_debts_52 : decode cX3_debts 52 = .ok (.isub, 1) := by decide +kernel
theorem dX3_debts_53 : decode cX3_debts 53 = .ok (.ireturn, 1) := by decide +kernel
set_option maxRecDepth 20000 in
theorem ggX3_minority_X3_requireCompany : GoodIn wsX3_minority wsX3_requireCompany := goodIn_ca (goodIn_r _ [5, 6, 7, 4, 8, 9, 10] (by decide +kernel) (by decide +kernel)) (goodIn_sub (fun _ h => List.mem_cons_of_mem _ (List.mem_append_right _ h)) (by decide +kernel))
set_option maxRecDepth 20000 in
theorem gX3_minority_X3_requireCompany : GoodIn wsX3_minority (va_wsS RX3 71 yX3_requireCompany wsX3_requireCompany) := goodIn_app (goodIn_of _ (by decide +kernel)) ggX3_minority_X3_requireCompany
set_option maxRecDepth 20000 in
theorem ggX3_minority_X2_members : GoodIn wsX3_minority wsX2_members := goodIn_r _ [14, 15, 16, 17, 12, 18, 19, 20, 21, 22, 23, 24, 4, 25, 26, 27, 73, 74, 75, 76, 77, 78] (by decide +kernel) (by decide +kernel)
set_option maxRecDepth 20000 in
theorem gX3_minority_X2_members_n85 : GoodIn wsX3_minority (wsX2_members) := ggX3_minority_X2_members
set_option maxRecDepth 20000 in
theorem ggX3_minority_X3_minorityAmong : GoodIn wsX3_minority wsX3_minorityAmong := goodIn_r _ [31, 1, 32, 33, 24, 4, 25, 34, 35, 36, 37, 38, 39, 40, 41, 42, 43, 44, 45, 46, 47, 48, 49, 50, 51, 52, 53, 54, 55, 56, 12, 57, 58, 59, 60, 61, 62, 63, 64, 65, 66, 67, 68, 69, 70, 71, 72, 79, 80, 81, 82, 83, 84, 85, 73, 74, 75, 76, 77, 78] (by decide +kernel) (by decide +kernel)
set_option maxRecDepth 20000 in
theorem gX3_minority_X3_minorityAmong : GoodIn wsX3_minority (wsV RX3 130 RX3 yX3_minorityAmong wsX3_minorityAmong) := goodIn_app (goodIn_of _ (by decide +kernel)) ggX3_minority_X3_minorityAmong
theorem dX3_minority_0 : decode cX3_minority 0 = .ok (.iload_n 1, 1) := by decide +kernel
theorem dX3_minority_1 : decode cX3_minority 1 = .ok (.invokestatic 71, 3) := by decide +kernel
theorem dX3_minority_4 : decode cX3_minority 4 = .ok (.aload_n 0, 1) := by decide +kernel
theorem dX3_minority_5 : decode cX3_minority 5 = .ok (.aload_n 0, 1) := by decide +kernel
theorem dX3_minority_6 : decode cX3_minority 6 = .ok (.getfield 10, 3) := by decide +kernel
theorem dX3_minority_9 : decode cX3_minority 9 = .ok (.invokevirtual 85, 3) := by decide +kernel
theorem dX3_minority_12 : decode cX3_minority 12 = .ok (.iload_n 1, 1) := by decide +kernel
theorem dX3_minority_13 : decode cX3_minority 13 = .ok (.invokevirtual 130, 3) := by decide +kernel
theorem dX3_minority_16 : decode cX3_minority 16 = .ok (.ireturn, 1) := by decide +kernel
set_option maxRecDepth 20000 in
theorem ggX3_equity_X2_members : GoodIn wsX3_equity wsX2_members := goodIn_r _ [5, 6, 7, 8, 3, 9, 10, 11, 12, 13, 14, 15, 16, 17, 18, 19, 84, 85, 86, 87, 88, 89] (by decide +kernel) (by decide +kernel)
set_option maxRecDepth 20000 in
theorem gX3_equity_X2_members_n85 : GoodIn wsX3_equity (wsX2_members) := ggX3_equity_X2_members
set_option maxRecDepth 20000 in
theorem ggX3_equity_X3_minorityAmong : GoodIn wsX3_equity wsX3_minorityAmong := goodIn_r _ [23, 1, 24, 25, 15, 16, 17, 26, 27, 28, 29, 30, 31, 32, 33, 34, 35, 36, 37, 38, 39, 40, 41, 42, 43, 44, 45, 46, 47, 48, 3, 49, 50, 51, 52, 53, 54, 55, 56, 57, 58, 78, 79, 80, 81, 82, 83, 90, 91, 92, 93, 94, 95, 96, 84, 85, 86, 87, 88, 89] (by decide +kernel) (by decide +kernel)
set_option maxRecDepth 20000 in
theorem gX3_equity_X3_minorityAmong : GoodIn wsX3_equity (wsV RX3 130 RX3 yX3_minorityAmong wsX3_minorityAmong) := goodIn_app (goodIn_of _ (by decide +kernel)) ggX3_equity_X3_minorityAmong
set_option maxRecDepth 20000 in
theorem ggX3_equity_X3_assets : GoodIn wsX3_equity wsX3_assets := goodIn_r _ [62, 1, 24, 63, 2, 3, 4, 5, 6, 7, 8, 9, 10, 11, 12, 13, 14, 15, 16, 17, 18, 19, 25, 31, 27, 32, 33, 34, 35, 36, 37, 38, 39, 40, 41, 42, 64, 65, 66, 67, 68, 69, 70, 71, 72, 73, 78, 79, 80, 81, 82, 83, 84, 85, 86, 87, 88, 89, 90, 91, 92, 93, 94, 95, 96, 97, 98] (by decide +kernel) (by decide +kernel)
set_option maxRecDepth 20000 in
theorem gX3_equity_X3_assets : GoodIn wsX3_equity (wsV RX3 133 RX3 yX3_assets wsX3_assets) := goodIn_app (goodIn_of _ (by decide +kernel)) ggX3_equity_X3_assets
set_option maxRecDepth 20000 in
theorem ggX3_equity_X3_debts : GoodIn wsX3_equity wsX3_debts := goodIn_r _ [77, 1, 24, 63, 2, 3, 4, 5, 6, 7, 8, 9, 10, 11, 12, 13, 14, 15, 16, 17, 18, 19, 25, 44, 27, 45, 46, 47, 35, 36, 37, 38, 39, 40, 41, 42, 64, 65, 66, 67, 68, 69, 70, 71, 72, 73, 78, 79, 80, 81, 82, 83, 84, 85, 86, 87, 88, 89, 90, 91, 92, 93, 94, 95, 96, 97, 98] (by decide +kernel) (by decide +kernel)
set_option maxRecDepth 20000 in
theorem gX3_equity_X3_debts : GoodIn wsX3_equity (wsV RX3 136 RX3 yX3_debts wsX3_debts) := goodIn_app (goodIn_of _ (by decide +kernel)) ggX3_equity_X3_debts
theorem dX3_equity_0 : decode cX3_equity 0 = .ok (.aload_n 0, 1) := by decide +kernel
theorem dX3_equity_1 : decode cX3_equity 1 = .ok (.getfield 10, 3) := by decide +kernel
theorem dX3_equity_4 : decode cX3_equity 4 = .ok (.invokevirtual 85, 3) := by decide +kernel
theorem dX3_equity_7 : decode cX3_equity 7 = .ok (.istore_n 1, 1) := by decide +kernel
theorem dX3_equity_8 : decode cX3_equity 8 = .ok (.iconst 0, 1) := by decide +kernel
theorem dX3_equity_9 : decode cX3_equity 9 = .ok (.istore_n 2, 1) := by decide +kernel
theorem dX3_equity_10 : decode cX3_equity 10 = .ok (.iconst 0, 1) := by decide +kernel
theorem dX3_equity_11 : decode cX3_equity 11 = .ok (.istore_n 3, 1) := by decide +kernel
theorem dX3_equity_12 : decode cX3_equity 12 = .ok (.iload_n 3, 1) := by decide +kernel
theorem dX3_equity_13 : decode cX3_equity 13 = .ok (.bipush 6, 2) := by decide +kernel
theorem dX3_equity_15 : decode cX3_equity 15 = .ok (.if_icmp .ge 18, 3) := by decide +kernel
theorem dX3_equity_18 : decode cX3_equity 18 = .ok (.iload_n 2, 1) := by decide +kernel
theorem dX3_equity_19 : decode cX3_equity 19 = .ok (.aload_n 0, 1) := by decide +kernel
theorem dX3_equity_20 : decode cX3_equity 20 = .ok (.iload_n 1, 1) := by decide +kernel
theorem dX3_equity_21 : decode cX3_equity 21 = .ok (.iload_n 3, 1) := by decide +kernel
theorem dX3_equity_22 : decode cX3_equity 22 = .ok (.invokevirtual 130, 3) := by decide +kernel
theorem dX3_equity_25 : decode cX3_equity 25 = .ok (.iadd, 1) := by decide +kernel
theorem dX3_equity_26 : decode cX3_equity 26 = .ok (.istore_n 2, 1) := by decide +kernel
theorem dX3_equity_27 : decode cX3_equity 27 = .ok (.iinc 3 1, 3) := by decide +kernel
theorem dX3_equity_30 : decode cX3_equity 30 = .ok (.goto (-18), 3) := by decide +kernel
theorem dX3_equity_33 : decode cX3_equity 33 = .ok (.aload_n 0, 1) := by decide +kernel
theorem dX3_equity_34 : decode cX3_equity 34 = .ok (.invokevirtual 133, 3) := by decide +kernel
theorem dX3_equity_37 : decode cX3_equity 37 = .ok (.aload_n 0, 1) := by decide +kernel
theorem dX3_equity_38 : decode cX3_equity 38 = .ok (.invokevirtual 136, 3) := by decide +kernel
theorem dX3_equity_41 : decode cX3_equity 41 = .ok (.isub, 1) := by decide +kernel
theorem dX3_equity_42 : decode cX3_equity 42 = .ok (.iload_n 2, 1) := by decide +kernel
theorem dX3_equity_43 : decode cX3_equity 43 = .ok (.isub, 1) := by decide +kernel
theorem dX3_equity_44 : decode cX3_equity 44 = .ok (.ireturn, 1) := by decide +kernel
set_option maxRecDepth 20000 in
theorem ggX3_result_X2_members : GoodIn wsX3_result wsX2_members := goodIn_r _ [6, 7, 8, 9, 4, 10, 11, 12, 13, 14, 15, 16, 17, 18, 19, 20, 52, 53, 54, 55, 56, 57] (by decide +kernel) (by decide +kernel)
set_option maxRecDepth 20000 in
theorem gX3_result_X2_members_n85 : GoodIn wsX3_result (wsX2_members) := ggX3_result_X2_members
set_option maxRecDepth 20000 in
theorem ggX3_result_X3_isMember : GoodIn wsX3_result wsX3_isMember := goodIn_r _ [18] (by decide +kernel) (by decide +kernel)
set_option maxRecDepth 20000 in
theorem gX3_result_X3_isMember : GoodIn wsX3_result (va_wsS RX3 120 yX3_isMember wsX3_isMember) := goodIn_app (goodIn_of _ (by decide +kernel)) ggX3_result_X3_isMember
set_option maxRecDepth 20000 in
theorem ggX3_result_X1_profitOf : GoodIn wsX3_result wsX1_profitOf := goodIn_r _ [25, 26, 27, 28, 29, 23, 30, 31, 32, 33, 34, 58, 59, 60, 61, 62, 63, 64] (by decide +kernel) (by decide +kernel)
set_option maxRecDepth 20000 in
theorem gX3_result_X1_profitOf_n104 : GoodIn wsX3_result (wsX1_profitOf) := ggX3_result_X1_profitOf
set_option maxRecDepth 20000 in
theorem ggX3_result_X2_partOfParent : GoodIn wsX3_result wsX2_partOfParent := goodIn_r _ [37, 38, 39, 40, 41, 4, 42, 43, 44, 33, 45, 52, 53, 54, 55, 56, 57] (by decide +kernel) (by decide +kernel)
set_option maxRecDepth 20000 in
theorem gX3_result_X2_partOfParent_n139 : GoodIn wsX3_result (wsX2_partOfParent) := ggX3_result_X2_partOfParent
theorem dX3_result_0 : decode cX3_result 0 = .ok (.aload_n 0, 1) := by decide +kernel
theorem dX3_result_1 : decode cX3_result 1 = .ok (.getfield 10, 3) := by decide +kernel
theorem dX3_result_4 : decode cX3_result 4 = .ok (.invokevirtual 85, 3) := by decide +kernel
theorem dX3_result_7 : decode cX3_result 7 = .ok (.istore_n 1, 1) := by decide +kernel
theorem dX3_result_8 : decode cX3_result 8 = .ok (.iconst 0, 1) := by decide +kernel
theorem dX3_result_9 : decode cX3_result 9 = .ok (.istore_n 2, 1) := by decide +kernel
theorem dX3_result_10 : decode cX3_result 10 = .ok (.iconst 0, 1) := by decide +kernel
theorem dX3_result_11 : decode cX3_result 11 = .ok (.istore_n 3, 1) := by decide +kernel
theorem dX3_result_12 : decode cX3_result 12 = .ok (.iload_n 3, 1) := by decide +kernel
theorem dX3_result_13 : decode cX3_result 13 = .ok (.bipush 6, 2) := by decide +kernel
theorem dX3_result_15 : decode cX3_result 15 = .ok (.if_icmp .ge 36, 3) := by decide +kernel
theorem dX3_result_18 : decode cX3_result 18 = .ok (.iload_n 1, 1) := by decide +kernel
theorem dX3_result_19 : decode cX3_result 19 = .ok (.iload_n 3, 1) := by decide +kernel
theorem dX3_result_20 : decode cX3_result 20 = .ok (.invokestatic 120, 3) := by decide +kernel
theorem dX3_result_23 : decode cX3_result 23 = .ok (.ifCond .eq 22, 3) := by decide +kernel
theorem dX3_result_26 : decode cX3_result 26 = .ok (.iload_n 2, 1) := by decide +kernel
theorem dX3_result_27 : decode cX3_result 27 = .ok (.aload_n 0, 1) := by decide +kernel
theorem dX3_result_28 : decode cX3_result 28 = .ok (.getfield 10, 3) := by decide +kernel
theorem dX3_result_31 : decode cX3_result 31 = .ok (.iload_n 3, 1) := by decide +kernel
theorem dX3_result_32 : decode cX3_result 32 = .ok (.aload_n 0, 1) := by decide +kernel
theorem dX3_result_33 : decode cX3_result 33 = .ok (.getfield 19, 3) := by decide +kernel
theorem dX3_result_36 : decode cX3_result 36 = .ok (.iload_n 3, 1) := by decide +kernel
theorem dX3_result_37 : decode cX3_result 37 = .ok (.invokevirtual 104, 3) := by decide +kernel
theorem dX3_result_40 : decode cX3_result 40 = .ok (.invokevirtual 139, 3) := by decide +kernel
theorem dX3_result_43 : decode cX3_result 43 = .ok (.iadd, 1) := by decide +kernel
theorem dX3_result_44 : decode cX3_result 44 = .ok (.istore_n 2, 1) := by decide +kernel
theorem dX3_result_45 : decode cX3_result 45 = .ok (.iinc 3 1, 3) := by decide +kernel
theorem dX3_result_48 : decode cX3_result 48 = .ok (.goto (-36), 3) := by decide +kernel
theorem dX3_result_51 : decode cX3_result 51 = .ok (.iload_n 2, 1) := by decide +kernel
theorem dX3_result_52 : decode cX3_result 52 = .ok (.ireturn, 1) := by decide +kernel
set_option maxRecDepth 20000 in
theorem ggX3_close_X3_result : GoodIn wsX3_close wsX3_result := goodIn_r _ [10, 11, 5, 12, 13, 14, 15, 16, 17, 18, 19, 20, 21, 22, 23, 24, 25, 9, 26, 27, 28, 29, 30, 31, 32, 33, 34, 35, 36, 37, 38, 39, 40, 41, 42, 43, 44, 45, 46, 47, 48, 49, 50, 51, 52, 53, 58, 59, 60, 61, 62, 63, 64, 65, 66, 67, 68, 69, 70, 71, 72, 73, 74, 75, 76] (by decide +kernel) (by decide +kernel)
set_option maxRecDepth 20000 in
theorem gX3_close_X3_result : GoodIn wsX3_close (wsV RX3 149 RX3 yX3_result wsX3_result) := goodIn_app (goodIn_of _ (by decide +kernel)) ggX3_close_X3_result
set_option maxRecDepth 20000 in
theorem ggX3_close_X1_carryResults : GoodIn wsX3_close wsX1_carryResults := goodIn_r _ [56, 57, 34, 70, 71, 72, 73, 74, 75, 76] (by decide +kernel) (by decide +kernel)
set_option maxRecDepth 20000 in
theorem gX3_close_X1_carryResults_n152 : GoodIn wsX3_close (wsX1_carryResults) := ggX3_close_X1_carryResults
theorem dX3_close_0 : decode cX3_close 0 = .ok (.aload_n 0, 1) := by decide +kernel
theorem dX3_close_1 : decode cX3_close 1 = .ok (.getfield 37, 3) := by decide +kernel
theorem dX3_close_4 : decode cX3_close 4 = .ok (.ifCond .lt 12, 3) := by decide +kernel
theorem dX3_close_7 : decode cX3_close 7 = .ok (.aload_n 0, 1) := by decide +kernel
theorem dX3_close_8 : decode cX3_close 8 = .ok (.getfield 37, 3) := by decide +kernel
theorem dX3_close_11 : decode cX3_close 11 = .ok (.bipush 12, 2) := by decide +kernel
theorem dX3_close_13 : decode cX3_close 13 = .ok (.if_icmp .lt 13, 3) := by decide +kernel
theorem dX3_close_16 : decode cX3_close 16 = .ok (.new 142, 3) := by decide +kernel
theorem dX3_close_19 : decode cX3_close 19 = .ok (.dup, 1) := by decide +kernel
theorem dX3_close_20 : decode cX3_close 20 = .ok (.ldc 144, 2) := by decide +kernel
theorem dX3_close_22 : decode cX3_close 22 = .ok (.invokespecial 146, 3) := by decide +kernel
theorem dX3_close_25 : decode cX3_close 25 = .ok (.athrow, 1) := by decide +kernel
theorem dX3_close_26 : decode cX3_close 26 = .ok (.aload_n 0, 1) := by decide +kernel
theorem dX3_close_27 : decode cX3_close 27 = .ok (.invokevirtual 149, 3) := by decide +kernel
theorem dX3_close_30 : decode cX3_close 30 = .ok (.istore_n 1, 1) := by decide +kernel
theorem dX3_close_31 : decode cX3_close 31 = .ok (.aload_n 0, 1) := by decide +kernel
theorem dX3_close_32 : decode cX3_close 32 = .ok (.getfield 34, 3) := by decide +kernel
theorem dX3_close_35 : decode cX3_close 35 = .ok (.aload_n 0, 1) := by decide +kernel
theorem dX3_close_36 : decode cX3_close 36 = .ok (.getfield 37, 3) := by decide +kernel
theorem dX3_close_39 : decode cX3_close 39 = .ok (.iload_n 1, 1) := by decide +kernel
theorem dX3_close_40 : decode cX3_close 40 = .ok (.iastore, 1) := by decide +kernel
theorem dX3_close_41 : decode cX3_close 41 = .ok (.aload_n 0, 1) := by decide +kernel
theorem dX3_close_42 : decode cX3_close 42 = .ok (.dup, 1) := by decide +kernel
theorem dX3_close_43 : decode cX3_close 43 = .ok (.getfield 37, 3) := by decide +kernel
theorem dX3_close_46 : decode cX3_close 46 = .ok (.iconst 1, 1) := by decide +kernel
theorem dX3_close_47 : decode cX3_close 47 = .ok (.iadd, 1) := by decide +kernel
theorem dX3_close_48 : decode cX3_close 48 = .ok (.putfield 37, 3) := by decide +kernel
theorem dX3_close_51 : decode cX3_close 51 = .ok (.aload_n 0, 1) := by decide +kernel
theorem dX3_close_52 : decode cX3_close 52 = .ok (.getfield 19, 3) := by decide +kernel
theorem dX3_close_55 : decode cX3_close 55 = .ok (.invokevirtual 152, 3) := by decide +kernel
theorem dX3_close_58 : decode cX3_close 58 = .ok (.iload_n 1, 1) := by decide +kernel
theorem dX3_close_59 : decode cX3_close 59 = .ok (.ireturn, 1) := by decide +kernel
set_option maxRecDepth 20000 in
theorem ggX3_resultOf_X3_requireRange : GoodIn wsX3_resultOf wsX3_requireRange := goodIn_ca (goodIn_r _ [8, 1, 2] (by decide +kernel) (by decide +kernel)) (goodIn_sub (fun _ h => List.mem_cons_of_mem _ (List.mem_append_right _ h)) (by decide +kernel))
set_option maxRecDepth 20000 in
theorem gX3_resultOf_X3_requireRange : GoodIn wsX3_resultOf (va_wsS RX3 45 yX3_requireRange wsX3_requireRange) := goodIn_app (goodIn_of _ (by decide +kernel)) ggX3_resultOf_X3_requireRange
theorem dX3_resultOf_0 : decode cX3_resultOf 0 = .ok (.iload_n 1, 1) := by decide +kernel
theorem dX3_resultOf_1 : decode cX3_resultOf 1 = .ok (.iconst 0, 1) := by decide +kernel
theorem dX3_resultOf_2 : decode cX3_resultOf 2 = .ok (.bipush 11, 2) := by decide +kernel
theorem dX3_resultOf_4 : decode cX3_resultOf 4 = .ok (.invokestatic 45, 3) := by decide +kernel
theorem dX3_resultOf_7 : decode cX3_resultOf 7 = .ok (.iload_n 1, 1) := by decide +kernel
theorem dX3_resultOf_8 : decode cX3_resultOf 8 = .ok (.aload_n 0, 1) := by decide +kernel
theorem dX3_resultOf_9 : decode cX3_resultOf 9 = .ok (.getfield 37, 3) := by decide +kernel
theorem dX3_resultOf_12 : decode cX3_resultOf 12 = .ok (.if_icmp .lt 13, 3) := by decide +kernel
theorem dX3_resultOf_15 : decode cX3_resultOf 15 = .ok (.new 155, 3) := by decide +kernel
theorem dX3_resultOf_18 : decode cX3_resultOf 18 = .ok (.dup, 1) := by decide +kernel
theorem dX3_resultOf_19 : decode cX3_resultOf 19 = .ok (.ldc 157, 2) := by decide +kernel
theorem dX3_resultOf_21 : decode cX3_resultOf 21 = .ok (.invokespecial 159, 3) := by decide +kernel
theorem dX3_resultOf_24 : decode cX3_resultOf 24 = .ok (.athrow, 1) := by decide +kernel
theorem dX3_resultOf_25 : decode cX3_resultOf 25 = .ok (.aload_n 0, 1) := by decide +kernel
theorem dX3_resultOf_26 : decode cX3_resultOf 26 = .ok (.getfield 34, 3) := by decide +kernel
theorem dX3_resultOf_29 : decode cX3_resultOf 29 = .ok (.iload_n 1, 1) := by decide +kernel
theorem dX3_resultOf_30 : decode cX3_resultOf 30 = .ok (.iaload, 1) := by decide +kernel
theorem dX3_resultOf_31 : decode cX3_resultOf 31 = .ok (.ireturn, 1) := by decide +kernel
set_option maxRecDepth 20000 in
theorem ggX3_minorityAmong_X3_isMember : GoodIn wsX3_minorityAmong wsX3_isMember := goodIn_r _ [6] (by decide +kernel) (by decide +kernel)
set_option maxRecDepth 20000 in
theorem gX3_minorityAmong_X3_isMember : GoodIn wsX3_minorityAmong (va_wsS RX3 120 yX3_isMember wsX3_isMember) := goodIn_app (goodIn_of _ (by decide +kernel)) ggX3_minorityAmong_X3_isMember
set_option maxRecDepth 20000 in
theorem ggX3_minorityAmong_X1_netOf : GoodIn wsX3_minorityAmong wsX1_netOf := goodIn_r _ [10, 11, 12, 13, 8, 14, 15, 16, 17, 18, 19, 20, 21, 22, 23, 24, 25, 26, 27, 28, 47, 48, 49, 50, 51, 52, 53] (by decide +kernel) (by decide +kernel)
set_option maxRecDepth 20000 in
theorem gX3_minorityAmong_X1_netOf_n62 : GoodIn wsX3_minorityAmong (wsX1_netOf) := ggX3_minorityAmong_X1_netOf
set_option maxRecDepth 20000 in
theorem ggX3_minorityAmong_X2_partOfOthers : GoodIn wsX3_minorityAmong wsX2_partOfOthers := goodIn_r _ [32, 33, 34, 35, 36, 30, 37, 38, 39, 22, 40, 54, 55, 56, 57, 58, 59] (by decide +kernel) (by decide +kernel)
set_option maxRecDepth 20000 in
theorem gX3_minorityAmong_X2_partOfOthers_n160 : GoodIn wsX3_minorityAmong (wsX2_partOfOthers) := ggX3_minorityAmong_X2_partOfOthers
theorem dX3_minorityAmong_0 : decode cX3_minorityAmong 0 = .ok (.iload_n 1, 1) := by decide +kernel
theorem dX3_minorityAmong_1 : decode cX3_minorityAmong 1 = .ok (.iload_n 2, 1) := by decide +kernel
theorem dX3_minorityAmong_2 : decode cX3_minorityAmong 2 = .ok (.invokestatic 120, 3) := by decide +kernel
theorem dX3_minorityAmong_5 : decode cX3_minorityAmong 5 = .ok (.ifCond .eq 22, 3) := by decide +kernel
theorem dX3_minorityAmong_8 : decode cX3_minorityAmong 8 = .ok (.aload_n 0, 1) := by decide +kernel
theorem dX3_minorityAmong_9 : decode cX3_minorityAmong 9 = .ok (.getfield 10, 3) := by decide +kernel
theorem dX3_minorityAmong_12 : decode cX3_minorityAmong 12 = .ok (.iload_n 2, 1) := by decide +kernel
theorem dX3_minorityAmong_13 : decode cX3_minorityAmong 13 = .ok (.aload_n 0, 1) := by decide +kernel
theorem dX3_minorityAmong_14 : decode cX3_minorityAmong 14 = .ok (.getfield 19, 3) := by decide +kernel
theorem dX3_minorityAmong_17 : decode cX3_minorityAmong 17 = .ok (.iload_n 2, 1) := by decide +kernel
theorem dX3_minorityAmong_18 : decode cX3_minorityAmong 18 = .ok (.invokevirtual 62, 3) := by decide +kernel
theorem dX3_minorityAmong_21 : decode cX3_minorityAmong 21 = .ok (.invokevirtual 160, 3) := by decide +kernel
theorem dX3_minorityAmong_24 : decode cX3_minorityAmong 24 = .ok (.goto 4, 3) := by decide +kernel
theorem dX3_minorityAmong_27 : decode cX3_minorityAmong 27 = .ok (.iconst 0, 1) := by decide +kernel
theorem dX3_minorityAmong_28 : decode cX3_minorityAmong 28 = .ok (.ireturn, 1) := by decide +kernel
theorem dX3_isMember_0 : decode cX3_isMember 0 = .ok (.iload_n 0, 1) := by decide +kernel
theorem dX3_isMember_1 : decode cX3_isMember 1 = .ok (.iload_n 1, 1) := by decide +kernel
theorem dX3_isMember_2 : decode cX3_isMember 2 = .ok (.ishr, 1) := by decide +kernel
theorem dX3_isMember_3 : decode cX3_isMember 3 = .ok (.iconst 1, 1) := by decide +kernel
theorem dX3_isMember_4 : decode cX3_isMember 4 = .ok (.iand, 1) := by decide +kernel
theorem dX3_isMember_5 : decode cX3_isMember 5 = .ok (.iconst 1, 1) := by decide +kernel
theorem dX3_isMember_6 : decode cX3_isMember 6 = .ok (.if_icmp .ne 7, 3) := by decide +kernel
theorem dX3_isMember_9 : decode cX3_isMember 9 = .ok (.iconst 1, 1) := by decide +kernel
theorem dX3_isMember_10 : decode cX3_isMember 10 = .ok (.goto 4, 3) := by decide +kernel
theorem dX3_isMember_13 : decode cX3_isMember 13 = .ok (.iconst 0, 1) := by decide +kernel
theorem dX3_isMember_14 : decode cX3_isMember 14 = .ok (.ireturn, 1) := by decide +kernel
set_option maxRecDepth 20000 in
theorem ggX3_requireCompany_X3_requireRange : GoodIn wsX3_requireCompany wsX3_requireRange := goodIn_ca (goodIn_r _ [4, 5, 6] (by decide +kernel) (by decide +kernel)) (goodIn_sub (fun _ h => List.mem_cons_of_mem _ (List.mem_append_right _ h)) (by decide +kernel))
set_option maxRecDepth 20000 in
theorem gX3_requireCompany_X3_requireRange : GoodIn wsX3_requireCompany (va_wsS RX3 45 yX3_requireRange wsX3_requireRange) := goodIn_app (goodIn_of _ (by decide +kernel)) ggX3_requireCompany_X3_requireRange
theorem dX3_requireCompany_0 : decode cX3_requireCompany 0 = .ok (.iload_n 0, 1) := by decide +kernel
theorem dX3_requireCompany_1 : decode cX3_requireCompany 1 = .ok (.iconst 0, 1) := by decide +kernel
theorem dX3_requireCompany_2 : decode cX3_requireCompany 2 = .ok (.iconst 5, 1) := by decide +kernel
theorem dX3_requireCompany_3 : decode cX3_requireCompany 3 = .ok (.invokestatic 45, 3) := by decide +kernel
theorem dX3_requireCompany_6 : decode cX3_requireCompany 6 = .ok (.return_, 1) := by decide +kernel
set_option maxRecDepth 20000 in
theorem ggX3_requireTwoCompanies_X3_requireCompany : GoodIn wsX3_requireTwoCompanies wsX3_requireCompany := goodIn_ca (goodIn_r _ [6, 7, 8, 5, 9, 1, 2] (by decide +kernel) (by decide +kernel)) (goodIn_sub (fun _ h => List.mem_cons_of_mem _ (List.mem_append_right _ h)) (by decide +kernel))
set_option maxRecDepth 20000 in
theorem gX3_requireTwoCompanies_X3_requireCompany : GoodIn wsX3_requireTwoCompanies (va_wsS RX3 71 yX3_requireCompany wsX3_requireCompany) := goodIn_app (goodIn_of _ (by decide +kernel)) ggX3_requireTwoCompanies_X3_requireCompany
theorem dX3_requireTwoCompanies_0 : decode cX3_requireTwoCompanies 0 = .ok (.iload_n 0, 1) := by decide +kernel
theorem dX3_requireTwoCompanies_1 : decode cX3_requireTwoCompanies 1 = .ok (.invokestatic 71, 3) := by decide +kernel
theorem dX3_requireTwoCompanies_4 : decode cX3_requireTwoCompanies 4 = .ok (.iload_n 1, 1) := by decide +kernel
theorem dX3_requireTwoCompanies_5 : decode cX3_requireTwoCompanies 5 = .ok (.invokestatic 71, 3) := by decide +kernel
theorem dX3_requireTwoCompanies_8 : decode cX3_requireTwoCompanies 8 = .ok (.iload_n 0, 1) := by decide +kernel
theorem dX3_requireTwoCompanies_9 : decode cX3_requireTwoCompanies 9 = .ok (.iload_n 1, 1) := by decide +kernel
theorem dX3_requireTwoCompanies_10 : decode cX3_requireTwoCompanies 10 = .ok (.if_icmp .ne 13, 3) := by decide +kernel
theorem dX3_requireTwoCompanies_13 : decode cX3_requireTwoCompanies 13 = .ok (.new 155, 3) := by decide +kernel
theorem dX3_requireTwoCompanies_16 : decode cX3_requireTwoCompanies 16 = .ok (.dup, 1) := by decide +kernel
theorem dX3_requireTwoCompanies_17 : decode cX3_requireTwoCompanies 17 = .ok (.ldc 163, 2) := by decide +kernel
theorem dX3_requireTwoCompanies_19 : decode cX3_requireTwoCompanies 19 = .ok (.invokespecial 159, 3) := by decide +kernel
theorem dX3_requireTwoCompanies_22 : decode cX3_requireTwoCompanies 22 = .ok (.athrow, 1) := by decide +kernel
theorem dX3_requireTwoCompanies_23 : decode cX3_requireTwoCompanies 23 = .ok (.return_, 1) := by decide +kernel
theorem dX3_requireRange_0 : decode cX3_requireRange 0 = .ok (.iload_n 0, 1) := by decide +kernel
theorem dX3_requireRange_1 : decode cX3_requireRange 1 = .ok (.iload_n 1, 1) := by decide +kernel
theorem dX3_requireRange_2 : decode cX3_requireRange 2 = .ok (.if_icmp .lt 8, 3) := by decide +kernel
theorem dX3_requireRange_5 : decode cX3_requireRange 5 = .ok (.iload_n 0, 1) := by decide +kernel
theorem dX3_requireRange_6 : decode cX3_requireRange 6 = .ok (.iload_n 2, 1) := by decide +kernel
theorem dX3_requireRange_7 : decode cX3_requireRange 7 = .ok (.if_icmp .le 13, 3) := by decide +kernel
theorem dX3_requireRange_10 : decode cX3_requireRange 10 = .ok (.new 155, 3) := by decide +kernel
theorem dX3_requireRange_13 : decode cX3_requireRange 13 = .ok (.dup, 1) := by decide +kernel
theorem dX3_requireRange_14 : decode cX3_requireRange 14 = .ok (.ldc 165, 2) := by decide +kernel
theorem dX3_requireRange_16 : decode cX3_requireRange 16 = .ok (.invokespecial 159, 3) := by decide +kernel
theorem dX3_requireRange_19 : decode cX3_requireRange 19 = .ok (.athrow, 1) := by decide +kernel
theorem dX3_requireRange_20 : decode cX3_requireRange 20 = .ok (.return_, 1) := by decide +kernel
theorem dX3_requireBalance_0 : decode cX3_requireBalance 0 = .ok (.iload_n 0, 1) := by decide +kernel
theorem dX3_requireBalance_1 : decode cX3_requireBalance 1 = .ok (.iload_n 1, 1) := by decide +kernel
theorem dX3_requireBalance_2 : decode cX3_requireBalance 2 = .ok (.if_icmp .eq 13, 3) := by decide +kernel
theorem dX3_requireBalance_5 : decode cX3_requireBalance 5 = .ok (.new 155, 3) := by decide +kernel
theorem dX3_requireBalance_8 : decode cX3_requireBalance 8 = .ok (.dup, 1) := by decide +kernel
theorem dX3_requireBalance_9 : decode cX3_requireBalance 9 = .ok (.ldc 167, 2) := by decide +kernel
theorem dX3_requireBalance_11 : decode cX3_requireBalance 11 = .ok (.invokespecial 159, 3) := by decide +kernel
theorem dX3_requireBalance_14 : decode cX3_requireBalance 14 = .ok (.athrow, 1) := by decide +kernel
theorem dX3_requireBalance_15 : decode cX3_requireBalance 15 = .ok (.return_, 1) := by decide +kernel
theorem dX3_requireTaken_0 : decode cX3_requireTaken 0 = .ok (.iload_n 0, 1) := by decide +kernel
theorem dX3_requireTaken_1 : decode cX3_requireTaken 1 = .ok (.ifCond .ne 13, 3) := by decide +kernel
theorem dX3_requireTaken_4 : decode cX3_requireTaken 4 = .ok (.new 142, 3) := by decide +kernel
theorem dX3_requireTaken_7 : decode cX3_requireTaken 7 = .ok (.dup, 1) := by decide +kernel
theorem dX3_requireTaken_8 : decode cX3_requireTaken 8 = .ok (.ldc 169, 2) := by decide +kernel
theorem dX3_requireTaken_10 : decode cX3_requireTaken 10 = .ok (.invokespecial 146, 3) := by decide +kernel
theorem dX3_requireTaken_13 : decode cX3_requireTaken 13 = .ok (.athrow, 1) := by decide +kernel
theorem dX3_requireTaken_14 : decode cX3_requireTaken 14 = .ok (.return_, 1) := by decide +kernel
theorem dX3_pair_0 : decode cX3_pair 0 = .ok (.iload_n 0, 1) := by decide +kernel
theorem dX3_pair_1 : decode cX3_pair 1 = .ok (.bipush 6, 2) := by decide +kernel
theorem dX3_pair_3 : decode cX3_pair 3 = .ok (.imul, 1) := by decide +kernel
theorem dX3_pair_4 : decode cX3_pair 4 = .ok (.iload_n 1, 1) := by decide +kernel
theorem dX3_pair_5 : decode cX3_pair 5 = .ok (.iadd, 1) := by decide +kernel
theorem dX3_pair_6 : decode cX3_pair 6 = .ok (.ireturn, 1) := by decide +kernel
