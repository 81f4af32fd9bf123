theorem ggL_hold_X3_hold : GoodIn wsL_hold wsX3_hold := goodIn_ca (goodIn_ca (goodIn_r _ [7, 8, 9, 10, 6, 11, 12, 13, 14, 15, 16, 17, 18, 19, 20, 21, 22, 23, 24, 25, 26, 27, 28, 29, 30, 31, 32, 33, 34, 35, 36, 37, 38, 39, 40, 41, 42, 43, 44, 45, 46, 47, 48, 49, 50, 51, 52, 53, 54, 55, 56, 57, 58, 59, 60, 61, 62, 63, 64, 65, 66, 67, 68, 69, 70, 71, 72, 73, 74, 75, 76, 77] (by decide +kernel) (by decide +kernel)) (goodIn_sub (fun _ h => List.mem_cons_of_mem _ (List.mem_append_left _ (List.mem_append_right _ h))) (by decide +kernel))) (goodIn_sub (fun _ h => List.mem_cons_of_mem _ (List.mem_append_right _ h)) (by decide +kernel))
set_option maxRecDepth 20000 in
theorem gL_hold_X3_hold : GoodIn wsL_hold (wsV RL 7 RX3 yX3_hold wsX3_hold) := goodIn_app (goodIn_of _ (by decide +kernel)) ggL_hold_X3_hold
theorem dL_hold_0 : decode cL_hold 0 = .ok (.aload 4, 2) := by decide +kernel
theorem dL_hold_2 : decode cL_hold 2 = .ok (.iconst 0, 1) := by decide +kernel
theorem dL_hold_3 : decode cL_hold 3 = .ok (.aload_n 0, 1) := by decide +kernel
theorem dL_hold_4 : decode cL_hold 4 = .ok (.iload_n 1, 1) := by decide +kernel
theorem dL_hold_5 : decode cL_hold 5 = .ok (.iload_n 2, 1) := by decide +kernel
theorem dL_hold_6 : decode cL_hold 6 = .ok (.iload_n 3, 1) := by decide +kernel
theorem dL_hold_7 : decode cL_hold 7 = .ok (.invokevirtual 7, 3) := by decide +kernel
theorem dL_hold_10 : decode cL_hold 10 = .ok (.i2l, 1) := by decide +kernel
theorem dL_hold_11 : decode cL_hold 11 = .ok (.lastore, 1) := by decide +kernel
theorem dL_hold_12 : decode cL_hold 12 = .ok (.goto 11, 3) := by decide +kernel
theorem dL_hold_15 : decode cL_hold 15 = .ok (.astore 5, 2) := by decide +kernel
theorem dL_hold_17 : decode cL_hold 17 = .ok (.iconst 1, 1) := by decide +kernel
theorem dL_hold_18 : decode cL_hold 18 = .ok (.ireturn, 1) := by decide +kernel
theorem dL_hold_19 : decode cL_hold 19 = .ok (.astore 5, 2) := by decide +kernel
theorem dL_hold_21 : decode cL_hold 21 = .ok (.iconst 2, 1) := by decide +kernel
theorem dL_hold_22 : decode cL_hold 22 = .ok (.ireturn, 1) := by decide +kernel
theorem dL_hold_23 : decode cL_hold 23 = .ok (.iconst 0, 1) := by decide +kernel
theorem dL_hold_24 : decode cL_hold 24 = .ok (.ireturn, 1) := by decide +kernel
set_option maxRecDepth 20000 in
theorem ggL_acquire_X3_acquire : GoodIn wsL_acquire wsX3_acquire := goodIn_ca (goodIn_ca (goodIn_r _ [7, 8, 9, 10, 11, 12, 13, 6, 14, 15, 16, 17, 18, 19, 20, 21, 22, 23, 24, 25, 26, 27, 28, 29, 30, 31, 32, 33, 34, 35, 36, 37, 38, 39, 40, 41, 42, 43, 44, 45, 46, 47, 48, 49, 50, 51, 52, 53, 54, 55, 56, 57, 58, 59, 60, 61, 62, 63, 64, 65, 66, 67, 68, 69, 70, 71, 72, 73, 74, 75, 76, 77, 78, 79, 80, 81, 82, 83, 84, 85, 86, 87, 88, 89, 90, 91, 92, 93, 94, 95, 96, 97, 98, 99, 100, 101, 102, 103, 104, 105, 106, 107, 108, 109, 110] (by decide +kernel) (by decide +kernel)) (goodIn_sub (fun _ h => List.mem_cons_of_mem _ (List.mem_append_left _ (List.mem_append_right _ h))) (by decide +kernel))) (goodIn_sub (fun _ h => List.mem_cons_of_mem _ (List.mem_append_right _ h)) (by decide +kernel))
set_option maxRecDepth 20000 in
theorem gL_acquire_X3_acquire : GoodIn wsL_acquire (wsV RL 17 RX3 yX3_acquire wsX3_acquire) := goodIn_app (goodIn_of _ (by decide +kernel)) ggL_acquire_X3_acquire
theorem dL_acquire_0 : decode cL_acquire 0 = .ok (.aload 5, 2) := by decide +kernel
theorem dL_acquire_2 : decode cL_acquire 2 = .ok (.iconst 0, 1) := by decide +kernel
theorem dL_acquire_3 : decode cL_acquire 3 = .ok (.aload_n 0, 1) := by decide +kernel
theorem dL_acquire_4 : decode cL_acquire 4 = .ok (.iload_n 1, 1) := by decide +kernel
theorem dL_acquire_5 : decode cL_acquire 5 = .ok (.iload_n 2, 1) := by decide +kernel
theorem dL_acquire_6 : decode cL_acquire 6 = .ok (.iload_n 3, 1) := by decide +kernel
theorem dL_acquire_7 : decode cL_acquire 7 = .ok (.iload 4, 2) := by decide +kernel
theorem dL_acquire_9 : decode cL_acquire 9 = .ok (.invokevirtual 17, 3) := by decide +kernel
theorem dL_acquire_12 : decode cL_acquire 12 = .ok (.i2l, 1) := by decide +kernel
theorem dL_acquire_13 : decode cL_acquire 13 = .ok (.lastore, 1) := by decide +kernel
theorem dL_acquire_14 : decode cL_acquire 14 = .ok (.goto 11, 3) := by decide +kernel
theorem dL_acquire_17 : decode cL_acquire 17 = .ok (.astore 6, 2) := by decide +kernel
theorem dL_acquire_19 : decode cL_acquire 19 = .ok (.iconst 1, 1) := by decide +kernel
theorem dL_acquire_20 : decode cL_acquire 20 = .ok (.ireturn, 1) := by decide +kernel
theorem dL_acquire_21 : decode cL_acquire 21 = .ok (.astore 6, 2) := by decide +kernel
theorem dL_acquire_23 : decode cL_acquire 23 = .ok (.iconst 2, 1) := by decide +kernel
theorem dL_acquire_24 : decode cL_acquire 24 = .ok (.ireturn, 1) := by decide +kernel
theorem dL_acquire_25 : decode cL_acquire 25 = .ok (.iconst 0, 1) := by decide +kernel
theorem dL_acquire_26 : decode cL_acquire 26 = .ok (.ireturn, 1) := by decide +kernel
set_option maxRecDepth 20000 in
theorem ggL_held_X3_held : GoodIn wsL_held wsX3_held := goodIn_ca (goodIn_r _ [6, 7, 8, 9, 5, 10, 11, 12, 13, 14, 15, 16, 17, 18, 19, 20, 21, 22, 23, 24, 25, 26, 27, 28, 29, 30, 31, 32, 33, 34] (by decide +kernel) (by decide +kernel)) (goodIn_sub (fun _ h => List.mem_cons_of_mem _ (List.mem_append_right _ h)) (by decide +kernel))
set_option maxRecDepth 20000 in
theorem gL_held_X3_held : GoodIn wsL_held (wsV RL 21 RX3 yX3_held wsX3_held) := goodIn_app (goodIn_of _ (by decide +kernel)) ggL_held_X3_held
theorem dL_held_0 : decode cL_held 0 = .ok (.aload_n 3, 1) := by decide +kernel
theorem dL_held_1 : decode cL_held 1 = .ok (.iconst 0, 1) := by decide +kernel
theorem dL_held_2 : decode cL_held 2 = .ok (.aload_n 0, 1) := by decide +kernel
theorem dL_held_3 : decode cL_held 3 = .ok (.iload_n 1, 1) := by decide +kernel
theorem dL_held_4 : decode cL_held 4 = .ok (.iload_n 2, 1) := by decide +kernel
theorem dL_held_5 : decode cL_held 5 = .ok (.invokevirtual 21, 3) := by decide +kernel
theorem dL_held_8 : decode cL_held 8 = .ok (.i2l, 1) := by decide +kernel
theorem dL_held_9 : decode cL_held 9 = .ok (.lastore, 1) := by decide +kernel
theorem dL_held_10 : decode cL_held 10 = .ok (.goto 7, 3) := by decide +kernel
theorem dL_held_13 : decode cL_held 13 = .ok (.astore 4, 2) := by decide +kernel
theorem dL_held_15 : decode cL_held 15 = .ok (.iconst 1, 1) := by decide +kernel
theorem dL_held_16 : decode cL_held 16 = .ok (.ireturn, 1) := by decide +kernel
theorem dL_held_17 : decode cL_held 17 = .ok (.iconst 0, 1) := by decide +kernel
theorem dL_held_18 : decode cL_held 18 = .ok (.ireturn, 1) := by decide +kernel
set_option maxRecDepth 20000 in
theorem ggL_shareNumerator_X3_shareNumerator : GoodIn wsL_shareNumerator wsX3_shareNumerator := goodIn_ca (goodIn_r _ [6, 7, 8, 9, 5, 10, 11, 12, 13, 14, 15, 16, 17, 18, 19, 20, 21, 22, 23, 24, 25, 26, 27, 28, 29, 30, 31, 32] (by decide +kernel) (by decide +kernel)) (goodIn_sub (fun _ h => List.mem_cons_of_mem _ (List.mem_append_right _ h)) (by decide +kernel))
set_option maxRecDepth 20000 in
theorem gL_shareNumerator_X3_shareNumerator : GoodIn wsL_shareNumerator (wsV RL 25 RX3 yX3_shareNumerator wsX3_shareNumerator) := goodIn_app (goodIn_of _ (by decide +kernel)) ggL_shareNumerator_X3_shareNumerator
theorem dL_shareNumerator_0 : decode cL_shareNumerator 0 = .ok (.aload_n 2, 1) := by decide +kernel
theorem dL_shareNumerator_1 : decode cL_shareNumerator 1 = .ok (.iconst 0, 1) := by decide +kernel
theorem dL_shareNumerator_2 : decode cL_shareNumerator 2 = .ok (.aload_n 0, 1) := by decide +kernel
theorem dL_shareNumerator_3 : decode cL_shareNumerator 3 = .ok (.iload_n 1, 1) := by decide +kernel
theorem dL_shareNumerator_4 : decode cL_shareNumerator 4 = .ok (.invokevirtual 25, 3) := by decide +kernel
theorem dL_shareNumerator_7 : decode cL_shareNumerator 7 = .ok (.lastore, 1) := by decide +kernel
theorem dL_shareNumerator_8 : decode cL_shareNumerator 8 = .ok (.goto 6, 3) := by decide +kernel
theorem dL_shareNumerator_11 : decode cL_shareNumerator 11 = .ok (.astore_n 3, 1) := by decide +kernel
theorem dL_shareNumerator_12 : decode cL_shareNumerator 12 = .ok (.iconst 1, 1) := by decide +kernel
theorem dL_shareNumerator_13 : decode cL_shareNumerator 13 = .ok (.ireturn, 1) := by decide +kernel
theorem dL_shareNumerator_14 : decode cL_shareNumerator 14 = .ok (.iconst 0, 1) := by decide +kernel
theorem dL_shareNumerator_15 : decode cL_shareNumerator 15 = .ok (.ireturn, 1) := by decide +kernel
set_option maxRecDepth 20000 in
theorem ggL_shareDenominator_X3_shareDenominator : GoodIn wsL_shareDenominator wsX3_shareDenominator := goodIn_ca (goodIn_r _ [6, 7, 8, 9, 5, 10, 11, 12, 13, 14, 15, 16, 17, 18, 19, 20, 21, 22, 23, 24, 25, 26, 27, 28, 29, 30, 31, 32] (by decide +kernel) (by decide +kernel)) (goodIn_sub (fun _ h => List.mem_cons_of_mem _ (List.mem_append_right _ h)) (by decide +kernel))
set_option maxRecDepth 20000 in
theorem gL_shareDenominator_X3_shareDenominator : GoodIn wsL_shareDenominator (wsV RL 29 RX3 yX3_shareDenominator wsX3_shareDenominator) := goodIn_app (goodIn_of _ (by decide +kernel)) ggL_shareDenominator_X3_shareDenominator
theorem dL_shareDenominator_0 : decode cL_shareDenominator 0 = .ok (.aload_n 2, 1) := by decide +kernel
theorem dL_shareDenominator_1 : decode cL_shareDenominator 1 = .ok (.iconst 0, 1) := by decide +kernel
theorem dL_shareDenominator_2 : decode cL_shareDenominator 2 = .ok (.aload_n 0, 1) := by decide +kernel
theorem dL_shareDenominator_3 : decode cL_shareDenominator 3 = .ok (.iload_n 1, 1) := by decide +kernel
theorem dL_shareDenominator_4 : decode cL_shareDenominator 4 = .ok (.invokevirtual 29, 3) := by decide +kernel
theorem dL_shareDenominator_7 : decode cL_shareDenominator 7 = .ok (.lastore, 1) := by decide +kernel
theorem dL_shareDenominator_8 : decode cL_shareDenominator 8 = .ok (.goto 6, 3) := by decide +kernel
theorem dL_shareDenominator_11 : decode cL_shareDenominator 11 = .ok (.astore_n 3, 1) := by decide +kernel
theorem dL_shareDenominator_12 : decode cL_shareDenominator 12 = .ok (.iconst 1, 1) := by decide +kernel
theorem dL_shareDenominator_13 : decode cL_shareDenominator 13 = .ok (.ireturn, 1) := by decide +kernel
theorem dL_shareDenominator_14 : decode cL_shareDenominator 14 = .ok (.iconst 0, 1) := by decide +kernel
theorem dL_shareDenominator_15 : decode cL_shareDenominator 15 = .ok (.ireturn, 1) := by decide +kernel
set_option maxRecDepth 20000 in
theorem ggL_shareByRounds_X3_shareByRounds : GoodIn wsL_shareByRounds wsX3_shareByRounds := goodIn_ca (goodIn_r _ [6, 7, 8, 9, 5, 10, 11, 12, 13, 14, 15, 16, 17, 18, 19, 20, 21, 22, 23, 24, 25, 26, 27, 28, 29, 30, 31, 32, 33, 34, 35, 36, 37, 38, 39, 40, 41] (by decide +kernel) (by decide +kernel)) (goodIn_sub (fun _ h => List.mem_cons_of_mem _ (List.mem_append_right _ h)) (by decide +kernel))
set_option maxRecDepth 20000 in
theorem gL_shareByRounds_X3_shareByRounds : GoodIn wsL_shareByRounds (wsV RL 32 RX3 yX3_shareByRounds wsX3_shareByRounds) := goodIn_app (goodIn_of _ (by decide +kernel)) ggL_shareByRounds_X3_shareByRounds
theorem dL_shareByRounds_0 : decode cL_shareByRounds 0 = .ok (.aload_n 3, 1) := by decide +kernel
theorem dL_shareByRounds_1 : decode cL_shareByRounds 1 = .ok (.iconst 0, 1) := by decide +kernel
theorem dL_shareByRounds_2 : decode cL_shareByRounds 2 = .ok (.aload_n 0, 1) := by decide +kernel
theorem dL_shareByRounds_3 : decode cL_shareByRounds 3 = .ok (.iload_n 1, 1) := by decide +kernel
theorem dL_shareByRounds_4 : decode cL_shareByRounds 4 = .ok (.iload_n 2, 1) := by decide +kernel
theorem dL_shareByRounds_5 : decode cL_shareByRounds 5 = .ok (.invokevirtual 32, 3) := by decide +kernel
theorem dL_shareByRounds_8 : decode cL_shareByRounds 8 = .ok (.i2l, 1) := by decide +kernel
theorem dL_shareByRounds_9 : decode cL_shareByRounds 9 = .ok (.lastore, 1) := by decide +kernel
theorem dL_shareByRounds_10 : decode cL_shareByRounds 10 = .ok (.goto 7, 3) := by decide +kernel
theorem dL_shareByRounds_13 : decode cL_shareByRounds 13 = .ok (.astore 4, 2) := by decide +kernel
theorem dL_shareByRounds_15 : decode cL_shareByRounds 15 = .ok (.iconst 1, 1) := by decide +kernel
theorem dL_shareByRounds_16 : decode cL_shareByRounds 16 = .ok (.ireturn, 1) := by decide +kernel
theorem dL_shareByRounds_17 : decode cL_shareByRounds 17 = .ok (.iconst 0, 1) := by decide +kernel
theorem dL_shareByRounds_18 : decode cL_shareByRounds 18 = .ok (.ireturn, 1) := by decide +kernel
set_option maxRecDepth 20000 in
theorem ggL_goodwill_X3_goodwill : GoodIn wsL_goodwill wsX3_goodwill := goodIn_ca (goodIn_r _ [6, 7, 8, 9, 5, 10, 11, 12, 13, 14, 15, 16, 17, 18, 19, 20, 21] (by decide +kernel) (by decide +kernel)) (goodIn_sub (fun _ h => List.mem_cons_of_mem _ (List.mem_append_right _ h)) (by decide +kernel))
set_option maxRecDepth 20000 in
theorem gL_goodwill_X3_goodwill : GoodIn wsL_goodwill (wsV RL 35 RX3 yX3_goodwill wsX3_goodwill) := goodIn_app (goodIn_of _ (by decide +kernel)) ggL_goodwill_X3_goodwill
theorem dL_goodwill_0 : decode cL_goodwill 0 = .ok (.aload_n 2, 1) := by decide +kernel
theorem dL_goodwill_1 : decode cL_goodwill 1 = .ok (.iconst 0, 1) := by decide +kernel
theorem dL_goodwill_2 : decode cL_goodwill 2 = .ok (.aload_n 0, 1) := by decide +kernel
theorem dL_goodwill_3 : decode cL_goodwill 3 = .ok (.iload_n 1, 1) := by decide +kernel
theorem dL_goodwill_4 : decode cL_goodwill 4 = .ok (.invokevirtual 35, 3) := by decide +kernel
theorem dL_goodwill_7 : decode cL_goodwill 7 = .ok (.i2l, 1) := by decide +kernel
theorem dL_goodwill_8 : decode cL_goodwill 8 = .ok (.lastore, 1) := by decide +kernel
theorem dL_goodwill_9 : decode cL_goodwill 9 = .ok (.goto 6, 3) := by decide +kernel
theorem dL_goodwill_12 : decode cL_goodwill 12 = .ok (.astore_n 3, 1) := by decide +kernel
theorem dL_goodwill_13 : decode cL_goodwill 13 = .ok (.iconst 1, 1) := by decide +kernel
theorem dL_goodwill_14 : decode cL_goodwill 14 = .ok (.ireturn, 1) := by decide +kernel
theorem dL_goodwill_15 : decode cL_goodwill 15 = .ok (.iconst 0, 1) := by decide +kernel
theorem dL_goodwill_16 : decode cL_goodwill 16 = .ok (.ireturn, 1) := by decide +kernel
set_option maxRecDepth 20000 in
theorem ggL_setBooks_X3_setBooks : GoodIn wsL_setBooks wsX3_setBooks := goodIn_ca (goodIn_r _ [6, 7, 8, 9, 10, 11, 5, 12, 13, 14, 15, 16, 17, 18, 19, 20, 21, 22, 23, 24, 25, 26, 27, 28, 29, 30, 31, 32, 33, 34, 35, 36, 37, 38, 39, 40, 41] (by decide +kernel) (by decide +kernel)) (goodIn_sub (fun _ h => List.mem_cons_of_mem _ (List.mem_append_right _ h)) (by decide +kernel))
set_option maxRecDepth 20000 in
theorem gL_setBooks_X3_setBooks : GoodIn wsL_setBooks (wsV RL 39 RX3 yX3_setBooks wsX3_setBooks) := goodIn_app (goodIn_of _ (by decide +kernel)) ggL_setBooks_X3_setBooks
theorem dL_setBooks_0 : decode cL_setBooks 0 = .ok (.aload_n 0, 1) := by decide +kernel
theorem dL_setBooks_1 : decode cL_setBooks 1 = .ok (.iload_n 1, 1) := by decide +kernel
theorem dL_setBooks_2 : decode cL_setBooks 2 = .ok (.iload_n 2, 1) := by decide +kernel
theorem dL_setBooks_3 : decode cL_setBooks 3 = .ok (.iload_n 3, 1) := by decide +kernel
theorem dL_setBooks_4 : decode cL_setBooks 4 = .ok (.iload 4, 2) := by decide +kernel
theorem dL_setBooks_6 : decode cL_setBooks 6 = .ok (.iload 5, 2) := by decide +kernel
theorem dL_setBooks_8 : decode cL_setBooks 8 = .ok (.invokevirtual 39, 3) := by decide +kernel
theorem dL_setBooks_11 : decode cL_setBooks 11 = .ok (.goto 7, 3) := by decide +kernel
theorem dL_setBooks_14 : decode cL_setBooks 14 = .ok (.astore 6, 2) := by decide +kernel
theorem dL_setBooks_16 : decode cL_setBooks 16 = .ok (.iconst 1, 1) := by decide +kernel
theorem dL_setBooks_17 : decode cL_setBooks 17 = .ok (.ireturn, 1) := by decide +kernel
theorem dL_setBooks_18 : decode cL_setBooks 18 = .ok (.iconst 0, 1) := by decide +kernel
theorem dL_setBooks_19 : decode cL_setBooks 19 = .ok (.ireturn, 1) := by decide +kernel
set_option maxRecDepth 20000 in
theorem ggL_setRates_X3_setRates : GoodIn wsL_setRates wsX3_setRates := goodIn_ca (goodIn_r _ [6, 7, 8, 9, 5, 10, 11, 12, 13, 14, 15, 16, 17, 18, 19, 20, 21, 22, 23, 24, 25, 26, 27, 28, 29, 30, 31, 32, 33, 34, 35] (by decide +kernel) (by decide +kernel)) (goodIn_sub (fun _ h => List.mem_cons_of_mem _ (List.mem_append_right _ h)) (by decide +kernel))
set_option maxRecDepth 20000 in
theorem gL_setRates_X3_setRates : GoodIn wsL_setRates (wsV RL 43 RX3 yX3_setRates wsX3_setRates) := goodIn_app (goodIn_of _ (by decide +kernel)) ggL_setRates_X3_setRates
theorem dL_setRates_0 : decode cL_setRates 0 = .ok (.aload_n 0, 1) := by decide +kernel
theorem dL_setRates_1 : decode cL_setRates 1 = .ok (.iload_n 1, 1) := by decide +kernel
theorem dL_setRates_2 : decode cL_setRates 2 = .ok (.iload_n 2, 1) := by decide +kernel
theorem dL_setRates_3 : decode cL_setRates 3 = .ok (.iload_n 3, 1) := by decide +kernel
theorem dL_setRates_4 : decode cL_setRates 4 = .ok (.iload 4, 2) := by decide +kernel
theorem dL_setRates_6 : decode cL_setRates 6 = .ok (.invokevirtual 43, 3) := by decide +kernel
theorem dL_setRates_9 : decode cL_setRates 9 = .ok (.goto 7, 3) := by decide +kernel
theorem dL_setRates_12 : decode cL_setRates 12 = .ok (.astore 5, 2) := by decide +kernel
theorem dL_setRates_14 : decode cL_setRates 14 = .ok (.iconst 1, 1) := by decide +kernel
theorem dL_setRates_15 : decode cL_setRates 15 = .ok (.ireturn, 1) := by decide +kernel
theorem dL_setRates_16 : decode cL_setRates 16 = .ok (.iconst 0, 1) := by decide +kernel
theorem dL_setRates_17 : decode cL_setRates 17 = .ok (.ireturn, 1) := by decide +kernel
set_option maxRecDepth 20000 in
theorem ggL_netValue_X3_netValue : GoodIn wsL_netValue wsX3_netValue := goodIn_ca (goodIn_r _ [6, 7, 8, 9, 5, 10, 11, 12, 13, 14, 15, 16, 17, 18, 19, 20, 21, 22, 23, 24, 25, 26, 27, 28, 29, 30, 31, 32, 33, 34, 35, 36, 37, 38, 39, 40, 41, 42, 43, 44, 45, 46, 47, 48, 49, 50] (by decide +kernel) (by decide +kernel)) (goodIn_sub (fun _ h => List.mem_cons_of_mem _ (List.mem_append_right _ h)) (by decide +kernel))
set_option maxRecDepth 20000 in
theorem gL_netValue_X3_netValue : GoodIn wsL_netValue (wsV RL 47 RX3 yX3_netValue wsX3_netValue) := goodIn_app (goodIn_of _ (by decide +kernel)) ggL_netValue_X3_netValue
theorem dL_netValue_0 : decode cL_netValue 0 = .ok (.aload_n 2, 1) := by decide +kernel
theorem dL_netValue_1 : decode cL_netValue 1 = .ok (.iconst 0, 1) := by decide +kernel
theorem dL_netValue_2 : decode cL_netValue 2 = .ok (.aload_n 0, 1) := by decide +kernel
theorem dL_netValue_3 : decode cL_netValue 3 = .ok (.iload_n 1, 1) := by decide +kernel
theorem dL_netValue_4 : decode cL_netValue 4 = .ok (.invokevirtual 47, 3) := by decide +kernel
theorem dL_netValue_7 : decode cL_netValue 7 = .ok (.i2l, 1) := by decide +kernel
theorem dL_netValue_8 : decode cL_netValue 8 = .ok (.lastore, 1) := by decide +kernel
theorem dL_netValue_9 : decode cL_netValue 9 = .ok (.goto 6, 3) := by decide +kernel
theorem dL_netValue_12 : decode cL_netValue 12 = .ok (.astore_n 3, 1) := by decide +kernel
theorem dL_netValue_13 : decode cL_netValue 13 = .ok (.iconst 1, 1) := by decide +kernel
theorem dL_netValue_14 : decode cL_netValue 14 = .ok (.ireturn, 1) := by decide +kernel
theorem dL_netValue_15 : decode cL_netValue 15 = .ok (.iconst 0, 1) := by decide +kernel
theorem dL_netValue_16 : decode cL_netValue 16 = .ok (.ireturn, 1) := by decide +kernel
set_option maxRecDepth 20000 in
theorem ggL_translatedEquity_X3_translatedEquity : GoodIn wsL_translatedEquity wsX3_translatedEquity := goodIn_ca (goodIn_r _ [6, 7, 8, 9, 5, 10, 11, 12, 13, 14, 15, 16, 17, 18, 19, 20, 21, 22, 23, 24, 25, 26, 27, 28, 29, 30, 31, 32, 33, 34, 35, 36, 37, 38, 39, 40, 41] (by decide +kernel) (by decide +kernel)) (goodIn_sub (fun _ h => List.mem_cons_of_mem _ (List.mem_append_right _ h)) (by decide +kernel))
set_option maxRecDepth 20000 in
theorem gL_translatedEquity_X3_translatedEquity : GoodIn wsL_translatedEquity (wsV RL 50 RX3 yX3_translatedEquity wsX3_translatedEquity) := goodIn_app (goodIn_of _ (by decide +kernel)) ggL_translatedEquity_X3_translatedEquity
theorem dL_translatedEquity_0 : decode cL_translatedEquity 0 = .ok (.aload_n 2, 1) := by decide +kernel
theorem dL_translatedEquity_1 : decode cL_translatedEquity 1 = .ok (.iconst 0, 1) := by decide +kernel
theorem dL_translatedEquity_2 : decode cL_translatedEquity 2 = .ok (.aload_n 0, 1) := by decide +kernel
theorem dL_translatedEquity_3 : decode cL_translatedEquity 3 = .ok (.iload_n 1, 1) := by decide +kernel
theorem dL_translatedEquity_4 : decode cL_translatedEquity 4 = .ok (.invokevirtual 50, 3) := by decide +kernel
theorem dL_translatedEquity_7 : decode cL_translatedEquity 7 = .ok (.i2l, 1) := by decide +kernel
theorem dL_translatedEquity_8 : decode cL_translatedEquity 8 = .ok (.lastore, 1) := by decide +kernel
theorem dL_translatedEquity_9 : decode cL_translatedEquity 9 = .ok (.goto 6, 3) := by decide +kernel
theorem dL_translatedEquity_12 : decode cL_translatedEquity 12 = .ok (.astore_n 3, 1) := by decide +kernel
theorem dL_translatedEquity_13 : decode cL_translatedEquity 13 = .ok (.iconst 1, 1) := by decide +kernel
theorem dL_translatedEquity_14 : decode cL_translatedEquity 14 = .ok (.ireturn, 1) := by decide +kernel
theorem dL_translatedEquity_15 : decode cL_translatedEquity 15 = .ok (.iconst 0, 1) := by decide +kernel
theorem dL_translatedEquity_16 : decode cL_translatedEquity 16 = .ok (.ireturn, 1) := by decide +kernel
set_option maxRecDepth 20000 in
theorem ggL_translatedResult_X3_translatedResult : GoodIn wsL_translatedResult wsX3_translatedResult := goodIn_ca (goodIn_r _ [6, 7, 8, 9, 5, 10, 11, 12, 13, 14, 15, 16, 17, 18, 19, 20, 21, 22, 23, 24, 25, 26, 27, 28, 29, 30, 31, 32, 33, 34, 35, 36, 37, 38, 39, 40, 41] (by decide +kernel) (by decide +kernel)) (goodIn_sub (fun _ h => List.mem_cons_of_mem _ (List.mem_append_right _ h)) (by decide +kernel))
set_option maxRecDepth 20000 in
theorem gL_translatedResult_X3_translatedResult : GoodIn wsL_translatedResult (wsV RL 53 RX3 yX3_translatedResult wsX3_translatedResult) := goodIn_app (goodIn_of _ (by decide +kernel)) ggL_translatedResult_X3_translatedResult
theorem dL_translatedResult_0 : decode cL_translatedResult 0 = .ok (.aload_n 2, 1) := by decide +kernel
theorem dL_translatedResult_1 : decode cL_translatedResult 1 = .ok (.iconst 0, 1) := by decide +kernel
theorem dL_translatedResult_2 : decode cL_translatedResult 2 = .ok (.aload_n 0, 1) := by decide +kernel
theorem dL_translatedResult_3 : decode cL_translatedResult 3 = .ok (.iload_n 1, 1) := by decide +kernel
theorem dL_translatedResult_4 : decode cL_translatedResult 4 = .ok (.invokevirtual 53, 3) := by decide +kernel
theorem dL_translatedResult_7 : decode cL_translatedResult 7 = .ok (.i2l, 1) := by decide +kernel
theorem dL_translatedResult_8 : decode cL_translatedResult 8 = .ok (.lastore, 1) := by decide +kernel
theorem dL_translatedResult_9 : decode cL_translatedResult 9 = .ok (.goto 6, 3) := by decide +kernel
theorem dL_translatedResult_12 : decode cL_translatedResult 12 = .ok (.astore_n 3, 1) := by decide +kernel
theorem dL_translatedResult_13 : decode cL_translatedResult 13 = .ok (.iconst 1, 1) := by decide +kernel
theorem dL_translatedResult_14 : decode cL_translatedResult 14 = .ok (.ireturn, 1) := by decide +kernel
theorem dL_translatedResult_15 : decode cL_translatedResult 15 = .ok (.iconst 0, 1) := by decide +kernel
theorem dL_translatedResult_16 : decode cL_translatedResult 16 = .ok (.ireturn, 1) := by decide +kernel
set_option maxRecDepth 20000 in
theorem ggL_reserve_X3_reserve : GoodIn wsL_reserve wsX3_reserve := goodIn_ca (goodIn_r _ [6, 7, 8, 9, 5, 10, 11, 12, 13, 14, 15, 16, 17, 18, 19, 20, 21, 22, 23, 24, 25, 26, 27, 28, 29, 30, 31, 32, 33, 34, 35, 36, 37, 38, 39, 40, 41, 42, 43, 44, 45, 46, 47, 48, 49, 50, 51, 52, 53, 54, 55, 56, 57, 58, 59, 60] (by decide +kernel) (by decide +kernel)) (goodIn_sub (fun _ h => List.mem_cons_of_mem _ (List.mem_append_right _ h)) (by decide +kernel))
set_option maxRecDepth 20000 in
theorem gL_reserve_X3_reserve : GoodIn wsL_reserve (wsV RL 56 RX3 yX3_reserve wsX3_reserve) := goodIn_app (goodIn_of _ (by decide +kernel)) ggL_reserve_X3_reserve
theorem dL_reserve_0 : decode cL_reserve 0 = .ok (.aload_n 2, 1) := by decide +kernel
theorem dL_reserve_1 : decode cL_reserve 1 = .ok (.iconst 0, 1) := by decide +kernel
theorem dL_reserve_2 : decode cL_reserve 2 = .ok (.aload_n 0, 1) := by decide +kernel
theorem dL_reserve_3 : decode cL_reserve 3 = .ok (.iload_n 1, 1) := by decide +kernel
theorem dL_reserve_4 : decode cL_reserve 4 = .ok (.invokevirtual 56, 3) := by decide +kernel
theorem dL_reserve_7 : decode cL_reserve 7 = .ok (.i2l, 1) := by decide +kernel
theorem dL_reserve_8 : decode cL_reserve 8 = .ok (.lastore, 1) := by decide +kernel
theorem dL_reserve_9 : decode cL_reserve 9 = .ok (.goto 6, 3) := by decide +kernel
theorem dL_reserve_12 : decode cL_reserve 12 = .ok (.astore_n 3, 1) := by decide +kernel
theorem dL_reserve_13 : decode cL_reserve 13 = .ok (.iconst 1, 1) := by decide +kernel
theorem dL_reserve_14 : decode cL_reserve 14 = .ok (.ireturn, 1) := by decide +kernel
theorem dL_reserve_15 : decode cL_reserve 15 = .ok (.iconst 0, 1) := by decide +kernel
theorem dL_reserve_16 : decode cL_reserve 16 = .ok (.ireturn, 1) := by decide +kernel
set_option maxRecDepth 20000 in
theorem ggL_claim_X3_claim : GoodIn wsL_claim wsX3_claim := goodIn_ca (goodIn_r _ [6, 7, 8, 9, 10, 5, 11, 12, 13, 14, 15, 16, 17, 18, 19, 20, 21, 22, 23, 24, 25, 26, 27, 28, 29, 30, 31, 32, 33, 34] (by decide +kernel) (by decide +kernel)) (goodIn_sub (fun _ h => List.mem_cons_of_mem _ (List.mem_append_right _ h)) (by decide +kernel))
set_option maxRecDepth 20000 in
theorem gL_claim_X3_claim : GoodIn wsL_claim (wsV RL 59 RX3 yX3_claim wsX3_claim) := goodIn_app (goodIn_of _ (by decide +kernel)) ggL_claim_X3_claim
theorem dL_claim_0 : decode cL_claim 0 = .ok (.aload 4, 2) := by decide +kernel
theorem dL_claim_2 : decode cL_claim 2 = .ok (.iconst 0, 1) := by decide +kernel
theorem dL_claim_3 : decode cL_claim 3 = .ok (.aload_n 0, 1) := by decide +kernel
theorem dL_claim_4 : decode cL_claim 4 = .ok (.iload_n 1, 1) := by decide +kernel
theorem dL_claim_5 : decode cL_claim 5 = .ok (.iload_n 2, 1) := by decide +kernel
theorem dL_claim_6 : decode cL_claim 6 = .ok (.iload_n 3, 1) := by decide +kernel
theorem dL_claim_7 : decode cL_claim 7 = .ok (.invokevirtual 59, 3) := by decide +kernel
theorem dL_claim_10 : decode cL_claim 10 = .ok (.i2l, 1) := by decide +kernel
theorem dL_claim_11 : decode cL_claim 11 = .ok (.lastore, 1) := by decide +kernel
theorem dL_claim_12 : decode cL_claim 12 = .ok (.goto 7, 3) := by decide +kernel
theorem dL_claim_15 : decode cL_claim 15 = .ok (.astore 5, 2) := by decide +kernel
theorem dL_claim_17 : decode cL_claim 17 = .ok (.iconst 1, 1) := by decide +kernel
theorem dL_claim_18 : decode cL_claim 18 = .ok (.ireturn, 1) := by decide +kernel
theorem dL_claim_19 : decode cL_claim 19 = .ok (.iconst 0, 1) := by decide +kernel
theorem dL_claim_20 : decode cL_claim 20 = .ok (.ireturn, 1) := by decide +kernel
set_option maxRecDepth 20000 in
theorem ggL_admit_X3_admit : GoodIn wsL_admit wsX3_admit := goodIn_ca (goodIn_r _ [6, 7, 8, 9, 10, 5, 11, 12, 13, 14, 15, 16, 17, 18, 19, 20, 21, 22, 23, 24, 25, 26, 27, 28, 29, 30, 31, 32, 33, 34] (by decide +kernel) (by decide +kernel)) (goodIn_sub (fun _ h => List.mem_cons_of_mem _ (List.mem_append_right _ h)) (by decide +kernel))
set_option maxRecDepth 20000 in
theorem gL_admit_X3_admit : GoodIn wsL_admit (wsV RL 62 RX3 yX3_admit wsX3_admit) := goodIn_app (goodIn_of _ (by decide +kernel)) ggL_admit_X3_admit
theorem dL_admit_0 : decode cL_admit 0 = .ok (.aload 4, 2) := by decide +kernel
theorem dL_admit_2 : decode cL_admit 2 = .ok (.iconst 0, 1) := by decide +kernel
theorem dL_admit_3 : decode cL_admit 3 = .ok (.aload_n 0, 1) := by decide +kernel
theorem dL_admit_4 : decode cL_admit 4 = .ok (.iload_n 1, 1) := by decide +kernel
theorem dL_admit_5 : decode cL_admit 5 = .ok (.iload_n 2, 1) := by decide +kernel
theorem dL_admit_6 : decode cL_admit 6 = .ok (.iload_n 3, 1) := by decide +kernel
theorem dL_admit_7 : decode cL_admit 7 = .ok (.invokevirtual 62, 3) := by decide +kernel
theorem dL_admit_10 : decode cL_admit 10 = .ok (.i2l, 1) := by decide +kernel
theorem dL_admit_11 : decode cL_admit 11 = .ok (.lastore, 1) := by decide +kernel
theorem dL_admit_12 : decode cL_admit 12 = .ok (.goto 7, 3) := by decide +kernel
theorem dL_admit_15 : decode cL_admit 15 = .ok (.astore 5, 2) := by decide +kernel
theorem dL_admit_17 : decode cL_admit 17 = .ok (.iconst 1, 1) := by decide +kernel
theorem dL_admit_18 : decode cL_admit 18 = .ok (.ireturn, 1) := by decide +kernel
theorem dL_admit_19 : decode cL_admit 19 = .ok (.iconst 0, 1) := by decide +kernel
theorem dL_admit_20 : decode cL_admit 20 = .ok (.ireturn, 1) := by decide +kernel
set_option maxRecDepth 20000 in
theorem ggL_difference_X3_difference : GoodIn wsL_difference wsX3_difference := goodIn_ca (goodIn_r _ [6, 7, 8, 9, 5, 10, 11, 12, 13, 14, 15, 16, 17, 18, 19, 20, 21, 22, 23, 24, 25, 26, 27, 28, 29, 30, 31, 32, 33, 34] (by decide +kernel) (by decide +kernel)) (goodIn_sub (fun _ h => List.mem_cons_of_mem _ (List.mem_append_right _ h)) (by decide +kernel))
set_option maxRecDepth 20000 in
theorem gL_difference_X3_difference : GoodIn wsL_difference (wsV RL 65 RX3 yX3_difference wsX3_difference) := goodIn_app (goodIn_of _ (by decide +kernel)) ggL_difference_X3_difference
theorem dL_difference_0 : decode cL_difference 0 = .ok (.aload_n 3, 1) := by decide +kernel
theorem dL_difference_1 : decode cL_difference 1 = .ok (.iconst 0, 1) := by decide +kernel
theorem dL_difference_2 : decode cL_difference 2 = .ok (.aload_n 0, 1) := by decide +kernel
theorem dL_difference_3 : decode cL_difference 3 = .ok (.iload_n 1, 1) := by decide +kernel
theorem dL_difference_4 : decode cL_difference 4 = .ok (.iload_n 2, 1) := by decide +kernel
theorem dL_difference_5 : decode cL_difference 5 = .ok (.invokevirtual 65, 3) := by decide +kernel
theorem dL_difference_8 : decode cL_difference 8 = .ok (.i2l, 1) := by decide +kernel
theorem dL_difference_9 : decode cL_difference 9 = .ok (.lastore, 1) := by decide +kernel
theorem dL_difference_10 : decode cL_difference 10 = .ok (.goto 7, 3) := by decide +kernel
theorem dL_difference_13 : decode cL_difference 13 = .ok (.astore 4, 2) := by decide +kernel
theorem dL_difference_15 : decode cL_difference 15 = .ok (.iconst 1, 1) := by decide +kernel
theorem dL_difference_16 : decode cL_difference 16 = .ok (.ireturn, 1) := by decide +kernel
theorem dL_difference_17 : decode cL_difference 17 = .ok (.iconst 0, 1) := by decide +kernel
theorem dL_difference_18 : decode cL_difference 18 = .ok (.ireturn, 1) := by decide +kernel
set_option maxRecDepth 20000 in
theorem ggL_minority_X3_minority : GoodIn wsL_minority wsX3_minority := goodIn_ca (goodIn_r _ [6, 7, 8, 9, 5, 10, 11, 12, 13, 14, 15, 16, 17, 18, 19, 20, 21, 22, 23, 24, 25, 26, 27, 28, 29, 30, 31, 32, 33, 34, 35, 36, 37, 38, 39, 40, 41, 42, 43, 44, 45, 46, 47, 48, 49, 50, 51, 52, 53, 54, 55, 56, 57, 58, 59, 60, 61, 62, 63, 64, 65, 66, 67, 68, 69, 70, 71, 72, 73, 74, 75, 76, 77, 78, 79, 80, 81, 82, 83, 84, 85, 86, 87, 88, 89, 90] (by decide +kernel) (by decide +kernel)) (goodIn_sub (fun _ h => List.mem_cons_of_mem _ (List.mem_append_right _ h)) (by decide +kernel))
set_option maxRecDepth 20000 in
theorem gL_minority_X3_minority : GoodIn wsL_minority (wsV RL 68 RX3 yX3_minority wsX3_minority) := goodIn_app (goodIn_of _ (by decide +kernel)) ggL_minority_X3_minority
theorem dL_minority_0 : decode cL_minority 0 = .ok (.aload_n 2, 1) := by decide +kernel
theorem dL_minority_1 : decode cL_minority 1 = .ok (.iconst 0, 1) := by decide +kernel
theorem dL_minority_2 : decode cL_minority 2 = .ok (.aload_n 0, 1) := by decide +kernel
theorem dL_minority_3 : decode cL_minority 3 = .ok (.iload_n 1, 1) := by decide +kernel
theorem dL_minority_4 : decode cL_minority 4 = .ok (.invokevirtual 68, 3) := by decide +kernel
theorem dL_minority_7 : decode cL_minority 7 = .ok (.i2l, 1) := by decide +kernel
theorem dL_minority_8 : decode cL_minority 8 = .ok (.lastore, 1) := by decide +kernel
theorem dL_minority_9 : decode cL_minority 9 = .ok (.goto 6, 3) := by decide +kernel
theorem dL_minority_12 : decode cL_minority 12 = .ok (.astore_n 3, 1) := by decide +kernel
theorem dL_minority_13 : decode cL_minority 13 = .ok (.iconst 1, 1) := by decide +kernel
theorem dL_minority_14 : decode cL_minority 14 = .ok (.ireturn, 1) := by decide +kernel
theorem dL_minority_15 : decode cL_minority 15 = .ok (.iconst 0, 1) := by decide +kernel
theorem dL_minority_16 : decode cL_minority 16 = .ok (.ireturn, 1) := by decide +kernel
set_option maxRecDepth 20000 in
theorem ggL_close_X3_close : GoodIn wsL_close wsX3_close := goodIn_ca (goodIn_r _ [6, 7, 8, 9, 10, 11, 12, 13, 14, 5, 15, 16, 17, 18, 19, 20, 21, 22, 23, 24, 25, 26, 27, 28, 29, 30, 31, 32, 33, 34, 35, 36, 37, 38, 39, 40, 41, 42, 43, 44, 45, 46, 47, 48, 49, 50, 51, 52, 53, 54, 55, 56, 57, 58, 59, 60, 61, 62, 63, 64, 65, 66, 67, 68, 69, 70, 71, 72, 73, 74, 75, 76, 77, 78, 79, 80, 81] (by decide +kernel) (by decide +kernel)) (goodIn_sub (fun _ h => List.mem_cons_of_mem _ (List.mem_append_right _ h)) (by decide +kernel))
set_option maxRecDepth 20000 in
theorem gL_close_X3_close : GoodIn wsL_close (wsV RL 71 RX3 yX3_close wsX3_close) := goodIn_app (goodIn_of _ (by decide +kernel)) ggL_close_X3_close
theorem dL_close_0 : decode cL_close 0 = .ok (.aload_n 1, 1) := by decide +kernel
theorem dL_close_1 : decode cL_close 1 = .ok (.iconst 0, 1) := by decide +kernel
theorem dL_close_2 : decode cL_close 2 = .ok (.aload_n 0, 1) := by decide +kernel
theorem dL_close_3 : decode cL_close 3 = .ok (.invokevirtual 71, 3) := by decide +kernel
theorem dL_close_6 : decode cL_close 6 = .ok (.i2l, 1) := by decide +kernel
theorem dL_close_7 : decode cL_close 7 = .ok (.lastore, 1) := by decide +kernel
theorem dL_close_8 : decode cL_close 8 = .ok (.goto 6, 3) := by decide +kernel
theorem dL_close_11 : decode cL_close 11 = .ok (.astore_n 2, 1) := by decide +kernel
theorem dL_close_12 : decode cL_close 12 = .ok (.iconst 1, 1) := by decide +kernel
theorem dL_close_13 : decode cL_close 13 = .ok (.ireturn, 1) := by decide +kernel
theorem dL_close_14 : decode cL_close 14 = .ok (.iconst 0, 1) := by decide +kernel
theorem dL_close_15 : decode cL_close 15 = .ok (.ireturn, 1) := by decide +kernel
set_option maxRecDepth 20000 in
theorem ggL_resultOf_X3_resultOf : GoodIn wsL_resultOf wsX3_resultOf := goodIn_ca (goodIn_r _ [6, 7, 8, 9, 10, 11, 12, 5, 13, 14, 15, 16, 17, 18, 19] (by decide +kernel) (by decide +kernel)) (goodIn_sub (fun _ h => List.mem_cons_of_mem _ (List.mem_append_right _ h)) (by decide +kernel))
set_option maxRecDepth 20000 in
theorem gL_resultOf_X3_resultOf : GoodIn wsL_resultOf (wsV RL 75 RX3 yX3_resultOf wsX3_resultOf) := goodIn_app (goodIn_of _ (by decide +kernel)) ggL_resultOf_X3_resultOf
theorem dL_resultOf_0 : decode cL_resultOf 0 = .ok (.aload_n 2, 1) := by decide +kernel
theorem dL_resultOf_1 : decode cL_resultOf 1 = .ok (.iconst 0, 1) := by decide +kernel
theorem dL_resultOf_2 : decode cL_resultOf 2 = .ok (.aload_n 0, 1) := by decide +kernel
theorem dL_resultOf_3 : decode cL_resultOf 3 = .ok (.iload_n 1, 1) := by decide +kernel
theorem dL_resultOf_4 : decode cL_resultOf 4 = .ok (.invokevirtual 75, 3) := by decide +kernel
theorem dL_resultOf_7 : decode cL_resultOf 7 = .ok (.i2l, 1) := by decide +kernel
theorem dL_resultOf_8 : decode cL_resultOf 8 = .ok (.lastore, 1) := by decide +kernel
theorem dL_resultOf_9 : decode cL_resultOf 9 = .ok (.goto 6, 3) := by decide +kernel
theorem dL_resultOf_12 : decode cL_resultOf 12 = .ok (.astore_n 3, 1) := by decide +kernel
theorem dL_resultOf_13 : decode cL_resultOf 13 = .ok (.iconst 1, 1) := by decide +kernel
theorem dL_resultOf_14 : decode cL_resultOf 14 = .ok (.ireturn, 1) := by decide +kernel
theorem dL_resultOf_15 : decode cL_resultOf 15 = .ok (.iconst 0, 1) := by decide +kernel
theorem dL_resultOf_16 : decode cL_resultOf 16 = .ok (.ireturn, 1) := by decide +kernel
