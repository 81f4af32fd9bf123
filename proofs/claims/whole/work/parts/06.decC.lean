theorem dX4_init_0 : decode cX4_init 0 = .ok (.aload_n 0, 1) := by decide +kernel
theorem dX4_init_1 : decode cX4_init 1 = .ok (.invokespecial 1, 3) := by decide +kernel
theorem dX4_init_4 : decode cX4_init 4 = .ok (.aload_n 0, 1) := by decide +kernel
theorem dX4_init_5 : decode cX4_init 5 = .ok (.bipush 36, 2) := by decide +kernel
theorem dX4_init_7 : decode cX4_init 7 = .ok (.newarray .int, 2) := by decide +kernel
theorem dX4_init_9 : decode cX4_init 9 = .ok (.putfield 7, 3) := by decide +kernel
theorem dX4_init_12 : decode cX4_init 12 = .ok (.aload_n 0, 1) := by decide +kernel
theorem dX4_init_13 : decode cX4_init 13 = .ok (.bipush 36, 2) := by decide +kernel
theorem dX4_init_15 : decode cX4_init 15 = .ok (.newarray .int, 2) := by decide +kernel
theorem dX4_init_17 : decode cX4_init 17 = .ok (.putfield 13, 3) := by decide +kernel
theorem dX4_init_20 : decode cX4_init 20 = .ok (.aload_n 0, 1) := by decide +kernel
theorem dX4_init_21 : decode cX4_init 21 = .ok (.bipush 36, 2) := by decide +kernel
theorem dX4_init_23 : decode cX4_init 23 = .ok (.newarray .int, 2) := by decide +kernel
theorem dX4_init_25 : decode cX4_init 25 = .ok (.putfield 16, 3) := by decide +kernel
theorem dX4_init_28 : decode cX4_init 28 = .ok (.aload_n 0, 1) := by decide +kernel
theorem dX4_init_29 : decode cX4_init 29 = .ok (.bipush 6, 2) := by decide +kernel
theorem dX4_init_31 : decode cX4_init 31 = .ok (.newarray .int, 2) := by decide +kernel
theorem dX4_init_33 : decode cX4_init 33 = .ok (.putfield 19, 3) := by decide +kernel
theorem dX4_init_36 : decode cX4_init 36 = .ok (.aload_n 0, 1) := by decide +kernel
theorem dX4_init_37 : decode cX4_init 37 = .ok (.bipush 6, 2) := by decide +kernel
theorem dX4_init_39 : decode cX4_init 39 = .ok (.newarray .int, 2) := by decide +kernel
theorem dX4_init_41 : decode cX4_init 41 = .ok (.putfield 22, 3) := by decide +kernel
theorem dX4_init_44 : decode cX4_init 44 = .ok (.aload_n 0, 1) := by decide +kernel
theorem dX4_init_45 : decode cX4_init 45 = .ok (.bipush 6, 2) := by decide +kernel
theorem dX4_init_47 : decode cX4_init 47 = .ok (.newarray .int, 2) := by decide +kernel
theorem dX4_init_49 : decode cX4_init 49 = .ok (.putfield 25, 3) := by decide +kernel
theorem dX4_init_52 : decode cX4_init 52 = .ok (.aload_n 0, 1) := by decide +kernel
theorem dX4_init_53 : decode cX4_init 53 = .ok (.bipush 6, 2) := by decide +kernel
theorem dX4_init_55 : decode cX4_init 55 = .ok (.newarray .int, 2) := by decide +kernel
theorem dX4_init_57 : decode cX4_init 57 = .ok (.putfield 28, 3) := by decide +kernel
theorem dX4_init_60 : decode cX4_init 60 = .ok (.aload_n 0, 1) := by decide +kernel
theorem dX4_init_61 : decode cX4_init 61 = .ok (.bipush 6, 2) := by decide +kernel
theorem dX4_init_63 : decode cX4_init 63 = .ok (.newarray .int, 2) := by decide +kernel
theorem dX4_init_65 : decode cX4_init 65 = .ok (.putfield 31, 3) := by decide +kernel
theorem dX4_init_68 : decode cX4_init 68 = .ok (.aload_n 0, 1) := by decide +kernel
theorem dX4_init_69 : decode cX4_init 69 = .ok (.bipush 6, 2) := by decide +kernel
theorem dX4_init_71 : decode cX4_init 71 = .ok (.newarray .int, 2) := by decide +kernel
theorem dX4_init_73 : decode cX4_init 73 = .ok (.putfield 34, 3) := by decide +kernel
theorem dX4_init_76 : decode cX4_init 76 = .ok (.aload_n 0, 1) := by decide +kernel
theorem dX4_init_77 : decode cX4_init 77 = .ok (.bipush 6, 2) := by decide +kernel
theorem dX4_init_79 : decode cX4_init 79 = .ok (.newarray .int, 2) := by decide +kernel
theorem dX4_init_81 : decode cX4_init 81 = .ok (.putfield 37, 3) := by decide +kernel
theorem dX4_init_84 : decode cX4_init 84 = .ok (.aload_n 0, 1) := by decide +kernel
theorem dX4_init_85 : decode cX4_init 85 = .ok (.bipush 6, 2) := by decide +kernel
theorem dX4_init_87 : decode cX4_init 87 = .ok (.newarray .int, 2) := by decide +kernel
theorem dX4_init_89 : decode cX4_init 89 = .ok (.putfield 40, 3) := by decide +kernel
theorem dX4_init_92 : decode cX4_init 92 = .ok (.aload_n 0, 1) := by decide +kernel
theorem dX4_init_93 : decode cX4_init 93 = .ok (.bipush 12, 2) := by decide +kernel
theorem dX4_init_95 : decode cX4_init 95 = .ok (.newarray .int, 2) := by decide +kernel
theorem dX4_init_97 : decode cX4_init 97 = .ok (.putfield 43, 3) := by decide +kernel
theorem dX4_init_100 : decode cX4_init 100 = .ok (.aload_n 0, 1) := by decide +kernel
theorem dX4_init_101 : decode cX4_init 101 = .ok (.bipush 25, 2) := by decide +kernel
theorem dX4_init_103 : decode cX4_init 103 = .ok (.newarray .long, 2) := by decide +kernel
theorem dX4_init_105 : decode cX4_init 105 = .ok (.putfield 46, 3) := by decide +kernel
theorem dX4_init_108 : decode cX4_init 108 = .ok (.aload_n 0, 1) := by decide +kernel
theorem dX4_init_109 : decode cX4_init 109 = .ok (.bipush 6, 2) := by decide +kernel
theorem dX4_init_111 : decode cX4_init 111 = .ok (.newarray .long, 2) := by decide +kernel
theorem dX4_init_113 : decode cX4_init 113 = .ok (.putfield 50, 3) := by decide +kernel
theorem dX4_init_116 : decode cX4_init 116 = .ok (.aload_n 0, 1) := by decide +kernel
theorem dX4_init_117 : decode cX4_init 117 = .ok (.bipush 6, 2) := by decide +kernel
theorem dX4_init_119 : decode cX4_init 119 = .ok (.newarray .long, 2) := by decide +kernel
theorem dX4_init_121 : decode cX4_init 121 = .ok (.putfield 53, 3) := by decide +kernel
theorem dX4_init_124 : decode cX4_init 124 = .ok (.aload_n 0, 1) := by decide +kernel
theorem dX4_init_125 : decode cX4_init 125 = .ok (.bipush 6, 2) := by decide +kernel
theorem dX4_init_127 : decode cX4_init 127 = .ok (.newarray .int, 2) := by decide +kernel
theorem dX4_init_129 : decode cX4_init 129 = .ok (.putfield 56, 3) := by decide +kernel
theorem dX4_init_132 : decode cX4_init 132 = .ok (.aload_n 0, 1) := by decide +kernel
theorem dX4_init_133 : decode cX4_init 133 = .ok (.bipush 6, 2) := by decide +kernel
theorem dX4_init_135 : decode cX4_init 135 = .ok (.newarray .int, 2) := by decide +kernel
theorem dX4_init_137 : decode cX4_init 137 = .ok (.putfield 59, 3) := by decide +kernel
theorem dX4_init_140 : decode cX4_init 140 = .ok (.iconst 0, 1) := by decide +kernel
theorem dX4_init_141 : decode cX4_init 141 = .ok (.istore_n 1, 1) := by decide +kernel
theorem dX4_init_142 : decode cX4_init 142 = .ok (.iload_n 1, 1) := by decide +kernel
theorem dX4_init_143 : decode cX4_init 143 = .ok (.bipush 6, 2) := by decide +kernel
theorem dX4_init_145 : decode cX4_init 145 = .ok (.if_icmp .ge 33, 3) := by decide +kernel
theorem dX4_init_148 : decode cX4_init 148 = .ok (.aload_n 0, 1) := by decide +kernel
theorem dX4_init_149 : decode cX4_init 149 = .ok (.getfield 34, 3) := by decide +kernel
theorem dX4_init_152 : decode cX4_init 152 = .ok (.iload_n 1, 1) := by decide +kernel
theorem dX4_init_153 : decode cX4_init 153 = .ok (.bipush 100, 2) := by decide +kernel
theorem dX4_init_155 : decode cX4_init 155 = .ok (.iastore, 1) := by decide +kernel
theorem dX4_init_156 : decode cX4_init 156 = .ok (.aload_n 0, 1) := by decide +kernel
theorem dX4_init_157 : decode cX4_init 157 = .ok (.getfield 37, 3) := by decide +kernel
theorem dX4_init_160 : decode cX4_init 160 = .ok (.iload_n 1, 1) := by decide +kernel
theorem dX4_init_161 : decode cX4_init 161 = .ok (.bipush 100, 2) := by decide +kernel
theorem dX4_init_163 : decode cX4_init 163 = .ok (.iastore, 1) := by decide +kernel
theorem dX4_init_164 : decode cX4_init 164 = .ok (.aload_n 0, 1) := by decide +kernel
theorem dX4_init_165 : decode cX4_init 165 = .ok (.getfield 40, 3) := by decide +kernel
theorem dX4_init_168 : decode cX4_init 168 = .ok (.iload_n 1, 1) := by decide +kernel
theorem dX4_init_169 : decode cX4_init 169 = .ok (.bipush 100, 2) := by decide +kernel
theorem dX4_init_171 : decode cX4_init 171 = .ok (.iastore, 1) := by decide +kernel
theorem dX4_init_172 : decode cX4_init 172 = .ok (.iinc 1 1, 3) := by decide +kernel
theorem dX4_init_175 : decode cX4_init 175 = .ok (.goto (-33), 3) := by decide +kernel
theorem dX4_init_178 : decode cX4_init 178 = .ok (.return_, 1) := by decide +kernel
theorem dX4_thrown_0 : decode cX4_thrown 0 = .ok (.aload_n 0, 1) := by decide +kernel
theorem dX4_thrown_1 : decode cX4_thrown 1 = .ok (.getfield 62, 3) := by decide +kernel
theorem dX4_thrown_4 : decode cX4_thrown 4 = .ok (.ireturn, 1) := by decide +kernel
theorem dX4_fails_0 : decode cX4_fails 0 = .ok (.aload_n 0, 1) := by decide +kernel
theorem dX4_fails_1 : decode cX4_fails 1 = .ok (.iload_n 1, 1) := by decide +kernel
theorem dX4_fails_2 : decode cX4_fails 2 = .ok (.putfield 62, 3) := by decide +kernel
theorem dX4_fails_5 : decode cX4_fails 5 = .ok (.iconst 0, 1) := by decide +kernel
theorem dX4_fails_6 : decode cX4_fails 6 = .ok (.ireturn, 1) := by decide +kernel
theorem dX4_in_0 : decode cX4_in 0 = .ok (.iload_n 0, 1) := by decide +kernel
theorem dX4_in_1 : decode cX4_in 1 = .ok (.iload_n 1, 1) := by decide +kernel
theorem dX4_in_2 : decode cX4_in 2 = .ok (.if_icmp .lt 12, 3) := by decide +kernel
theorem dX4_in_5 : decode cX4_in 5 = .ok (.iload_n 0, 1) := by decide +kernel
theorem dX4_in_6 : decode cX4_in 6 = .ok (.iload_n 2, 1) := by decide +kernel
theorem dX4_in_7 : decode cX4_in 7 = .ok (.if_icmp .gt 7, 3) := by decide +kernel
theorem dX4_in_10 : decode cX4_in 10 = .ok (.iconst 1, 1) := by decide +kernel
theorem dX4_in_11 : decode cX4_in 11 = .ok (.goto 4, 3) := by decide +kernel
theorem dX4_in_14 : decode cX4_in 14 = .ok (.iconst 0, 1) := by decide +kernel
theorem dX4_in_15 : decode cX4_in 15 = .ok (.ireturn, 1) := by decide +kernel
set_option maxRecDepth 20000 in
theorem ggX4_isCompany_X4_in : GoodIn wsX4_isCompany wsX4_in := goodIn_r _ [4] (by decide +kernel) (by decide +kernel)
set_option maxRecDepth 20000 in
theorem gX4_isCompany_X4_in : GoodIn wsX4_isCompany (va_wsS RX4 66 yX4_in wsX4_in) := goodIn_app (goodIn_of _ (by decide +kernel)) ggX4_isCompany_X4_in
theorem dX4_isCompany_0 : decode cX4_isCompany 0 = .ok (.iload_n 0, 1) := by decide +kernel
theorem dX4_isCompany_1 : decode cX4_isCompany 1 = .ok (.iconst 0, 1) := by decide +kernel
theorem dX4_isCompany_2 : decode cX4_isCompany 2 = .ok (.iconst 5, 1) := by decide +kernel
theorem dX4_isCompany_3 : decode cX4_isCompany 3 = .ok (.invokestatic 66, 3) := by decide +kernel
theorem dX4_isCompany_6 : decode cX4_isCompany 6 = .ok (.ireturn, 1) := by decide +kernel
set_option maxRecDepth 20000 in
theorem ggX4_isPair_X4_isCompany : GoodIn wsX4_isPair wsX4_isCompany := goodIn_r _ [4, 5, 6, 3, 7] (by decide +kernel) (by decide +kernel)
set_option maxRecDepth 20000 in
theorem gX4_isPair_X4_isCompany : GoodIn wsX4_isPair (va_wsS RX4 70 yX4_isCompany wsX4_isCompany) := goodIn_app (goodIn_of _ (by decide +kernel)) ggX4_isPair_X4_isCompany
theorem dX4_isPair_0 : decode cX4_isPair 0 = .ok (.iload_n 0, 1) := by decide +kernel
theorem dX4_isPair_1 : decode cX4_isPair 1 = .ok (.invokestatic 70, 3) := by decide +kernel
theorem dX4_isPair_4 : decode cX4_isPair 4 = .ok (.ifCond .eq 19, 3) := by decide +kernel
theorem dX4_isPair_7 : decode cX4_isPair 7 = .ok (.iload_n 1, 1) := by decide +kernel
theorem dX4_isPair_8 : decode cX4_isPair 8 = .ok (.invokestatic 70, 3) := by decide +kernel
theorem dX4_isPair_11 : decode cX4_isPair 11 = .ok (.ifCond .eq 12, 3) := by decide +kernel
theorem dX4_isPair_14 : decode cX4_isPair 14 = .ok (.iload_n 0, 1) := by decide +kernel
theorem dX4_isPair_15 : decode cX4_isPair 15 = .ok (.iload_n 1, 1) := by decide +kernel
theorem dX4_isPair_16 : decode cX4_isPair 16 = .ok (.if_icmp .eq 7, 3) := by decide +kernel
theorem dX4_isPair_19 : decode cX4_isPair 19 = .ok (.iconst 1, 1) := by decide +kernel
theorem dX4_isPair_20 : decode cX4_isPair 20 = .ok (.goto 4, 3) := by decide +kernel
theorem dX4_isPair_23 : decode cX4_isPair 23 = .ok (.iconst 0, 1) := by decide +kernel
theorem dX4_isPair_24 : decode cX4_isPair 24 = .ok (.ireturn, 1) := by decide +kernel
theorem dX4_floor_0 : decode cX4_floor 0 = .ok (.lload_n 0, 1) := by decide +kernel
theorem dX4_floor_1 : decode cX4_floor 1 = .ok (.lload_n 2, 1) := by decide +kernel
theorem dX4_floor_2 : decode cX4_floor 2 = .ok (.ldiv, 1) := by decide +kernel
theorem dX4_floor_3 : decode cX4_floor 3 = .ok (.lstore 4, 2) := by decide +kernel
theorem dX4_floor_5 : decode cX4_floor 5 = .ok (.lload_n 0, 1) := by decide +kernel
theorem dX4_floor_6 : decode cX4_floor 6 = .ok (.lload_n 2, 1) := by decide +kernel
theorem dX4_floor_7 : decode cX4_floor 7 = .ok (.lrem, 1) := by decide +kernel
theorem dX4_floor_8 : decode cX4_floor 8 = .ok (.lconst 0, 1) := by decide +kernel
theorem dX4_floor_9 : decode cX4_floor 9 = .ok (.lcmp, 1) := by decide +kernel
theorem dX4_floor_10 : decode cX4_floor 10 = .ok (.ifCond .ge 10, 3) := by decide +kernel
theorem dX4_floor_13 : decode cX4_floor 13 = .ok (.lload 4, 2) := by decide +kernel
theorem dX4_floor_15 : decode cX4_floor 15 = .ok (.lconst 1, 1) := by decide +kernel
theorem dX4_floor_16 : decode cX4_floor 16 = .ok (.lsub, 1) := by decide +kernel
theorem dX4_floor_17 : decode cX4_floor 17 = .ok (.goto 5, 3) := by decide +kernel
theorem dX4_floor_20 : decode cX4_floor 20 = .ok (.lload 4, 2) := by decide +kernel
theorem dX4_floor_22 : decode cX4_floor 22 = .ok (.lreturn, 1) := by decide +kernel
theorem dX4_laySquare_0 : decode cX4_laySquare 0 = .ok (.iconst 1, 1) := by decide +kernel
theorem dX4_laySquare_1 : decode cX4_laySquare 1 = .ok (.istore_n 2, 1) := by decide +kernel
theorem dX4_laySquare_2 : decode cX4_laySquare 2 = .ok (.iload_n 2, 1) := by decide +kernel
theorem dX4_laySquare_3 : decode cX4_laySquare 3 = .ok (.bipush 6, 2) := by decide +kernel
theorem dX4_laySquare_5 : decode cX4_laySquare 5 = .ok (.if_icmp .ge 78, 3) := by decide +kernel
theorem dX4_laySquare_8 : decode cX4_laySquare 8 = .ok (.iconst 1, 1) := by decide +kernel
theorem dX4_laySquare_9 : decode cX4_laySquare 9 = .ok (.istore_n 3, 1) := by decide +kernel
theorem dX4_laySquare_10 : decode cX4_laySquare 10 = .ok (.iload_n 3, 1) := by decide +kernel
theorem dX4_laySquare_11 : decode cX4_laySquare 11 = .ok (.bipush 6, 2) := by decide +kernel
theorem dX4_laySquare_13 : decode cX4_laySquare 13 = .ok (.if_icmp .ge 64, 3) := by decide +kernel
theorem dX4_laySquare_16 : decode cX4_laySquare 16 = .ok (.iload_n 2, 1) := by decide +kernel
theorem dX4_laySquare_17 : decode cX4_laySquare 17 = .ok (.iload_n 3, 1) := by decide +kernel
theorem dX4_laySquare_18 : decode cX4_laySquare 18 = .ok (.if_icmp .ne 8, 3) := by decide +kernel
theorem dX4_laySquare_21 : decode cX4_laySquare 21 = .ok (.bipush 100, 2) := by decide +kernel
theorem dX4_laySquare_23 : decode cX4_laySquare 23 = .ok (.goto 15, 3) := by decide +kernel
theorem dX4_laySquare_26 : decode cX4_laySquare 26 = .ok (.aload_n 0, 1) := by decide +kernel
theorem dX4_laySquare_27 : decode cX4_laySquare 27 = .ok (.getfield 7, 3) := by decide +kernel
theorem dX4_laySquare_30 : decode cX4_laySquare 30 = .ok (.bipush 6, 2) := by decide +kernel
theorem dX4_laySquare_32 : decode cX4_laySquare 32 = .ok (.iload_n 3, 1) := by decide +kernel
theorem dX4_laySquare_33 : decode cX4_laySquare 33 = .ok (.imul, 1) := by decide +kernel
theorem dX4_laySquare_34 : decode cX4_laySquare 34 = .ok (.iload_n 2, 1) := by decide +kernel
theorem dX4_laySquare_35 : decode cX4_laySquare 35 = .ok (.iadd, 1) := by decide +kernel
theorem dX4_laySquare_36 : decode cX4_laySquare 36 = .ok (.iaload, 1) := by decide +kernel
theorem dX4_laySquare_37 : decode cX4_laySquare 37 = .ok (.ineg, 1) := by decide +kernel
theorem dX4_laySquare_38 : decode cX4_laySquare 38 = .ok (.istore 4, 2) := by decide +kernel
theorem dX4_laySquare_40 : decode cX4_laySquare 40 = .ok (.aload_n 0, 1) := by decide +kernel
theorem dX4_laySquare_41 : decode cX4_laySquare 41 = .ok (.getfield 46, 3) := by decide +kernel
theorem dX4_laySquare_44 : decode cX4_laySquare 44 = .ok (.iconst 5, 1) := by decide +kernel
theorem dX4_laySquare_45 : decode cX4_laySquare 45 = .ok (.iload_n 2, 1) := by decide +kernel
theorem dX4_laySquare_46 : decode cX4_laySquare 46 = .ok (.imul, 1) := by decide +kernel
theorem dX4_laySquare_47 : decode cX4_laySquare 47 = .ok (.iload_n 3, 1) := by decide +kernel
theorem dX4_laySquare_48 : decode cX4_laySquare 48 = .ok (.iadd, 1) := by decide +kernel
theorem dX4_laySquare_49 : decode cX4_laySquare 49 = .ok (.bipush 6, 2) := by decide +kernel
theorem dX4_laySquare_51 : decode cX4_laySquare 51 = .ok (.isub, 1) := by decide +kernel
theorem dX4_laySquare_52 : decode cX4_laySquare 52 = .ok (.iload_n 3, 1) := by decide +kernel
theorem dX4_laySquare_53 : decode cX4_laySquare 53 = .ok (.iload_n 1, 1) := by decide +kernel
theorem dX4_laySquare_54 : decode cX4_laySquare 54 = .ok (.if_icmp .ne 13, 3) := by decide +kernel
theorem dX4_laySquare_57 : decode cX4_laySquare 57 = .ok (.aload_n 0, 1) := by decide +kernel
theorem dX4_laySquare_58 : decode cX4_laySquare 58 = .ok (.getfield 7, 3) := by decide +kernel
theorem dX4_laySquare_61 : decode cX4_laySquare 61 = .ok (.iload_n 2, 1) := by decide +kernel
theorem dX4_laySquare_62 : decode cX4_laySquare 62 = .ok (.iaload, 1) := by decide +kernel
theorem dX4_laySquare_63 : decode cX4_laySquare 63 = .ok (.i2l, 1) := by decide +kernel
theorem dX4_laySquare_64 : decode cX4_laySquare 64 = .ok (.goto 6, 3) := by decide +kernel
theorem dX4_laySquare_67 : decode cX4_laySquare 67 = .ok (.iload 4, 2) := by decide +kernel
theorem dX4_laySquare_69 : decode cX4_laySquare 69 = .ok (.i2l, 1) := by decide +kernel
theorem dX4_laySquare_70 : decode cX4_laySquare 70 = .ok (.lastore, 1) := by decide +kernel
theorem dX4_laySquare_71 : decode cX4_laySquare 71 = .ok (.iinc 3 1, 3) := by decide +kernel
theorem dX4_laySquare_74 : decode cX4_laySquare 74 = .ok (.goto (-64), 3) := by decide +kernel
theorem dX4_laySquare_77 : decode cX4_laySquare 77 = .ok (.iinc 2 1, 3) := by decide +kernel
theorem dX4_laySquare_80 : decode cX4_laySquare 80 = .ok (.goto (-78), 3) := by decide +kernel
theorem dX4_laySquare_83 : decode cX4_laySquare 83 = .ok (.return_, 1) := by decide +kernel
theorem dX4_exchange_0 : decode cX4_exchange 0 = .ok (.iconst 0, 1) := by decide +kernel
theorem dX4_exchange_1 : decode cX4_exchange 1 = .ok (.istore_n 3, 1) := by decide +kernel
theorem dX4_exchange_2 : decode cX4_exchange 2 = .ok (.iload_n 3, 1) := by decide +kernel
theorem dX4_exchange_3 : decode cX4_exchange 3 = .ok (.iconst 5, 1) := by decide +kernel
theorem dX4_exchange_4 : decode cX4_exchange 4 = .ok (.if_icmp .ge 53, 3) := by decide +kernel
theorem dX4_exchange_7 : decode cX4_exchange 7 = .ok (.aload_n 0, 1) := by decide +kernel
theorem dX4_exchange_8 : decode cX4_exchange 8 = .ok (.getfield 46, 3) := by decide +kernel
theorem dX4_exchange_11 : decode cX4_exchange 11 = .ok (.iconst 5, 1) := by decide +kernel
theorem dX4_exchange_12 : decode cX4_exchange 12 = .ok (.iload_n 1, 1) := by decide +kernel
theorem dX4_exchange_13 : decode cX4_exchange 13 = .ok (.imul, 1) := by decide +kernel
theorem dX4_exchange_14 : decode cX4_exchange 14 = .ok (.iload_n 3, 1) := by decide +kernel
theorem dX4_exchange_15 : decode cX4_exchange 15 = .ok (.iadd, 1) := by decide +kernel
theorem dX4_exchange_16 : decode cX4_exchange 16 = .ok (.laload, 1) := by decide +kernel
theorem dX4_exchange_17 : decode cX4_exchange 17 = .ok (.lstore 4, 2) := by decide +kernel
theorem dX4_exchange_19 : decode cX4_exchange 19 = .ok (.aload_n 0, 1) := by decide +kernel
theorem dX4_exchange_20 : decode cX4_exchange 20 = .ok (.getfield 46, 3) := by decide +kernel
theorem dX4_exchange_23 : decode cX4_exchange 23 = .ok (.iconst 5, 1) := by decide +kernel
theorem dX4_exchange_24 : decode cX4_exchange 24 = .ok (.iload_n 1, 1) := by decide +kernel
theorem dX4_exchange_25 : decode cX4_exchange 25 = .ok (.imul, 1) := by decide +kernel
theorem dX4_exchange_26 : decode cX4_exchange 26 = .ok (.iload_n 3, 1) := by decide +kernel
theorem dX4_exchange_27 : decode cX4_exchange 27 = .ok (.iadd, 1) := by decide +kernel
theorem dX4_exchange_28 : decode cX4_exchange 28 = .ok (.aload_n 0, 1) := by decide +kernel
theorem dX4_exchange_29 : decode cX4_exchange 29 = .ok (.getfield 46, 3) := by decide +kernel
theorem dX4_exchange_32 : decode cX4_exchange 32 = .ok (.iconst 5, 1) := by decide +kernel
theorem dX4_exchange_33 : decode cX4_exchange 33 = .ok (.iload_n 2, 1) := by decide +kernel
theorem dX4_exchange_34 : decode cX4_exchange 34 = .ok (.imul, 1) := by decide +kernel
theorem dX4_exchange_35 : decode cX4_exchange 35 = .ok (.iload_n 3, 1) := by decide +kernel
theorem dX4_exchange_36 : decode cX4_exchange 36 = .ok (.iadd, 1) := by decide +kernel
theorem dX4_exchange_37 : decode cX4_exchange 37 = .ok (.laload, 1) := by decide +kernel
theorem dX4_exchange_38 : decode cX4_exchange 38 = .ok (.lastore, 1) := by decide +kernel
theorem dX4_exchange_39 : decode cX4_exchange 39 = .ok (.aload_n 0, 1) := by decide +kernel
theorem dX4_exchange_40 : decode cX4_exchange 40 = .ok (.getfield 46, 3) := by decide +kernel
theorem dX4_exchange_43 : decode cX4_exchange 43 = .ok (.iconst 5, 1) := by decide +kernel
theorem dX4_exchange_44 : decode cX4_exchange 44 = .ok (.iload_n 2, 1) := by decide +kernel
theorem dX4_exchange_45 : decode cX4_exchange 45 = .ok (.imul, 1) := by decide +kernel
theorem dX4_exchange_46 : decode cX4_exchange 46 = .ok (.iload_n 3, 1) := by decide +kernel
theorem dX4_exchange_47 : decode cX4_exchange 47 = .ok (.iadd, 1) := by decide +kernel
theorem dX4_exchange_48 : decode cX4_exchange 48 = .ok (.lload 4, 2) := by decide +kernel
theorem dX4_exchange_50 : decode cX4_exchange 50 = .ok (.lastore, 1) := by decide +kernel
theorem dX4_exchange_51 : decode cX4_exchange 51 = .ok (.iinc 3 1, 3) := by decide +kernel
theorem dX4_exchange_54 : decode cX4_exchange 54 = .ok (.goto (-52), 3) := by decide +kernel
theorem dX4_exchange_57 : decode cX4_exchange 57 = .ok (.return_, 1) := by decide +kernel
set_option maxRecDepth 20000 in
theorem ggX4_determinant_X4_exchange : GoodIn wsX4_determinant wsX4_exchange := goodIn_r _ [6, 1, 7, 8, 9, 10, 11, 12, 13, 14, 15, 16, 17, 18, 19, 20, 21, 22, 23, 24, 25] (by decide +kernel) (by decide +kernel)
set_option maxRecDepth 20000 in
theorem gX4_determinant_X4_exchange : GoodIn wsX4_determinant (wsV RX4 74 RX4 yX4_exchange wsX4_exchange) := goodIn_app (goodIn_of _ (by decide +kernel)) ggX4_determinant_X4_exchange
theorem dX4_determinant_0 : decode cX4_determinant 0 = .ok (.lconst 1, 1) := by decide +kernel
theorem dX4_determinant_1 : decode cX4_determinant 1 = .ok (.lstore_n 1, 1) := by decide +kernel
theorem dX4_determinant_2 : decode cX4_determinant 2 = .ok (.lconst 1, 1) := by decide +kernel
theorem dX4_determinant_3 : decode cX4_determinant 3 = .ok (.lstore_n 3, 1) := by decide +kernel
theorem dX4_determinant_4 : decode cX4_determinant 4 = .ok (.iconst 0, 1) := by decide +kernel
theorem dX4_determinant_5 : decode cX4_determinant 5 = .ok (.istore 5, 2) := by decide +kernel
theorem dX4_determinant_7 : decode cX4_determinant 7 = .ok (.iload 5, 2) := by decide +kernel
theorem dX4_determinant_9 : decode cX4_determinant 9 = .ok (.iconst 4, 1) := by decide +kernel
theorem dX4_determinant_10 : decode cX4_determinant 10 = .ok (.if_icmp .ge 178, 3) := by decide +kernel
theorem dX4_determinant_13 : decode cX4_determinant 13 = .ok (.iload 5, 2) := by decide +kernel
theorem dX4_determinant_15 : decode cX4_determinant 15 = .ok (.istore 6, 2) := by decide +kernel
theorem dX4_determinant_17 : decode cX4_determinant 17 = .ok (.iload 6, 2) := by decide +kernel
theorem dX4_determinant_19 : decode cX4_determinant 19 = .ok (.iconst 5, 1) := by decide +kernel
theorem dX4_determinant_20 : decode cX4_determinant 20 = .ok (.if_icmp .ge 26, 3) := by decide +kernel
theorem dX4_determinant_23 : decode cX4_determinant 23 = .ok (.aload_n 0, 1) := by decide +kernel
theorem dX4_determinant_24 : decode cX4_determinant 24 = .ok (.getfield 46, 3) := by decide +kernel
theorem dX4_determinant_27 : decode cX4_determinant 27 = .ok (.iconst 5, 1) := by decide +kernel
theorem dX4_determinant_28 : decode cX4_determinant 28 = .ok (.iload 6, 2) := by decide +kernel
theorem dX4_determinant_30 : decode cX4_determinant 30 = .ok (.imul, 1) := by decide +kernel
theorem dX4_determinant_31 : decode cX4_determinant 31 = .ok (.iload 5, 2) := by decide +kernel
theorem dX4_determinant_33 : decode cX4_determinant 33 = .ok (.iadd, 1) := by decide +kernel
theorem dX4_determinant_34 : decode cX4_determinant 34 = .ok (.laload, 1) := by decide +kernel
theorem dX4_determinant_35 : decode cX4_determinant 35 = .ok (.lconst 0, 1) := by decide +kernel
theorem dX4_determinant_36 : decode cX4_determinant 36 = .ok (.lcmp, 1) := by decide +kernel
theorem dX4_determinant_37 : decode cX4_determinant 37 = .ok (.ifCond .ne 9, 3) := by decide +kernel
theorem dX4_determinant_40 : decode cX4_determinant 40 = .ok (.iinc 6 1, 3) := by decide +kernel
theorem dX4_determinant_43 : decode cX4_determinant 43 = .ok (.goto (-26), 3) := by decide +kernel
theorem dX4_determinant_46 : decode cX4_determinant 46 = .ok (.iload 6, 2) := by decide +kernel
theorem dX4_determinant_48 : decode cX4_determinant 48 = .ok (.iconst 5, 1) := by decide +kernel
theorem dX4_determinant_49 : decode cX4_determinant 49 = .ok (.if_icmp .ne 5, 3) := by decide +kernel
theorem dX4_determinant_52 : decode cX4_determinant 52 = .ok (.lconst 0, 1) := by decide +kernel
theorem dX4_determinant_53 : decode cX4_determinant 53 = .ok (.lreturn, 1) := by decide +kernel
theorem dX4_determinant_54 : decode cX4_determinant 54 = .ok (.iload 6, 2) := by decide +kernel
theorem dX4_determinant_56 : decode cX4_determinant 56 = .ok (.iload 5, 2) := by decide +kernel
theorem dX4_determinant_58 : decode cX4_determinant 58 = .ok (.if_icmp .eq 14, 3) := by decide +kernel
theorem dX4_determinant_61 : decode cX4_determinant 61 = .ok (.aload_n 0, 1) := by decide +kernel
theorem dX4_determinant_62 : decode cX4_determinant 62 = .ok (.iload 6, 2) := by decide +kernel
theorem dX4_determinant_64 : decode cX4_determinant 64 = .ok (.iload 5, 2) := by decide +kernel
theorem dX4_determinant_66 : decode cX4_determinant 66 = .ok (.invokevirtual 74, 3) := by decide +kernel
theorem dX4_determinant_69 : decode cX4_determinant 69 = .ok (.lload_n 1, 1) := by decide +kernel
theorem dX4_determinant_70 : decode cX4_determinant 70 = .ok (.lneg, 1) := by decide +kernel
theorem dX4_determinant_71 : decode cX4_determinant 71 = .ok (.lstore_n 1, 1) := by decide +kernel
theorem dX4_determinant_72 : decode cX4_determinant 72 = .ok (.iload 5, 2) := by decide +kernel
theorem dX4_determinant_74 : decode cX4_determinant 74 = .ok (.iconst 1, 1) := by decide +kernel
theorem dX4_determinant_75 : decode cX4_determinant 75 = .ok (.iadd, 1) := by decide +kernel
theorem dX4_determinant_76 : decode cX4_determinant 76 = .ok (.istore 7, 2) := by decide +kernel
theorem dX4_determinant_78 : decode cX4_determinant 78 = .ok (.iload 7, 2) := by decide +kernel
theorem dX4_determinant_80 : decode cX4_determinant 80 = .ok (.iconst 5, 1) := by decide +kernel
theorem dX4_determinant_81 : decode cX4_determinant 81 = .ok (.if_icmp .ge 90, 3) := by decide +kernel
theorem dX4_determinant_84 : decode cX4_determinant 84 = .ok (.iload 5, 2) := by decide +kernel
theorem dX4_determinant_86 : decode cX4_determinant 86 = .ok (.iconst 1, 1) := by decide +kernel
theorem dX4_determinant_87 : decode cX4_determinant 87 = .ok (.iadd, 1) := by decide +kernel
theorem dX4_determinant_88 : decode cX4_determinant 88 = .ok (.istore 8, 2) := by decide +kernel
theorem dX4_determinant_90 : decode cX4_determinant 90 = .ok (.iload 8, 2) := by decide +kernel
theorem dX4_determinant_92 : decode cX4_determinant 92 = .ok (.iconst 5, 1) := by decide +kernel
theorem dX4_determinant_93 : decode cX4_determinant 93 = .ok (.if_icmp .ge 72, 3) := by decide +kernel
theorem dX4_determinant_96 : decode cX4_determinant 96 = .ok (.aload_n 0, 1) := by decide +kernel
theorem dX4_determinant_97 : decode cX4_determinant 97 = .ok (.getfield 46, 3) := by decide +kernel
theorem dX4_determinant_100 : decode cX4_determinant 100 = .ok (.iconst 5, 1) := by decide +kernel
theorem dX4_determinant_101 : decode cX4_determinant 101 = .ok (.iload 7, 2) := by decide +kernel
theorem dX4_determinant_103 : decode cX4_determinant 103 = .ok (.imul, 1) := by decide +kernel
theorem dX4_determinant_104 : decode cX4_determinant 104 = .ok (.iload 8, 2) := by decide +kernel
theorem dX4_determinant_106 : decode cX4_determinant 106 = .ok (.iadd, 1) := by decide +kernel
theorem dX4_determinant_107 : decode cX4_determinant 107 = .ok (.aload_n 0, 1) := by decide +kernel
theorem dX4_determinant_108 : decode cX4_determinant 108 = .ok (.getfield 46, 3) := by decide +kernel
theorem dX4_determinant_111 : decode cX4_determinant 111 = .ok (.iconst 5, 1) := by decide +kernel
theorem dX4_determinant_112 : decode cX4_determinant 112 = .ok (.iload 7, 2) := by decide +kernel
theorem dX4_determinant_114 : decode cX4_determinant 114 = .ok (.imul, 1) := by decide +kernel
theorem dX4_determinant_115 : decode cX4_determinant 115 = .ok (.iload 8, 2) := by decide +kernel
theorem dX4_determinant_117 : decode cX4_determinant 117 = .ok (.iadd, 1) := by decide +kernel
theorem dX4_determinant_118 : decode cX4_determinant 118 = .ok (.laload, 1) := by decide +kernel
theorem dX4_determinant_119 : decode cX4_determinant 119 = .ok (.aload_n 0, 1) := by decide +kernel
theorem dX4_determinant_120 : decode cX4_determinant 120 = .ok (.getfield 46, 3) := by decide +kernel
theorem dX4_determinant_123 : decode cX4_determinant 123 = .ok (.bipush 6, 2) := by decide +kernel
theorem dX4_determinant_125 : decode cX4_determinant 125 = .ok (.iload 5, 2) := by decide +kernel
theorem dX4_determinant_127 : decode cX4_determinant 127 = .ok (.imul, 1) := by decide +kernel
theorem dX4_determinant_128 : decode cX4_determinant 128 = .ok (.laload, 1) := by decide +kernel
theorem dX4_determinant_129 : decode cX4_determinant 129 = .ok (.lmul, 1) := by decide +kernel
theorem dX4_determinant_130 : decode cX4_determinant 130 = .ok (.aload_n 0, 1) := by decide +kernel
theorem dX4_determinant_131 : decode cX4_determinant 131 = .ok (.getfield 46, 3) := by decide +kernel
theorem dX4_determinant_134 : decode cX4_determinant 134 = .ok (.iconst 5, 1) := by decide +kernel
theorem dX4_determinant_135 : decode cX4_determinant 135 = .ok (.iload 7, 2) := by decide +kernel
theorem dX4_determinant_137 : decode cX4_determinant 137 = .ok (.imul, 1) := by decide +kernel
theorem dX4_determinant_138 : decode cX4_determinant 138 = .ok (.iload 5, 2) := by decide +kernel
theorem dX4_determinant_140 : decode cX4_determinant 140 = .ok (.iadd, 1) := by decide +kernel
theorem dX4_determinant_141 : decode cX4_determinant 141 = .ok (.laload, 1) := by decide +kernel
theorem dX4_determinant_142 : decode cX4_determinant 142 = .ok (.aload_n 0, 1) := by decide +kernel
theorem dX4_determinant_143 : decode cX4_determinant 143 = .ok (.getfield 46, 3) := by decide +kernel
theorem dX4_determinant_146 : decode cX4_determinant 146 = .ok (.iconst 5, 1) := by decide +kernel
theorem dX4_determinant_147 : decode cX4_determinant 147 = .ok (.iload 5, 2) := by decide +kernel
theorem dX4_determinant_149 : decode cX4_determinant 149 = .ok (.imul, 1) := by decide +kernel
theorem dX4_determinant_150 : decode cX4_determinant 150 = .ok (.iload 8, 2) := by decide +kernel
theorem dX4_determinant_152 : decode cX4_determinant 152 = .ok (.iadd, 1) := by decide +kernel
theorem dX4_determinant_153 : decode cX4_determinant 153 = .ok (.laload, 1) := by decide +kernel
theorem dX4_determinant_154 : decode cX4_determinant 154 = .ok (.lmul, 1) := by decide +kernel
theorem dX4_determinant_155 : decode cX4_determinant 155 = .ok (.lsub, 1) := by decide +kernel
theorem dX4_determinant_156 : decode cX4_determinant 156 = .ok (.lload_n 3, 1) := by decide +kernel
theorem dX4_determinant_157 : decode cX4_determinant 157 = .ok (.ldiv, 1) := by decide +kernel
theorem dX4_determinant_158 : decode cX4_determinant 158 = .ok (.lastore, 1) := by decide +kernel
theorem dX4_determinant_159 : decode cX4_determinant 159 = .ok (.iinc 8 1, 3) := by decide +kernel
theorem dX4_determinant_162 : decode cX4_determinant 162 = .ok (.goto (-72), 3) := by decide +kernel
theorem dX4_determinant_165 : decode cX4_determinant 165 = .ok (.iinc 7 1, 3) := by decide +kernel
theorem dX4_determinant_168 : decode cX4_determinant 168 = .ok (.goto (-90), 3) := by decide +kernel
theorem dX4_determinant_171 : decode cX4_determinant 171 = .ok (.aload_n 0, 1) := by decide +kernel
theorem dX4_determinant_172 : decode cX4_determinant 172 = .ok (.getfield 46, 3) := by decide +kernel
theorem dX4_determinant_175 : decode cX4_determinant 175 = .ok (.bipush 6, 2) := by decide +kernel
theorem dX4_determinant_177 : decode cX4_determinant 177 = .ok (.iload 5, 2) := by decide +kernel
theorem dX4_determinant_179 : decode cX4_determinant 179 = .ok (.imul, 1) := by decide +kernel
theorem dX4_determinant_180 : decode cX4_determinant 180 = .ok (.laload, 1) := by decide +kernel
theorem dX4_determinant_181 : decode cX4_determinant 181 = .ok (.lstore_n 3, 1) := by decide +kernel
theorem dX4_determinant_182 : decode cX4_determinant 182 = .ok (.iinc 5 1, 3) := by decide +kernel
theorem dX4_determinant_185 : decode cX4_determinant 185 = .ok (.goto (-178), 3) := by decide +kernel
theorem dX4_determinant_188 : decode cX4_determinant 188 = .ok (.lload_n 1, 1) := by decide +kernel
theorem dX4_determinant_189 : decode cX4_determinant 189 = .ok (.aload_n 0, 1) := by decide +kernel
theorem dX4_determinant_190 : decode cX4_determinant 190 = .ok (.getfield 46, 3) := by decide +kernel
theorem dX4_determinant_193 : decode cX4_determinant 193 = .ok (.bipush 24, 2) := by decide +kernel
theorem dX4_determinant_195 : decode cX4_determinant 195 = .ok (.laload, 1) := by decide +kernel
theorem dX4_determinant_196 : decode cX4_determinant 196 = .ok (.lmul, 1) := by decide +kernel
theorem dX4_determinant_197 : decode cX4_determinant 197 = .ok (.lreturn, 1) := by decide +kernel
theorem dX4_common_0 : decode cX4_common 0 = .ok (.lload_n 0, 1) := by decide +kernel
theorem dX4_common_1 : decode cX4_common 1 = .ok (.lstore 4, 2) := by decide +kernel
theorem dX4_common_3 : decode cX4_common 3 = .ok (.lload_n 2, 1) := by decide +kernel
theorem dX4_common_4 : decode cX4_common 4 = .ok (.lstore 6, 2) := by decide +kernel
theorem dX4_common_6 : decode cX4_common 6 = .ok (.lload 6, 2) := by decide +kernel
theorem dX4_common_8 : decode cX4_common 8 = .ok (.lconst 0, 1) := by decide +kernel
theorem dX4_common_9 : decode cX4_common 9 = .ok (.lcmp, 1) := by decide +kernel
theorem dX4_common_10 : decode cX4_common 10 = .ok (.ifCond .eq 21, 3) := by decide +kernel
theorem dX4_common_13 : decode cX4_common 13 = .ok (.lload 4, 2) := by decide +kernel
theorem dX4_common_15 : decode cX4_common 15 = .ok (.lload 6, 2) := by decide +kernel
theorem dX4_common_17 : decode cX4_common 17 = .ok (.lrem, 1) := by decide +kernel
theorem dX4_common_18 : decode cX4_common 18 = .ok (.lstore 8, 2) := by decide +kernel
theorem dX4_common_20 : decode cX4_common 20 = .ok (.lload 6, 2) := by decide +kernel
theorem dX4_common_22 : decode cX4_common 22 = .ok (.lstore 4, 2) := by decide +kernel
theorem dX4_common_24 : decode cX4_common 24 = .ok (.lload 8, 2) := by decide +kernel
theorem dX4_common_26 : decode cX4_common 26 = .ok (.lstore 6, 2) := by decide +kernel
theorem dX4_common_28 : decode cX4_common 28 = .ok (.goto (-22), 3) := by decide +kernel
theorem dX4_common_31 : decode cX4_common 31 = .ok (.lload 4, 2) := by decide +kernel
theorem dX4_common_33 : decode cX4_common 33 = .ok (.lreturn, 1) := by decide +kernel
set_option maxRecDepth 20000 in
theorem ggX4_layShares_X4_laySquare : GoodIn wsX4_layShares wsX4_laySquare := goodIn_r _ [7, 8, 9, 21, 22, 23, 24, 25, 26, 27, 28, 29, 30, 31, 32, 33, 34, 35, 36, 37, 38, 39] (by decide +kernel) (by decide +kernel)
set_option maxRecDepth 20000 in
theorem gX4_layShares_X4_laySquare : GoodIn wsX4_layShares (wsV RX4 78 RX4 yX4_laySquare wsX4_laySquare) := goodIn_app (goodIn_of _ (by decide +kernel)) ggX4_layShares_X4_laySquare
set_option maxRecDepth 20000 in
theorem ggX4_layShares_X4_determinant : GoodIn wsX4_layShares wsX4_determinant := goodIn_r _ [13, 9, 14, 15, 16, 6, 17, 21, 22, 23, 24, 25, 26, 27, 28, 29, 30, 31, 32, 33, 34, 35, 36, 37, 38, 39] (by decide +kernel) (by decide +kernel)
set_option maxRecDepth 20000 in
theorem gX4_layShares_X4_determinant : GoodIn wsX4_layShares (wsV RX4 82 RX4 yX4_determinant wsX4_determinant) := goodIn_app (goodIn_of _ (by decide +kernel)) ggX4_layShares_X4_determinant
set_option maxRecDepth 20000 in
theorem ggX4_layShares_X4_common : GoodIn wsX4_layShares wsX4_common := goodIn_r _ [20] (by decide +kernel) (by decide +kernel)
set_option maxRecDepth 20000 in
theorem gX4_layShares_X4_common : GoodIn wsX4_layShares (va_wsS RX4 86 yX4_common wsX4_common) := goodIn_app (goodIn_of _ (by decide +kernel)) ggX4_layShares_X4_common
theorem dX4_layShares_0 : decode cX4_layShares 0 = .ok (.aload_n 0, 1) := by decide +kernel
theorem dX4_layShares_1 : decode cX4_layShares 1 = .ok (.iconst 0, 1) := by decide +kernel
theorem dX4_layShares_2 : decode cX4_layShares 2 = .ok (.invokevirtual 78, 3) := by decide +kernel
theorem dX4_layShares_5 : decode cX4_layShares 5 = .ok (.aload_n 0, 1) := by decide +kernel
theorem dX4_layShares_6 : decode cX4_layShares 6 = .ok (.invokevirtual 82, 3) := by decide +kernel
theorem dX4_layShares_9 : decode cX4_layShares 9 = .ok (.lstore_n 1, 1) := by decide +kernel
theorem dX4_layShares_10 : decode cX4_layShares 10 = .ok (.aload_n 0, 1) := by decide +kernel
theorem dX4_layShares_11 : decode cX4_layShares 11 = .ok (.getfield 50, 3) := by decide +kernel
theorem dX4_layShares_14 : decode cX4_layShares 14 = .ok (.iconst 0, 1) := by decide +kernel
theorem dX4_layShares_15 : decode cX4_layShares 15 = .ok (.lconst 1, 1) := by decide +kernel
theorem dX4_layShares_16 : decode cX4_layShares 16 = .ok (.lastore, 1) := by decide +kernel
theorem dX4_layShares_17 : decode cX4_layShares 17 = .ok (.aload_n 0, 1) := by decide +kernel
theorem dX4_layShares_18 : decode cX4_layShares 18 = .ok (.getfield 53, 3) := by decide +kernel
theorem dX4_layShares_21 : decode cX4_layShares 21 = .ok (.iconst 0, 1) := by decide +kernel
theorem dX4_layShares_22 : decode cX4_layShares 22 = .ok (.lconst 1, 1) := by decide +kernel
theorem dX4_layShares_23 : decode cX4_layShares 23 = .ok (.lastore, 1) := by decide +kernel
theorem dX4_layShares_24 : decode cX4_layShares 24 = .ok (.iconst 1, 1) := by decide +kernel
theorem dX4_layShares_25 : decode cX4_layShares 25 = .ok (.istore_n 3, 1) := by decide +kernel
theorem dX4_layShares_26 : decode cX4_layShares 26 = .ok (.iload_n 3, 1) := by decide +kernel
theorem dX4_layShares_27 : decode cX4_layShares 27 = .ok (.bipush 6, 2) := by decide +kernel
theorem dX4_layShares_29 : decode cX4_layShares 29 = .ok (.if_icmp .ge 95, 3) := by decide +kernel
theorem dX4_layShares_32 : decode cX4_layShares 32 = .ok (.lload_n 1, 1) := by decide +kernel
theorem dX4_layShares_33 : decode cX4_layShares 33 = .ok (.lconst 0, 1) := by decide +kernel
theorem dX4_layShares_34 : decode cX4_layShares 34 = .ok (.lcmp, 1) := by decide +kernel
theorem dX4_layShares_35 : decode cX4_layShares 35 = .ok (.ifCond .eq 89, 3) := by decide +kernel
theorem dX4_layShares_38 : decode cX4_layShares 38 = .ok (.aload_n 0, 1) := by decide +kernel
theorem dX4_layShares_39 : decode cX4_layShares 39 = .ok (.iload_n 3, 1) := by decide +kernel
theorem dX4_layShares_40 : decode cX4_layShares 40 = .ok (.invokevirtual 78, 3) := by decide +kernel
theorem dX4_layShares_43 : decode cX4_layShares 43 = .ok (.aload_n 0, 1) := by decide +kernel
theorem dX4_layShares_44 : decode cX4_layShares 44 = .ok (.invokevirtual 82, 3) := by decide +kernel
theorem dX4_layShares_47 : decode cX4_layShares 47 = .ok (.lstore 4, 2) := by decide +kernel
theorem dX4_layShares_49 : decode cX4_layShares 49 = .ok (.lload 4, 2) := by decide +kernel
theorem dX4_layShares_51 : decode cX4_layShares 51 = .ok (.lconst 0, 1) := by decide +kernel
theorem dX4_layShares_52 : decode cX4_layShares 52 = .ok (.lcmp, 1) := by decide +kernel
theorem dX4_layShares_53 : decode cX4_layShares 53 = .ok (.ifCond .ge 9, 3) := by decide +kernel
theorem dX4_layShares_56 : decode cX4_layShares 56 = .ok (.lload 4, 2) := by decide +kernel
theorem dX4_layShares_58 : decode cX4_layShares 58 = .ok (.lneg, 1) := by decide +kernel
theorem dX4_layShares_59 : decode cX4_layShares 59 = .ok (.goto 5, 3) := by decide +kernel
theorem dX4_layShares_62 : decode cX4_layShares 62 = .ok (.lload 4, 2) := by decide +kernel
theorem dX4_layShares_64 : decode cX4_layShares 64 = .ok (.lload_n 1, 1) := by decide +kernel
theorem dX4_layShares_65 : decode cX4_layShares 65 = .ok (.lconst 0, 1) := by decide +kernel
theorem dX4_layShares_66 : decode cX4_layShares 66 = .ok (.lcmp, 1) := by decide +kernel
theorem dX4_layShares_67 : decode cX4_layShares 67 = .ok (.ifCond .ge 8, 3) := by decide +kernel
theorem dX4_layShares_70 : decode cX4_layShares 70 = .ok (.lload_n 1, 1) := by decide +kernel
theorem dX4_layShares_71 : decode cX4_layShares 71 = .ok (.lneg, 1) := by decide +kernel
theorem dX4_layShares_72 : decode cX4_layShares 72 = .ok (.goto 4, 3) := by decide +kernel
theorem dX4_layShares_75 : decode cX4_layShares 75 = .ok (.lload_n 1, 1) := by decide +kernel
theorem dX4_layShares_76 : decode cX4_layShares 76 = .ok (.invokestatic 86, 3) := by decide +kernel
theorem dX4_layShares_79 : decode cX4_layShares 79 = .ok (.lstore 6, 2) := by decide +kernel
theorem dX4_layShares_81 : decode cX4_layShares 81 = .ok (.lload_n 1, 1) := by decide +kernel
theorem dX4_layShares_82 : decode cX4_layShares 82 = .ok (.lconst 0, 1) := by decide +kernel
theorem dX4_layShares_83 : decode cX4_layShares 83 = .ok (.lcmp, 1) := by decide +kernel
theorem dX4_layShares_84 : decode cX4_layShares 84 = .ok (.ifCond .ge 9, 3) := by decide +kernel
theorem dX4_layShares_87 : decode cX4_layShares 87 = .ok (.lload 6, 2) := by decide +kernel
theorem dX4_layShares_89 : decode cX4_layShares 89 = .ok (.lneg, 1) := by decide +kernel
theorem dX4_layShares_90 : decode cX4_layShares 90 = .ok (.goto 5, 3) := by decide +kernel
theorem dX4_layShares_93 : decode cX4_layShares 93 = .ok (.lload 6, 2) := by decide +kernel
theorem dX4_layShares_95 : decode cX4_layShares 95 = .ok (.lstore 6, 2) := by decide +kernel
theorem dX4_layShares_97 : decode cX4_layShares 97 = .ok (.aload_n 0, 1) := by decide +kernel
theorem dX4_layShares_98 : decode cX4_layShares 98 = .ok (.getfield 50, 3) := by decide +kernel
theorem dX4_layShares_101 : decode cX4_layShares 101 = .ok (.iload_n 3, 1) := by decide +kernel
theorem dX4_layShares_102 : decode cX4_layShares 102 = .ok (.lload 4, 2) := by decide +kernel
theorem dX4_layShares_104 : decode cX4_layShares 104 = .ok (.lload 6, 2) := by decide +kernel
theorem dX4_layShares_106 : decode cX4_layShares 106 = .ok (.ldiv, 1) := by decide +kernel
theorem dX4_layShares_107 : decode cX4_layShares 107 = .ok (.lastore, 1) := by decide +kernel
theorem dX4_layShares_108 : decode cX4_layShares 108 = .ok (.aload_n 0, 1) := by decide +kernel
theorem dX4_layShares_109 : decode cX4_layShares 109 = .ok (.getfield 53, 3) := by decide +kernel
theorem dX4_layShares_112 : decode cX4_layShares 112 = .ok (.iload_n 3, 1) := by decide +kernel
theorem dX4_layShares_113 : decode cX4_layShares 113 = .ok (.lload_n 1, 1) := by decide +kernel
theorem dX4_layShares_114 : decode cX4_layShares 114 = .ok (.lload 6, 2) := by decide +kernel
theorem dX4_layShares_116 : decode cX4_layShares 116 = .ok (.ldiv, 1) := by decide +kernel
theorem dX4_layShares_117 : decode cX4_layShares 117 = .ok (.lastore, 1) := by decide +kernel
theorem dX4_layShares_118 : decode cX4_layShares 118 = .ok (.iinc 3 1, 3) := by decide +kernel
theorem dX4_layShares_121 : decode cX4_layShares 121 = .ok (.goto (-95), 3) := by decide +kernel
theorem dX4_layShares_124 : decode cX4_layShares 124 = .ok (.lload_n 1, 1) := by decide +kernel
theorem dX4_layShares_125 : decode cX4_layShares 125 = .ok (.lconst 0, 1) := by decide +kernel
theorem dX4_layShares_126 : decode cX4_layShares 126 = .ok (.lcmp, 1) := by decide +kernel
theorem dX4_layShares_127 : decode cX4_layShares 127 = .ok (.ifCond .eq 7, 3) := by decide +kernel
theorem dX4_layShares_130 : decode cX4_layShares 130 = .ok (.iconst 1, 1) := by decide +kernel
theorem dX4_layShares_131 : decode cX4_layShares 131 = .ok (.goto 4, 3) := by decide +kernel
theorem dX4_layShares_134 : decode cX4_layShares 134 = .ok (.iconst 0, 1) := by decide +kernel
theorem dX4_layShares_135 : decode cX4_layShares 135 = .ok (.ireturn, 1) := by decide +kernel
set_option maxRecDepth 20000 in
theorem ggX4_sets_X4_layShares : GoodIn wsX4_sets wsX4_layShares := goodIn_r _ [6, 7, 8, 9, 10, 11, 5, 12, 1, 13, 14, 15, 16, 17, 18, 19, 20, 21, 22, 23, 24, 25, 26, 27, 28, 29, 30, 31, 32, 33, 34, 35, 36, 37, 38, 39, 40, 41, 42, 43] (by decide +kernel) (by decide +kernel)
set_option maxRecDepth 20000 in
theorem gX4_sets_X4_layShares : GoodIn wsX4_sets (wsV RX4 90 RX4 yX4_layShares wsX4_layShares) := goodIn_app (goodIn_of _ (by decide +kernel)) ggX4_sets_X4_layShares
theorem dX4_sets_0 : decode cX4_sets 0 = .ok (.aload_n 0, 1) := by decide +kernel
theorem dX4_sets_1 : decode cX4_sets 1 = .ok (.getfield 7, 3) := by decide +kernel
theorem dX4_sets_4 : decode cX4_sets 4 = .ok (.bipush 6, 2) := by decide +kernel
theorem dX4_sets_6 : decode cX4_sets 6 = .ok (.iload_n 1, 1) := by decide +kernel
theorem dX4_sets_7 : decode cX4_sets 7 = .ok (.imul, 1) := by decide +kernel
theorem dX4_sets_8 : decode cX4_sets 8 = .ok (.iload_n 2, 1) := by decide +kernel
theorem dX4_sets_9 : decode cX4_sets 9 = .ok (.iadd, 1) := by decide +kernel
theorem dX4_sets_10 : decode cX4_sets 10 = .ok (.iaload, 1) := by decide +kernel
theorem dX4_sets_11 : decode cX4_sets 11 = .ok (.istore 4, 2) := by decide +kernel
theorem dX4_sets_13 : decode cX4_sets 13 = .ok (.aload_n 0, 1) := by decide +kernel
theorem dX4_sets_14 : decode cX4_sets 14 = .ok (.getfield 7, 3) := by decide +kernel
theorem dX4_sets_17 : decode cX4_sets 17 = .ok (.bipush 6, 2) := by decide +kernel
theorem dX4_sets_19 : decode cX4_sets 19 = .ok (.iload_n 1, 1) := by decide +kernel
theorem dX4_sets_20 : decode cX4_sets 20 = .ok (.imul, 1) := by decide +kernel
theorem dX4_sets_21 : decode cX4_sets 21 = .ok (.iload_n 2, 1) := by decide +kernel
theorem dX4_sets_22 : decode cX4_sets 22 = .ok (.iadd, 1) := by decide +kernel
theorem dX4_sets_23 : decode cX4_sets 23 = .ok (.iload_n 3, 1) := by decide +kernel
theorem dX4_sets_24 : decode cX4_sets 24 = .ok (.iastore, 1) := by decide +kernel
theorem dX4_sets_25 : decode cX4_sets 25 = .ok (.iconst 0, 1) := by decide +kernel
theorem dX4_sets_26 : decode cX4_sets 26 = .ok (.istore 5, 2) := by decide +kernel
theorem dX4_sets_28 : decode cX4_sets 28 = .ok (.iconst 0, 1) := by decide +kernel
theorem dX4_sets_29 : decode cX4_sets 29 = .ok (.istore 6, 2) := by decide +kernel
theorem dX4_sets_31 : decode cX4_sets 31 = .ok (.iload 6, 2) := by decide +kernel
theorem dX4_sets_33 : decode cX4_sets 33 = .ok (.bipush 6, 2) := by decide +kernel
theorem dX4_sets_35 : decode cX4_sets 35 = .ok (.if_icmp .ge 26, 3) := by decide +kernel
theorem dX4_sets_38 : decode cX4_sets 38 = .ok (.iload 5, 2) := by decide +kernel
theorem dX4_sets_40 : decode cX4_sets 40 = .ok (.aload_n 0, 1) := by decide +kernel
theorem dX4_sets_41 : decode cX4_sets 41 = .ok (.getfield 7, 3) := by decide +kernel
theorem dX4_sets_44 : decode cX4_sets 44 = .ok (.bipush 6, 2) := by decide +kernel
theorem dX4_sets_46 : decode cX4_sets 46 = .ok (.iload 6, 2) := by decide +kernel
theorem dX4_sets_48 : decode cX4_sets 48 = .ok (.imul, 1) := by decide +kernel
theorem dX4_sets_49 : decode cX4_sets 49 = .ok (.iload_n 2, 1) := by decide +kernel
theorem dX4_sets_50 : decode cX4_sets 50 = .ok (.iadd, 1) := by decide +kernel
theorem dX4_sets_51 : decode cX4_sets 51 = .ok (.iaload, 1) := by decide +kernel
theorem dX4_sets_52 : decode cX4_sets 52 = .ok (.iadd, 1) := by decide +kernel
theorem dX4_sets_53 : decode cX4_sets 53 = .ok (.istore 5, 2) := by decide +kernel
theorem dX4_sets_55 : decode cX4_sets 55 = .ok (.iinc 6 1, 3) := by decide +kernel
theorem dX4_sets_58 : decode cX4_sets 58 = .ok (.goto (-27), 3) := by decide +kernel
theorem dX4_sets_61 : decode cX4_sets 61 = .ok (.iload 5, 2) := by decide +kernel
theorem dX4_sets_63 : decode cX4_sets 63 = .ok (.bipush 100, 2) := by decide +kernel
theorem dX4_sets_65 : decode cX4_sets 65 = .ok (.if_icmp .gt 14, 3) := by decide +kernel
theorem dX4_sets_68 : decode cX4_sets 68 = .ok (.aload_n 0, 1) := by decide +kernel
theorem dX4_sets_69 : decode cX4_sets 69 = .ok (.invokevirtual 90, 3) := by decide +kernel
theorem dX4_sets_72 : decode cX4_sets 72 = .ok (.ifCond .eq 7, 3) := by decide +kernel
theorem dX4_sets_75 : decode cX4_sets 75 = .ok (.iconst 1, 1) := by decide +kernel
theorem dX4_sets_76 : decode cX4_sets 76 = .ok (.goto 4, 3) := by decide +kernel
theorem dX4_sets_79 : decode cX4_sets 79 = .ok (.iconst 0, 1) := by decide +kernel
theorem dX4_sets_80 : decode cX4_sets 80 = .ok (.istore 6, 2) := by decide +kernel
theorem dX4_sets_82 : decode cX4_sets 82 = .ok (.aload_n 0, 1) := by decide +kernel
theorem dX4_sets_83 : decode cX4_sets 83 = .ok (.getfield 7, 3) := by decide +kernel
theorem dX4_sets_86 : decode cX4_sets 86 = .ok (.bipush 6, 2) := by decide +kernel
theorem dX4_sets_88 : decode cX4_sets 88 = .ok (.iload_n 1, 1) := by decide +kernel
theorem dX4_sets_89 : decode cX4_sets 89 = .ok (.imul, 1) := by decide +kernel
theorem dX4_sets_90 : decode cX4_sets 90 = .ok (.iload_n 2, 1) := by decide +kernel
theorem dX4_sets_91 : decode cX4_sets 91 = .ok (.iadd, 1) := by decide +kernel
theorem dX4_sets_92 : decode cX4_sets 92 = .ok (.iload 6, 2) := by decide +kernel
theorem dX4_sets_94 : decode cX4_sets 94 = .ok (.ifCond .eq 7, 3) := by decide +kernel
theorem dX4_sets_97 : decode cX4_sets 97 = .ok (.iload_n 3, 1) := by decide +kernel
theorem dX4_sets_98 : decode cX4_sets 98 = .ok (.goto 5, 3) := by decide +kernel
theorem dX4_sets_101 : decode cX4_sets 101 = .ok (.iload 4, 2) := by decide +kernel
theorem dX4_sets_103 : decode cX4_sets 103 = .ok (.iastore, 1) := by decide +kernel
theorem dX4_sets_104 : decode cX4_sets 104 = .ok (.iload 6, 2) := by decide +kernel
theorem dX4_sets_106 : decode cX4_sets 106 = .ok (.ireturn, 1) := by decide +kernel
set_option maxRecDepth 20000 in
theorem ggX4_hold_X4_isPair : GoodIn wsX4_hold wsX4_isPair := goodIn_r _ [6, 7, 8, 5, 9, 10, 11, 12] (by decide +kernel) (by decide +kernel)
set_option maxRecDepth 20000 in
theorem gX4_hold_X4_isPair : GoodIn wsX4_hold (va_wsS RX4 94 yX4_isPair wsX4_isPair) := goodIn_app (goodIn_of _ (by decide +kernel)) ggX4_hold_X4_isPair
set_option maxRecDepth 20000 in
theorem ggX4_hold_X4_in : GoodIn wsX4_hold wsX4_in := goodIn_r _ [12] (by decide +kernel) (by decide +kernel)
set_option maxRecDepth 20000 in
theorem gX4_hold_X4_in : GoodIn wsX4_hold (va_wsS RX4 66 yX4_in wsX4_in) := goodIn_app (goodIn_of _ (by decide +kernel)) ggX4_hold_X4_in
set_option maxRecDepth 20000 in
theorem ggX4_hold_X4_fails : GoodIn wsX4_hold wsX4_fails := goodIn_r _ [16, 1, 43, 44, 45, 46, 47, 48, 49, 50, 51, 52, 53, 54, 55, 56, 57, 58, 59, 60, 61] (by decide +kernel) (by decide +kernel)
set_option maxRecDepth 20000 in
theorem gX4_hold_X4_fails : GoodIn wsX4_hold (wsV RX4 98 RX4 yX4_fails wsX4_fails) := goodIn_app (goodIn_of _ (by decide +kernel)) ggX4_hold_X4_fails
set_option maxRecDepth 20000 in
theorem ggX4_hold_X4_sets : GoodIn wsX4_hold wsX4_sets := goodIn_r _ [20, 2, 21, 22, 23, 5, 24, 25, 26, 27, 28, 29, 30, 31, 32, 33, 34, 35, 36, 37, 38, 39, 40, 41, 42, 43, 44, 45, 46, 47, 48, 49, 50, 51, 52, 53, 54, 55, 56, 57, 58, 59, 60, 61] (by decide +kernel) (by decide +kernel)
set_option maxRecDepth 20000 in
theorem gX4_hold_X4_sets : GoodIn wsX4_hold (wsV RX4 102 RX4 yX4_sets wsX4_sets) := goodIn_app (goodIn_of _ (by decide +kernel)) ggX4_hold_X4_sets
theorem dX4_hold_0 : decode cX4_hold 0 = .ok (.aload_n 0, 1) := by decide +kernel
theorem dX4_hold_1 : decode cX4_hold 1 = .ok (.iconst 0, 1) := by decide +kernel
theorem dX4_hold_2 : decode cX4_hold 2 = .ok (.putfield 62, 3) := by decide +kernel
theorem dX4_hold_5 : decode cX4_hold 5 = .ok (.iload_n 1, 1) := by decide +kernel
theorem dX4_hold_6 : decode cX4_hold 6 = .ok (.iload_n 2, 1) := by decide +kernel
theorem dX4_hold_7 : decode cX4_hold 7 = .ok (.invokestatic 94, 3) := by decide +kernel
theorem dX4_hold_10 : decode cX4_hold 10 = .ok (.ifCond .eq 13, 3) := by decide +kernel
theorem dX4_hold_13 : decode cX4_hold 13 = .ok (.iload_n 3, 1) := by decide +kernel
theorem dX4_hold_14 : decode cX4_hold 14 = .ok (.iconst 0, 1) := by decide +kernel
theorem dX4_hold_15 : decode cX4_hold 15 = .ok (.bipush 100, 2) := by decide +kernel
theorem dX4_hold_17 : decode cX4_hold 17 = .ok (.invokestatic 66, 3) := by decide +kernel
theorem dX4_hold_20 : decode cX4_hold 20 = .ok (.ifCond .ne 9, 3) := by decide +kernel
theorem dX4_hold_23 : decode cX4_hold 23 = .ok (.aload_n 0, 1) := by decide +kernel
theorem dX4_hold_24 : decode cX4_hold 24 = .ok (.iconst 1, 1) := by decide +kernel
theorem dX4_hold_25 : decode cX4_hold 25 = .ok (.invokevirtual 98, 3) := by decide +kernel
theorem dX4_hold_28 : decode cX4_hold 28 = .ok (.ireturn, 1) := by decide +kernel
theorem dX4_hold_29 : decode cX4_hold 29 = .ok (.aload_n 0, 1) := by decide +kernel
theorem dX4_hold_30 : decode cX4_hold 30 = .ok (.getfield 7, 3) := by decide +kernel
theorem dX4_hold_33 : decode cX4_hold 33 = .ok (.bipush 6, 2) := by decide +kernel
theorem dX4_hold_35 : decode cX4_hold 35 = .ok (.iload_n 1, 1) := by decide +kernel
theorem dX4_hold_36 : decode cX4_hold 36 = .ok (.imul, 1) := by decide +kernel
theorem dX4_hold_37 : decode cX4_hold 37 = .ok (.iload_n 2, 1) := by decide +kernel
theorem dX4_hold_38 : decode cX4_hold 38 = .ok (.iadd, 1) := by decide +kernel
theorem dX4_hold_39 : decode cX4_hold 39 = .ok (.iaload, 1) := by decide +kernel
theorem dX4_hold_40 : decode cX4_hold 40 = .ok (.istore 4, 2) := by decide +kernel
theorem dX4_hold_42 : decode cX4_hold 42 = .ok (.aload_n 0, 1) := by decide +kernel
theorem dX4_hold_43 : decode cX4_hold 43 = .ok (.iload_n 1, 1) := by decide +kernel
theorem dX4_hold_44 : decode cX4_hold 44 = .ok (.iload_n 2, 1) := by decide +kernel
theorem dX4_hold_45 : decode cX4_hold 45 = .ok (.iload_n 3, 1) := by decide +kernel
theorem dX4_hold_46 : decode cX4_hold 46 = .ok (.invokevirtual 102, 3) := by decide +kernel
theorem dX4_hold_49 : decode cX4_hold 49 = .ok (.ifCond .eq 8, 3) := by decide +kernel
theorem dX4_hold_52 : decode cX4_hold 52 = .ok (.iload 4, 2) := by decide +kernel
theorem dX4_hold_54 : decode cX4_hold 54 = .ok (.goto 8, 3) := by decide +kernel
theorem dX4_hold_57 : decode cX4_hold 57 = .ok (.aload_n 0, 1) := by decide +kernel
theorem dX4_hold_58 : decode cX4_hold 58 = .ok (.iconst 2, 1) := by decide +kernel
theorem dX4_hold_59 : decode cX4_hold 59 = .ok (.invokevirtual 98, 3) := by decide +kernel
theorem dX4_hold_62 : decode cX4_hold 62 = .ok (.ireturn, 1) := by decide +kernel
set_option maxRecDepth 20000 in
theorem ggX4_acquire_X4_isPair : GoodIn wsX4_acquire wsX4_isPair := goodIn_r _ [9, 10, 11, 8, 12, 13, 14, 15] (by decide +kernel) (by decide +kernel)
set_option maxRecDepth 20000 in
theorem gX4_acquire_X4_isPair : GoodIn wsX4_acquire (va_wsS RX4 94 yX4_isPair wsX4_isPair) := goodIn_app (goodIn_of _ (by decide +kernel)) ggX4_acquire_X4_isPair
set_option maxRecDepth 20000 in
theorem ggX4_acquire_X4_in : GoodIn wsX4_acquire wsX4_in := goodIn_r _ [15] (by decide +kernel) (by decide +kernel)
set_option maxRecDepth 20000 in
theorem gX4_acquire_X4_in : GoodIn wsX4_acquire (va_wsS RX4 66 yX4_in wsX4_in) := goodIn_app (goodIn_of _ (by decide +kernel)) ggX4_acquire_X4_in
set_option maxRecDepth 20000 in
theorem ggX4_acquire_X4_fails : GoodIn wsX4_acquire wsX4_fails := goodIn_r _ [19, 1, 59, 60, 61, 62, 63, 64, 65, 66, 67, 68, 69, 70, 71, 72, 73, 74, 75, 76, 77] (by decide +kernel) (by decide +kernel)
set_option maxRecDepth 20000 in
theorem gX4_acquire_X4_fails : GoodIn wsX4_acquire (wsV RX4 98 RX4 yX4_fails wsX4_fails) := goodIn_app (goodIn_of _ (by decide +kernel)) ggX4_acquire_X4_fails
set_option maxRecDepth 20000 in
theorem ggX4_acquire_X4_sets : GoodIn wsX4_acquire wsX4_sets := goodIn_r _ [23, 3, 24, 25, 26, 8, 27, 28, 29, 30, 31, 32, 33, 34, 35, 36, 37, 38, 39, 40, 41, 42, 43, 44, 45, 59, 60, 61, 62, 63, 64, 65, 66, 67, 68, 69, 70, 71, 72, 73, 74, 75, 76, 77] (by decide +kernel) (by decide +kernel)
set_option maxRecDepth 20000 in
theorem gX4_acquire_X4_sets : GoodIn wsX4_acquire (wsV RX4 102 RX4 yX4_sets wsX4_sets) := goodIn_app (goodIn_of _ (by decide +kernel)) ggX4_acquire_X4_sets
set_option maxRecDepth 20000 in
theorem ggX4_acquire_X4_net : GoodIn wsX4_acquire wsX4_net := goodIn_r _ [49, 50, 51, 52, 53, 54, 8, 55, 5, 56, 57, 58, 59, 60, 61, 62, 63, 64, 65, 66, 67, 68, 69, 70, 71, 72, 73, 74, 75, 76, 77] (by decide +kernel) (by decide +kernel)
set_option maxRecDepth 20000 in
theorem gX4_acquire_X4_net : GoodIn wsX4_acquire (wsV RX4 106 RX4 yX4_net wsX4_net) := goodIn_app (goodIn_of _ (by decide +kernel)) ggX4_acquire_X4_net
set_option maxRecDepth 20000 in
theorem ggX4_acquire_X4_floor : GoodIn wsX4_acquire wsX4_floor := goodIn_r _ [58] (by decide +kernel) (by decide +kernel)
set_option maxRecDepth 20000 in
theorem gX4_acquire_X4_floor : GoodIn wsX4_acquire (va_wsS RX4 111 yX4_floor wsX4_floor) := goodIn_app (goodIn_of _ (by decide +kernel)) ggX4_acquire_X4_floor
theorem dX4_acquire_0 : decode cX4_acquire 0 = .ok (.aload_n 0, 1) := by decide +kernel
theorem dX4_acquire_1 : decode cX4_acquire 1 = .ok (.iconst 0, 1) := by decide +kernel
theorem dX4_acquire_2 : decode cX4_acquire 2 = .ok (.putfield 62, 3) := by decide +kernel
theorem dX4_acquire_5 : decode cX4_acquire 5 = .ok (.iload_n 1, 1) := by decide +kernel
theorem dX4_acquire_6 : decode cX4_acquire 6 = .ok (.iload_n 2, 1) := by decide +kernel
theorem dX4_acquire_7 : decode cX4_acquire 7 = .ok (.invokestatic 94, 3) := by decide +kernel
theorem dX4_acquire_10 : decode cX4_acquire 10 = .ok (.ifCond .eq 24, 3) := by decide +kernel
theorem dX4_acquire_13 : decode cX4_acquire 13 = .ok (.iload_n 3, 1) := by decide +kernel
theorem dX4_acquire_14 : decode cX4_acquire 14 = .ok (.iconst 1, 1) := by decide +kernel
theorem dX4_acquire_15 : decode cX4_acquire 15 = .ok (.bipush 100, 2) := by decide +kernel
theorem dX4_acquire_17 : decode cX4_acquire 17 = .ok (.invokestatic 66, 3) := by decide +kernel
theorem dX4_acquire_20 : decode cX4_acquire 20 = .ok (.ifCond .eq 14, 3) := by decide +kernel
theorem dX4_acquire_23 : decode cX4_acquire 23 = .ok (.iload 4, 2) := by decide +kernel
theorem dX4_acquire_25 : decode cX4_acquire 25 = .ok (.iconst 0, 1) := by decide +kernel
theorem dX4_acquire_26 : decode cX4_acquire 26 = .ok (.ldc 105, 2) := by decide +kernel
theorem dX4_acquire_28 : decode cX4_acquire 28 = .ok (.invokestatic 66, 3) := by decide +kernel
theorem dX4_acquire_31 : decode cX4_acquire 31 = .ok (.ifCond .ne 9, 3) := by decide +kernel
theorem dX4_acquire_34 : decode cX4_acquire 34 = .ok (.aload_n 0, 1) := by decide +kernel
theorem dX4_acquire_35 : decode cX4_acquire 35 = .ok (.iconst 1, 1) := by decide +kernel
theorem dX4_acquire_36 : decode cX4_acquire 36 = .ok (.invokevirtual 98, 3) := by decide +kernel
theorem dX4_acquire_39 : decode cX4_acquire 39 = .ok (.ireturn, 1) := by decide +kernel
theorem dX4_acquire_40 : decode cX4_acquire 40 = .ok (.aload_n 0, 1) := by decide +kernel
theorem dX4_acquire_41 : decode cX4_acquire 41 = .ok (.getfield 7, 3) := by decide +kernel
theorem dX4_acquire_44 : decode cX4_acquire 44 = .ok (.bipush 6, 2) := by decide +kernel
theorem dX4_acquire_46 : decode cX4_acquire 46 = .ok (.iload_n 1, 1) := by decide +kernel
theorem dX4_acquire_47 : decode cX4_acquire 47 = .ok (.imul, 1) := by decide +kernel
theorem dX4_acquire_48 : decode cX4_acquire 48 = .ok (.iload_n 2, 1) := by decide +kernel
theorem dX4_acquire_49 : decode cX4_acquire 49 = .ok (.iadd, 1) := by decide +kernel
theorem dX4_acquire_50 : decode cX4_acquire 50 = .ok (.iaload, 1) := by decide +kernel
theorem dX4_acquire_51 : decode cX4_acquire 51 = .ok (.iload_n 3, 1) := by decide +kernel
theorem dX4_acquire_52 : decode cX4_acquire 52 = .ok (.iadd, 1) := by decide +kernel
theorem dX4_acquire_53 : decode cX4_acquire 53 = .ok (.istore 5, 2) := by decide +kernel
theorem dX4_acquire_55 : decode cX4_acquire 55 = .ok (.aload_n 0, 1) := by decide +kernel
theorem dX4_acquire_56 : decode cX4_acquire 56 = .ok (.iload_n 1, 1) := by decide +kernel
theorem dX4_acquire_57 : decode cX4_acquire 57 = .ok (.iload_n 2, 1) := by decide +kernel
theorem dX4_acquire_58 : decode cX4_acquire 58 = .ok (.iload 5, 2) := by decide +kernel
theorem dX4_acquire_60 : decode cX4_acquire 60 = .ok (.invokevirtual 102, 3) := by decide +kernel
theorem dX4_acquire_63 : decode cX4_acquire 63 = .ok (.ifCond .ne 9, 3) := by decide +kernel
theorem dX4_acquire_66 : decode cX4_acquire 66 = .ok (.aload_n 0, 1) := by decide +kernel
theorem dX4_acquire_67 : decode cX4_acquire 67 = .ok (.iconst 2, 1) := by decide +kernel
theorem dX4_acquire_68 : decode cX4_acquire 68 = .ok (.invokevirtual 98, 3) := by decide +kernel
theorem dX4_acquire_71 : decode cX4_acquire 71 = .ok (.ireturn, 1) := by decide +kernel
theorem dX4_acquire_72 : decode cX4_acquire 72 = .ok (.aload_n 0, 1) := by decide +kernel
theorem dX4_acquire_73 : decode cX4_acquire 73 = .ok (.getfield 19, 3) := by decide +kernel
theorem dX4_acquire_76 : decode cX4_acquire 76 = .ok (.iload_n 2, 1) := by decide +kernel
theorem dX4_acquire_77 : decode cX4_acquire 77 = .ok (.dup2, 1) := by decide +kernel
theorem dX4_acquire_78 : decode cX4_acquire 78 = .ok (.iaload, 1) := by decide +kernel
theorem dX4_acquire_79 : decode cX4_acquire 79 = .ok (.iload 4, 2) := by decide +kernel
theorem dX4_acquire_81 : decode cX4_acquire 81 = .ok (.iload_n 3, 1) := by decide +kernel
theorem dX4_acquire_82 : decode cX4_acquire 82 = .ok (.i2l, 1) := by decide +kernel
theorem dX4_acquire_83 : decode cX4_acquire 83 = .ok (.aload_n 0, 1) := by decide +kernel
theorem dX4_acquire_84 : decode cX4_acquire 84 = .ok (.iload_n 2, 1) := by decide +kernel
theorem dX4_acquire_85 : decode cX4_acquire 85 = .ok (.invokevirtual 106, 3) := by decide +kernel
theorem dX4_acquire_88 : decode cX4_acquire 88 = .ok (.i2l, 1) := by decide +kernel
theorem dX4_acquire_89 : decode cX4_acquire 89 = .ok (.lmul, 1) := by decide +kernel
theorem dX4_acquire_90 : decode cX4_acquire 90 = .ok (.ldc2_w 109, 3) := by decide +kernel
theorem dX4_acquire_93 : decode cX4_acquire 93 = .ok (.invokestatic 111, 3) := by decide +kernel
theorem dX4_acquire_96 : decode cX4_acquire 96 = .ok (.l2i, 1) := by decide +kernel
theorem dX4_acquire_97 : decode cX4_acquire 97 = .ok (.isub, 1) := by decide +kernel
theorem dX4_acquire_98 : decode cX4_acquire 98 = .ok (.iadd, 1) := by decide +kernel
theorem dX4_acquire_99 : decode cX4_acquire 99 = .ok (.iastore, 1) := by decide +kernel
theorem dX4_acquire_100 : decode cX4_acquire 100 = .ok (.iload 5, 2) := by decide +kernel
theorem dX4_acquire_102 : decode cX4_acquire 102 = .ok (.ireturn, 1) := by decide +kernel
set_option maxRecDepth 20000 in
theorem ggX4_held_X4_isCompany : GoodIn wsX4_held wsX4_isCompany := goodIn_r _ [6, 7, 8, 5, 9] (by decide +kernel) (by decide +kernel)
set_option maxRecDepth 20000 in
theorem gX4_held_X4_isCompany : GoodIn wsX4_held (va_wsS RX4 70 yX4_isCompany wsX4_isCompany) := goodIn_app (goodIn_of _ (by decide +kernel)) ggX4_held_X4_isCompany
set_option maxRecDepth 20000 in
theorem ggX4_held_X4_fails : GoodIn wsX4_held wsX4_fails := goodIn_r _ [13, 1, 14, 15, 16, 17, 18, 19, 20, 21, 22, 23, 24, 25, 26, 27, 28, 29, 30, 31, 32] (by decide +kernel) (by decide +kernel)
set_option maxRecDepth 20000 in
theorem gX4_held_X4_fails : GoodIn wsX4_held (wsV RX4 98 RX4 yX4_fails wsX4_fails) := goodIn_app (goodIn_of _ (by decide +kernel)) ggX4_held_X4_fails
theorem dX4_held_0 : decode cX4_held 0 = .ok (.aload_n 0, 1) := by decide +kernel
theorem dX4_held_1 : decode cX4_held 1 = .ok (.iconst 0, 1) := by decide +kernel
theorem dX4_held_2 : decode cX4_held 2 = .ok (.putfield 62, 3) := by decide +kernel
theorem dX4_held_5 : decode cX4_held 5 = .ok (.iload_n 1, 1) := by decide +kernel
theorem dX4_held_6 : decode cX4_held 6 = .ok (.invokestatic 70, 3) := by decide +kernel
theorem dX4_held_9 : decode cX4_held 9 = .ok (.ifCond .eq 24, 3) := by decide +kernel
theorem dX4_held_12 : decode cX4_held 12 = .ok (.iload_n 2, 1) := by decide +kernel
theorem dX4_held_13 : decode cX4_held 13 = .ok (.invokestatic 70, 3) := by decide +kernel
theorem dX4_held_16 : decode cX4_held 16 = .ok (.ifCond .eq 17, 3) := by decide +kernel
theorem dX4_held_19 : decode cX4_held 19 = .ok (.aload_n 0, 1) := by decide +kernel
theorem dX4_held_20 : decode cX4_held 20 = .ok (.getfield 7, 3) := by decide +kernel
theorem dX4_held_23 : decode cX4_held 23 = .ok (.bipush 6, 2) := by decide +kernel
theorem dX4_held_25 : decode cX4_held 25 = .ok (.iload_n 1, 1) := by decide +kernel
theorem dX4_held_26 : decode cX4_held 26 = .ok (.imul, 1) := by decide +kernel
theorem dX4_held_27 : decode cX4_held 27 = .ok (.iload_n 2, 1) := by decide +kernel
theorem dX4_held_28 : decode cX4_held 28 = .ok (.iadd, 1) := by decide +kernel
theorem dX4_held_29 : decode cX4_held 29 = .ok (.iaload, 1) := by decide +kernel
theorem dX4_held_30 : decode cX4_held 30 = .ok (.goto 8, 3) := by decide +kernel
theorem dX4_held_33 : decode cX4_held 33 = .ok (.aload_n 0, 1) := by decide +kernel
theorem dX4_held_34 : decode cX4_held 34 = .ok (.iconst 1, 1) := by decide +kernel
theorem dX4_held_35 : decode cX4_held 35 = .ok (.invokevirtual 98, 3) := by decide +kernel
theorem dX4_held_38 : decode cX4_held 38 = .ok (.ireturn, 1) := by decide +kernel
set_option maxRecDepth 20000 in
theorem ggX4_shareNumerator_X4_isCompany : GoodIn wsX4_shareNumerator wsX4_isCompany := goodIn_r _ [6, 7, 8, 5, 9] (by decide +kernel) (by decide +kernel)
set_option maxRecDepth 20000 in
theorem gX4_shareNumerator_X4_isCompany : GoodIn wsX4_shareNumerator (va_wsS RX4 70 yX4_isCompany wsX4_isCompany) := goodIn_app (goodIn_of _ (by decide +kernel)) ggX4_shareNumerator_X4_isCompany
set_option maxRecDepth 20000 in
theorem ggX4_shareNumerator_X4_fails : GoodIn wsX4_shareNumerator wsX4_fails := goodIn_r _ [13, 1, 36, 37, 38, 39, 40, 41, 42, 43, 44, 45, 46, 47, 48, 49, 50, 51, 52, 53, 54] (by decide +kernel) (by decide +kernel)
set_option maxRecDepth 20000 in
theorem gX4_shareNumerator_X4_fails : GoodIn wsX4_shareNumerator (wsV RX4 98 RX4 yX4_fails wsX4_fails) := goodIn_app (goodIn_of _ (by decide +kernel)) ggX4_shareNumerator_X4_fails
set_option maxRecDepth 20000 in
theorem ggX4_shareNumerator_X4_layShares : GoodIn wsX4_shareNumerator wsX4_layShares := goodIn_r _ [17, 2, 18, 19, 20, 21, 5, 22, 23, 24, 25, 26, 27, 28, 29, 30, 31, 32, 33, 34, 35, 36, 37, 38, 39, 40, 41, 42, 43, 44, 45, 46, 47, 48, 49, 50, 51, 52, 53, 54] (by decide +kernel) (by decide +kernel)
set_option maxRecDepth 20000 in
theorem gX4_shareNumerator_X4_layShares : GoodIn wsX4_shareNumerator (wsV RX4 90 RX4 yX4_layShares wsX4_layShares) := goodIn_app (goodIn_of _ (by decide +kernel)) ggX4_shareNumerator_X4_layShares
theorem dX4_shareNumerator_0 : decode cX4_shareNumerator 0 = .ok (.aload_n 0, 1) := by decide +kernel
theorem dX4_shareNumerator_1 : decode cX4_shareNumerator 1 = .ok (.iconst 0, 1) := by decide +kernel
theorem dX4_shareNumerator_2 : decode cX4_shareNumerator 2 = .ok (.putfield 62, 3) := by decide +kernel
theorem dX4_shareNumerator_5 : decode cX4_shareNumerator 5 = .ok (.iload_n 1, 1) := by decide +kernel
theorem dX4_shareNumerator_6 : decode cX4_shareNumerator 6 = .ok (.invokestatic 70, 3) := by decide +kernel
theorem dX4_shareNumerator_9 : decode cX4_shareNumerator 9 = .ok (.ifCond .ne 10, 3) := by decide +kernel
theorem dX4_shareNumerator_12 : decode cX4_shareNumerator 12 = .ok (.aload_n 0, 1) := by decide +kernel
theorem dX4_shareNumerator_13 : decode cX4_shareNumerator 13 = .ok (.iconst 1, 1) := by decide +kernel
theorem dX4_shareNumerator_14 : decode cX4_shareNumerator 14 = .ok (.invokevirtual 98, 3) := by decide +kernel
theorem dX4_shareNumerator_17 : decode cX4_shareNumerator 17 = .ok (.i2l, 1) := by decide +kernel
theorem dX4_shareNumerator_18 : decode cX4_shareNumerator 18 = .ok (.lreturn, 1) := by decide +kernel
theorem dX4_shareNumerator_19 : decode cX4_shareNumerator 19 = .ok (.aload_n 0, 1) := by decide +kernel
theorem dX4_shareNumerator_20 : decode cX4_shareNumerator 20 = .ok (.invokevirtual 90, 3) := by decide +kernel
theorem dX4_shareNumerator_23 : decode cX4_shareNumerator 23 = .ok (.istore_n 2, 1) := by decide +kernel
theorem dX4_shareNumerator_24 : decode cX4_shareNumerator 24 = .ok (.aload_n 0, 1) := by decide +kernel
theorem dX4_shareNumerator_25 : decode cX4_shareNumerator 25 = .ok (.getfield 50, 3) := by decide +kernel
theorem dX4_shareNumerator_28 : decode cX4_shareNumerator 28 = .ok (.iload_n 1, 1) := by decide +kernel
theorem dX4_shareNumerator_29 : decode cX4_shareNumerator 29 = .ok (.laload, 1) := by decide +kernel
theorem dX4_shareNumerator_30 : decode cX4_shareNumerator 30 = .ok (.lreturn, 1) := by decide +kernel
set_option maxRecDepth 20000 in
theorem ggX4_shareDenominator_X4_isCompany : GoodIn wsX4_shareDenominator wsX4_isCompany := goodIn_r _ [6, 7, 8, 5, 9] (by decide +kernel) (by decide +kernel)
set_option maxRecDepth 20000 in
theorem gX4_shareDenominator_X4_isCompany : GoodIn wsX4_shareDenominator (va_wsS RX4 70 yX4_isCompany wsX4_isCompany) := goodIn_app (goodIn_of _ (by decide +kernel)) ggX4_shareDenominator_X4_isCompany
set_option maxRecDepth 20000 in
theorem ggX4_shareDenominator_X4_fails : GoodIn wsX4_shareDenominator wsX4_fails := goodIn_r _ [13, 1, 36, 37, 38, 39, 40, 41, 42, 43, 44, 45, 46, 47, 48, 49, 50, 51, 52, 53, 54] (by decide +kernel) (by decide +kernel)
set_option maxRecDepth 20000 in
theorem gX4_shareDenominator_X4_fails : GoodIn wsX4_shareDenominator (wsV RX4 98 RX4 yX4_fails wsX4_fails) := goodIn_app (goodIn_of _ (by decide +kernel)) ggX4_shareDenominator_X4_fails
set_option maxRecDepth 20000 in
theorem ggX4_shareDenominator_X4_layShares : GoodIn wsX4_shareDenominator wsX4_layShares := goodIn_r _ [17, 18, 2, 19, 20, 21, 5, 22, 23, 24, 25, 26, 27, 28, 29, 30, 31, 32, 33, 34, 35, 36, 37, 38, 39, 40, 41, 42, 43, 44, 45, 46, 47, 48, 49, 50, 51, 52, 53, 54] (by decide +kernel) (by decide +kernel)
set_option maxRecDepth 20000 in
theorem gX4_shareDenominator_X4_layShares : GoodIn wsX4_shareDenominator (wsV RX4 90 RX4 yX4_layShares wsX4_layShares) := goodIn_app (goodIn_of _ (by decide +kernel)) ggX4_shareDenominator_X4_layShares
theorem dX4_shareDenominator_0 : decode cX4_shareDenominator 0 = .ok (.aload_n 0, 1) := by decide +kernel
theorem dX4_shareDenominator_1 : decode cX4_shareDenominator 1 = .ok (.iconst 0, 1) := by decide +kernel
theorem dX4_shareDenominator_2 : decode cX4_shareDenominator 2 = .ok (.putfield 62, 3) := by decide +kernel
theorem dX4_shareDenominator_5 : decode cX4_shareDenominator 5 = .ok (.iload_n 1, 1) := by decide +kernel
theorem dX4_shareDenominator_6 : decode cX4_shareDenominator 6 = .ok (.invokestatic 70, 3) := by decide +kernel
theorem dX4_shareDenominator_9 : decode cX4_shareDenominator 9 = .ok (.ifCond .ne 10, 3) := by decide +kernel
theorem dX4_shareDenominator_12 : decode cX4_shareDenominator 12 = .ok (.aload_n 0, 1) := by decide +kernel
theorem dX4_shareDenominator_13 : decode cX4_shareDenominator 13 = .ok (.iconst 1, 1) := by decide +kernel
theorem dX4_shareDenominator_14 : decode cX4_shareDenominator 14 = .ok (.invokevirtual 98, 3) := by decide +kernel
theorem dX4_shareDenominator_17 : decode cX4_shareDenominator 17 = .ok (.i2l, 1) := by decide +kernel
theorem dX4_shareDenominator_18 : decode cX4_shareDenominator 18 = .ok (.lreturn, 1) := by decide +kernel
theorem dX4_shareDenominator_19 : decode cX4_shareDenominator 19 = .ok (.aload_n 0, 1) := by decide +kernel
theorem dX4_shareDenominator_20 : decode cX4_shareDenominator 20 = .ok (.invokevirtual 90, 3) := by decide +kernel
theorem dX4_shareDenominator_23 : decode cX4_shareDenominator 23 = .ok (.istore_n 2, 1) := by decide +kernel
theorem dX4_shareDenominator_24 : decode cX4_shareDenominator 24 = .ok (.aload_n 0, 1) := by decide +kernel
theorem dX4_shareDenominator_25 : decode cX4_shareDenominator 25 = .ok (.getfield 53, 3) := by decide +kernel
theorem dX4_shareDenominator_28 : decode cX4_shareDenominator 28 = .ok (.iload_n 1, 1) := by decide +kernel
theorem dX4_shareDenominator_29 : decode cX4_shareDenominator 29 = .ok (.laload, 1) := by decide +kernel
theorem dX4_shareDenominator_30 : decode cX4_shareDenominator 30 = .ok (.lreturn, 1) := by decide +kernel
set_option maxRecDepth 20000 in
theorem ggX4_shareByRounds_X4_isCompany : GoodIn wsX4_shareByRounds wsX4_isCompany := goodIn_r _ [9, 10, 11, 8, 12] (by decide +kernel) (by decide +kernel)
set_option maxRecDepth 20000 in
theorem gX4_shareByRounds_X4_isCompany : GoodIn wsX4_shareByRounds (va_wsS RX4 70 yX4_isCompany wsX4_isCompany) := goodIn_app (goodIn_of _ (by decide +kernel)) ggX4_shareByRounds_X4_isCompany
set_option maxRecDepth 20000 in
theorem ggX4_shareByRounds_X4_in : GoodIn wsX4_shareByRounds wsX4_in := goodIn_r _ [12] (by decide +kernel) (by decide +kernel)
set_option maxRecDepth 20000 in
theorem gX4_shareByRounds_X4_in : GoodIn wsX4_shareByRounds (va_wsS RX4 66 yX4_in wsX4_in) := goodIn_app (goodIn_of _ (by decide +kernel)) ggX4_shareByRounds_X4_in
set_option maxRecDepth 20000 in
theorem ggX4_shareByRounds_X4_fails : GoodIn wsX4_shareByRounds wsX4_fails := goodIn_r _ [16, 1, 17, 18, 19, 20, 21, 22, 23, 24, 25, 26, 27, 28, 29, 30, 31, 32, 33, 34, 35] (by decide +kernel) (by decide +kernel)
set_option maxRecDepth 20000 in
theorem gX4_shareByRounds_X4_fails : GoodIn wsX4_shareByRounds (wsV RX4 98 RX4 yX4_fails wsX4_fails) := goodIn_app (goodIn_of _ (by decide +kernel)) ggX4_shareByRounds_X4_fails
theorem dX4_shareByRounds_0 : decode cX4_shareByRounds 0 = .ok (.aload_n 0, 1) := by decide +kernel
theorem dX4_shareByRounds_1 : decode cX4_shareByRounds 1 = .ok (.iconst 0, 1) := by decide +kernel
theorem dX4_shareByRounds_2 : decode cX4_shareByRounds 2 = .ok (.putfield 62, 3) := by decide +kernel
theorem dX4_shareByRounds_5 : decode cX4_shareByRounds 5 = .ok (.iload_n 1, 1) := by decide +kernel
theorem dX4_shareByRounds_6 : decode cX4_shareByRounds 6 = .ok (.invokestatic 70, 3) := by decide +kernel
theorem dX4_shareByRounds_9 : decode cX4_shareByRounds 9 = .ok (.ifCond .eq 14, 3) := by decide +kernel
theorem dX4_shareByRounds_12 : decode cX4_shareByRounds 12 = .ok (.iload_n 2, 1) := by decide +kernel
theorem dX4_shareByRounds_13 : decode cX4_shareByRounds 13 = .ok (.iconst 0, 1) := by decide +kernel
theorem dX4_shareByRounds_14 : decode cX4_shareByRounds 14 = .ok (.sipush 200, 3) := by decide +kernel
theorem dX4_shareByRounds_17 : decode cX4_shareByRounds 17 = .ok (.invokestatic 66, 3) := by decide +kernel
theorem dX4_shareByRounds_20 : decode cX4_shareByRounds 20 = .ok (.ifCond .ne 9, 3) := by decide +kernel
theorem dX4_shareByRounds_23 : decode cX4_shareByRounds 23 = .ok (.aload_n 0, 1) := by decide +kernel
theorem dX4_shareByRounds_24 : decode cX4_shareByRounds 24 = .ok (.iconst 1, 1) := by decide +kernel
theorem dX4_shareByRounds_25 : decode cX4_shareByRounds 25 = .ok (.invokevirtual 98, 3) := by decide +kernel
theorem dX4_shareByRounds_28 : decode cX4_shareByRounds 28 = .ok (.ireturn, 1) := by decide +kernel
theorem dX4_shareByRounds_29 : decode cX4_shareByRounds 29 = .ok (.iconst 0, 1) := by decide +kernel
theorem dX4_shareByRounds_30 : decode cX4_shareByRounds 30 = .ok (.istore_n 3, 1) := by decide +kernel
theorem dX4_shareByRounds_31 : decode cX4_shareByRounds 31 = .ok (.iload_n 3, 1) := by decide +kernel
theorem dX4_shareByRounds_32 : decode cX4_shareByRounds 32 = .ok (.bipush 6, 2) := by decide +kernel
theorem dX4_shareByRounds_34 : decode cX4_shareByRounds 34 = .ok (.if_icmp .ge 25, 3) := by decide +kernel
theorem dX4_shareByRounds_37 : decode cX4_shareByRounds 37 = .ok (.aload_n 0, 1) := by decide +kernel
theorem dX4_shareByRounds_38 : decode cX4_shareByRounds 38 = .ok (.getfield 56, 3) := by decide +kernel
theorem dX4_shareByRounds_41 : decode cX4_shareByRounds 41 = .ok (.iload_n 3, 1) := by decide +kernel
theorem dX4_shareByRounds_42 : decode cX4_shareByRounds 42 = .ok (.iload_n 3, 1) := by decide +kernel
theorem dX4_shareByRounds_43 : decode cX4_shareByRounds 43 = .ok (.ifCond .ne 8, 3) := by decide +kernel
theorem dX4_shareByRounds_46 : decode cX4_shareByRounds 46 = .ok (.ldc 105, 2) := by decide +kernel
theorem dX4_shareByRounds_48 : decode cX4_shareByRounds 48 = .ok (.goto 4, 3) := by decide +kernel
theorem dX4_shareByRounds_51 : decode cX4_shareByRounds 51 = .ok (.iconst 0, 1) := by decide +kernel
theorem dX4_shareByRounds_52 : decode cX4_shareByRounds 52 = .ok (.iastore, 1) := by decide +kernel
theorem dX4_shareByRounds_53 : decode cX4_shareByRounds 53 = .ok (.iinc 3 1, 3) := by decide +kernel
theorem dX4_shareByRounds_56 : decode cX4_shareByRounds 56 = .ok (.goto (-25), 3) := by decide +kernel
theorem dX4_shareByRounds_59 : decode cX4_shareByRounds 59 = .ok (.iconst 0, 1) := by decide +kernel
theorem dX4_shareByRounds_60 : decode cX4_shareByRounds 60 = .ok (.istore_n 3, 1) := by decide +kernel
theorem dX4_shareByRounds_61 : decode cX4_shareByRounds 61 = .ok (.iload_n 3, 1) := by decide +kernel
theorem dX4_shareByRounds_62 : decode cX4_shareByRounds 62 = .ok (.iload_n 2, 1) := by decide +kernel
theorem dX4_shareByRounds_63 : decode cX4_shareByRounds 63 = .ok (.if_icmp .ge 112, 3) := by decide +kernel
theorem dX4_shareByRounds_66 : decode cX4_shareByRounds 66 = .ok (.iconst 1, 1) := by decide +kernel
theorem dX4_shareByRounds_67 : decode cX4_shareByRounds 67 = .ok (.istore 4, 2) := by decide +kernel
theorem dX4_shareByRounds_69 : decode cX4_shareByRounds 69 = .ok (.iload 4, 2) := by decide +kernel
theorem dX4_shareByRounds_71 : decode cX4_shareByRounds 71 = .ok (.bipush 6, 2) := by decide +kernel
theorem dX4_shareByRounds_73 : decode cX4_shareByRounds 73 = .ok (.if_icmp .ge 66, 3) := by decide +kernel
theorem dX4_shareByRounds_76 : decode cX4_shareByRounds 76 = .ok (.iconst 0, 1) := by decide +kernel
theorem dX4_shareByRounds_77 : decode cX4_shareByRounds 77 = .ok (.istore 5, 2) := by decide +kernel
theorem dX4_shareByRounds_79 : decode cX4_shareByRounds 79 = .ok (.iconst 0, 1) := by decide +kernel
theorem dX4_shareByRounds_80 : decode cX4_shareByRounds 80 = .ok (.istore 6, 2) := by decide +kernel
theorem dX4_shareByRounds_82 : decode cX4_shareByRounds 82 = .ok (.iload 6, 2) := by decide +kernel
theorem dX4_shareByRounds_84 : decode cX4_shareByRounds 84 = .ok (.bipush 6, 2) := by decide +kernel
theorem dX4_shareByRounds_86 : decode cX4_shareByRounds 86 = .ok (.if_icmp .ge 35, 3) := by decide +kernel
theorem dX4_shareByRounds_89 : decode cX4_shareByRounds 89 = .ok (.iload 5, 2) := by decide +kernel
theorem dX4_shareByRounds_91 : decode cX4_shareByRounds 91 = .ok (.aload_n 0, 1) := by decide +kernel
theorem dX4_shareByRounds_92 : decode cX4_shareByRounds 92 = .ok (.getfield 7, 3) := by decide +kernel
theorem dX4_shareByRounds_95 : decode cX4_shareByRounds 95 = .ok (.bipush 6, 2) := by decide +kernel
theorem dX4_shareByRounds_97 : decode cX4_shareByRounds 97 = .ok (.iload 6, 2) := by decide +kernel
theorem dX4_shareByRounds_99 : decode cX4_shareByRounds 99 = .ok (.imul, 1) := by decide +kernel
theorem dX4_shareByRounds_100 : decode cX4_shareByRounds 100 = .ok (.iload 4, 2) := by decide +kernel
theorem dX4_shareByRounds_102 : decode cX4_shareByRounds 102 = .ok (.iadd, 1) := by decide +kernel
theorem dX4_shareByRounds_103 : decode cX4_shareByRounds 103 = .ok (.iaload, 1) := by decide +kernel
theorem dX4_shareByRounds_104 : decode cX4_shareByRounds 104 = .ok (.aload_n 0, 1) := by decide +kernel
theorem dX4_shareByRounds_105 : decode cX4_shareByRounds 105 = .ok (.getfield 56, 3) := by decide +kernel
theorem dX4_shareByRounds_108 : decode cX4_shareByRounds 108 = .ok (.iload 6, 2) := by decide +kernel
theorem dX4_shareByRounds_110 : decode cX4_shareByRounds 110 = .ok (.iaload, 1) := by decide +kernel
theorem dX4_shareByRounds_111 : decode cX4_shareByRounds 111 = .ok (.imul, 1) := by decide +kernel
theorem dX4_shareByRounds_112 : decode cX4_shareByRounds 112 = .ok (.iadd, 1) := by decide +kernel
theorem dX4_shareByRounds_113 : decode cX4_shareByRounds 113 = .ok (.istore 5, 2) := by decide +kernel
theorem dX4_shareByRounds_115 : decode cX4_shareByRounds 115 = .ok (.iinc 6 1, 3) := by decide +kernel
theorem dX4_shareByRounds_118 : decode cX4_shareByRounds 118 = .ok (.goto (-36), 3) := by decide +kernel
theorem dX4_shareByRounds_121 : decode cX4_shareByRounds 121 = .ok (.aload_n 0, 1) := by decide +kernel
theorem dX4_shareByRounds_122 : decode cX4_shareByRounds 122 = .ok (.getfield 59, 3) := by decide +kernel
theorem dX4_shareByRounds_125 : decode cX4_shareByRounds 125 = .ok (.iload 4, 2) := by decide +kernel
theorem dX4_shareByRounds_127 : decode cX4_shareByRounds 127 = .ok (.iload 5, 2) := by decide +kernel
theorem dX4_shareByRounds_129 : decode cX4_shareByRounds 129 = .ok (.bipush 100, 2) := by decide +kernel
theorem dX4_shareByRounds_131 : decode cX4_shareByRounds 131 = .ok (.idiv, 1) := by decide +kernel
theorem dX4_shareByRounds_132 : decode cX4_shareByRounds 132 = .ok (.iastore, 1) := by decide +kernel
theorem dX4_shareByRounds_133 : decode cX4_shareByRounds 133 = .ok (.iinc 4 1, 3) := by decide +kernel
theorem dX4_shareByRounds_136 : decode cX4_shareByRounds 136 = .ok (.goto (-67), 3) := by decide +kernel
theorem dX4_shareByRounds_139 : decode cX4_shareByRounds 139 = .ok (.iconst 1, 1) := by decide +kernel
theorem dX4_shareByRounds_140 : decode cX4_shareByRounds 140 = .ok (.istore 4, 2) := by decide +kernel
theorem dX4_shareByRounds_142 : decode cX4_shareByRounds 142 = .ok (.iload 4, 2) := by decide +kernel
theorem dX4_shareByRounds_144 : decode cX4_shareByRounds 144 = .ok (.bipush 6, 2) := by decide +kernel
theorem dX4_shareByRounds_146 : decode cX4_shareByRounds 146 = .ok (.if_icmp .ge 23, 3) := by decide +kernel
theorem dX4_shareByRounds_149 : decode cX4_shareByRounds 149 = .ok (.aload_n 0, 1) := by decide +kernel
theorem dX4_shareByRounds_150 : decode cX4_shareByRounds 150 = .ok (.getfield 56, 3) := by decide +kernel
theorem dX4_shareByRounds_153 : decode cX4_shareByRounds 153 = .ok (.iload 4, 2) := by decide +kernel
theorem dX4_shareByRounds_155 : decode cX4_shareByRounds 155 = .ok (.aload_n 0, 1) := by decide +kernel
theorem dX4_shareByRounds_156 : decode cX4_shareByRounds 156 = .ok (.getfield 59, 3) := by decide +kernel
theorem dX4_shareByRounds_159 : decode cX4_shareByRounds 159 = .ok (.iload 4, 2) := by decide +kernel
theorem dX4_shareByRounds_161 : decode cX4_shareByRounds 161 = .ok (.iaload, 1) := by decide +kernel
theorem dX4_shareByRounds_162 : decode cX4_shareByRounds 162 = .ok (.iastore, 1) := by decide +kernel
theorem dX4_shareByRounds_163 : decode cX4_shareByRounds 163 = .ok (.iinc 4 1, 3) := by decide +kernel
theorem dX4_shareByRounds_166 : decode cX4_shareByRounds 166 = .ok (.goto (-24), 3) := by decide +kernel
theorem dX4_shareByRounds_169 : decode cX4_shareByRounds 169 = .ok (.iinc 3 1, 3) := by decide +kernel
theorem dX4_shareByRounds_172 : decode cX4_shareByRounds 172 = .ok (.goto (-111), 3) := by decide +kernel
theorem dX4_shareByRounds_175 : decode cX4_shareByRounds 175 = .ok (.aload_n 0, 1) := by decide +kernel
theorem dX4_shareByRounds_176 : decode cX4_shareByRounds 176 = .ok (.getfield 56, 3) := by decide +kernel
theorem dX4_shareByRounds_179 : decode cX4_shareByRounds 179 = .ok (.iload_n 1, 1) := by decide +kernel
theorem dX4_shareByRounds_180 : decode cX4_shareByRounds 180 = .ok (.iaload, 1) := by decide +kernel
theorem dX4_shareByRounds_181 : decode cX4_shareByRounds 181 = .ok (.ireturn, 1) := by decide +kernel
theorem dX4_groupSet_0 : decode cX4_groupSet 0 = .ok (.iconst 1, 1) := by decide +kernel
theorem dX4_groupSet_1 : decode cX4_groupSet 1 = .ok (.istore_n 1, 1) := by decide +kernel
theorem dX4_groupSet_2 : decode cX4_groupSet 2 = .ok (.iconst 0, 1) := by decide +kernel
theorem dX4_groupSet_3 : decode cX4_groupSet 3 = .ok (.istore_n 2, 1) := by decide +kernel
theorem dX4_groupSet_4 : decode cX4_groupSet 4 = .ok (.iload_n 2, 1) := by decide +kernel
theorem dX4_groupSet_5 : decode cX4_groupSet 5 = .ok (.iload_n 1, 1) := by decide +kernel
theorem dX4_groupSet_6 : decode cX4_groupSet 6 = .ok (.if_icmp .eq 82, 3) := by decide +kernel
theorem dX4_groupSet_9 : decode cX4_groupSet 9 = .ok (.iload_n 1, 1) := by decide +kernel
theorem dX4_groupSet_10 : decode cX4_groupSet 10 = .ok (.istore_n 2, 1) := by decide +kernel
theorem dX4_groupSet_11 : decode cX4_groupSet 11 = .ok (.iconst 1, 1) := by decide +kernel
theorem dX4_groupSet_12 : decode cX4_groupSet 12 = .ok (.istore_n 3, 1) := by decide +kernel
theorem dX4_groupSet_13 : decode cX4_groupSet 13 = .ok (.iload_n 3, 1) := by decide +kernel
theorem dX4_groupSet_14 : decode cX4_groupSet 14 = .ok (.bipush 6, 2) := by decide +kernel
theorem dX4_groupSet_16 : decode cX4_groupSet 16 = .ok (.if_icmp .ge 69, 3) := by decide +kernel
theorem dX4_groupSet_19 : decode cX4_groupSet 19 = .ok (.iconst 0, 1) := by decide +kernel
theorem dX4_groupSet_20 : decode cX4_groupSet 20 = .ok (.istore 4, 2) := by decide +kernel
theorem dX4_groupSet_22 : decode cX4_groupSet 22 = .ok (.iconst 0, 1) := by decide +kernel
theorem dX4_groupSet_23 : decode cX4_groupSet 23 = .ok (.istore 5, 2) := by decide +kernel
theorem dX4_groupSet_25 : decode cX4_groupSet 25 = .ok (.iload 5, 2) := by decide +kernel
theorem dX4_groupSet_27 : decode cX4_groupSet 27 = .ok (.bipush 6, 2) := by decide +kernel
theorem dX4_groupSet_29 : decode cX4_groupSet 29 = .ok (.if_icmp .ge 33, 3) := by decide +kernel
theorem dX4_groupSet_32 : decode cX4_groupSet 32 = .ok (.iload 4, 2) := by decide +kernel
theorem dX4_groupSet_34 : decode cX4_groupSet 34 = .ok (.iload_n 1, 1) := by decide +kernel
theorem dX4_groupSet_35 : decode cX4_groupSet 35 = .ok (.iload 5, 2) := by decide +kernel
theorem dX4_groupSet_37 : decode cX4_groupSet 37 = .ok (.ishr, 1) := by decide +kernel
theorem dX4_groupSet_38 : decode cX4_groupSet 38 = .ok (.iconst 1, 1) := by decide +kernel
theorem dX4_groupSet_39 : decode cX4_groupSet 39 = .ok (.iand, 1) := by decide +kernel
theorem dX4_groupSet_40 : decode cX4_groupSet 40 = .ok (.aload_n 0, 1) := by decide +kernel
theorem dX4_groupSet_41 : decode cX4_groupSet 41 = .ok (.getfield 7, 3) := by decide +kernel
theorem dX4_groupSet_44 : decode cX4_groupSet 44 = .ok (.bipush 6, 2) := by decide +kernel
theorem dX4_groupSet_46 : decode cX4_groupSet 46 = .ok (.iload 5, 2) := by decide +kernel
theorem dX4_groupSet_48 : decode cX4_groupSet 48 = .ok (.imul, 1) := by decide +kernel
theorem dX4_groupSet_49 : decode cX4_groupSet 49 = .ok (.iload_n 3, 1) := by decide +kernel
theorem dX4_groupSet_50 : decode cX4_groupSet 50 = .ok (.iadd, 1) := by decide +kernel
theorem dX4_groupSet_51 : decode cX4_groupSet 51 = .ok (.iaload, 1) := by decide +kernel
theorem dX4_groupSet_52 : decode cX4_groupSet 52 = .ok (.imul, 1) := by decide +kernel
theorem dX4_groupSet_53 : decode cX4_groupSet 53 = .ok (.iadd, 1) := by decide +kernel
theorem dX4_groupSet_54 : decode cX4_groupSet 54 = .ok (.istore 4, 2) := by decide +kernel
theorem dX4_groupSet_56 : decode cX4_groupSet 56 = .ok (.iinc 5 1, 3) := by decide +kernel
theorem dX4_groupSet_59 : decode cX4_groupSet 59 = .ok (.goto (-34), 3) := by decide +kernel
theorem dX4_groupSet_62 : decode cX4_groupSet 62 = .ok (.iload_n 1, 1) := by decide +kernel
theorem dX4_groupSet_63 : decode cX4_groupSet 63 = .ok (.iload 4, 2) := by decide +kernel
theorem dX4_groupSet_65 : decode cX4_groupSet 65 = .ok (.bipush 50, 2) := by decide +kernel
theorem dX4_groupSet_67 : decode cX4_groupSet 67 = .ok (.if_icmp .le 9, 3) := by decide +kernel
theorem dX4_groupSet_70 : decode cX4_groupSet 70 = .ok (.iconst 1, 1) := by decide +kernel
theorem dX4_groupSet_71 : decode cX4_groupSet 71 = .ok (.iload_n 3, 1) := by decide +kernel
theorem dX4_groupSet_72 : decode cX4_groupSet 72 = .ok (.ishl, 1) := by decide +kernel
theorem dX4_groupSet_73 : decode cX4_groupSet 73 = .ok (.goto 4, 3) := by decide +kernel
theorem dX4_groupSet_76 : decode cX4_groupSet 76 = .ok (.iconst 0, 1) := by decide +kernel
theorem dX4_groupSet_77 : decode cX4_groupSet 77 = .ok (.ior, 1) := by decide +kernel
theorem dX4_groupSet_78 : decode cX4_groupSet 78 = .ok (.istore_n 1, 1) := by decide +kernel
theorem dX4_groupSet_79 : decode cX4_groupSet 79 = .ok (.iinc 3 1, 3) := by decide +kernel
theorem dX4_groupSet_82 : decode cX4_groupSet 82 = .ok (.goto (-69), 3) := by decide +kernel
theorem dX4_groupSet_85 : decode cX4_groupSet 85 = .ok (.goto (-81), 3) := by decide +kernel
theorem dX4_groupSet_88 : decode cX4_groupSet 88 = .ok (.iload_n 1, 1) := by decide +kernel
theorem dX4_groupSet_89 : decode cX4_groupSet 89 = .ok (.ireturn, 1) := by decide +kernel
set_option maxRecDepth 20000 in
theorem ggX4_group_X4_groupSet : GoodIn wsX4_group wsX4_groupSet := goodIn_r _ [6, 7, 8, 9, 10, 11, 12, 13, 14, 15, 16, 17, 18, 19, 20, 21, 22, 23, 24, 25, 26] (by decide +kernel) (by decide +kernel)
set_option maxRecDepth 20000 in
theorem gX4_group_X4_groupSet : GoodIn wsX4_group (wsV RX4 114 RX4 yX4_groupSet wsX4_groupSet) := goodIn_app (goodIn_of _ (by decide +kernel)) ggX4_group_X4_groupSet
theorem dX4_group_0 : decode cX4_group 0 = .ok (.aload_n 0, 1) := by decide +kernel
theorem dX4_group_1 : decode cX4_group 1 = .ok (.iconst 0, 1) := by decide +kernel
theorem dX4_group_2 : decode cX4_group 2 = .ok (.putfield 62, 3) := by decide +kernel
theorem dX4_group_5 : decode cX4_group 5 = .ok (.aload_n 0, 1) := by decide +kernel
theorem dX4_group_6 : decode cX4_group 6 = .ok (.invokevirtual 114, 3) := by decide +kernel
theorem dX4_group_9 : decode cX4_group 9 = .ok (.ireturn, 1) := by decide +kernel
set_option maxRecDepth 20000 in
theorem ggX4_goodwill_X4_isCompany : GoodIn wsX4_goodwill wsX4_isCompany := goodIn_r _ [6, 7, 8, 5, 9] (by decide +kernel) (by decide +kernel)
set_option maxRecDepth 20000 in
theorem gX4_goodwill_X4_isCompany : GoodIn wsX4_goodwill (va_wsS RX4 70 yX4_isCompany wsX4_isCompany) := goodIn_app (goodIn_of _ (by decide +kernel)) ggX4_goodwill_X4_isCompany
set_option maxRecDepth 20000 in
theorem ggX4_goodwill_X4_fails : GoodIn wsX4_goodwill wsX4_fails := goodIn_r _ [13, 1, 14, 15, 16, 17, 18, 19, 20, 21, 22, 23, 24, 25, 26, 27, 28, 29, 30, 31, 32] (by decide +kernel) (by decide +kernel)
set_option maxRecDepth 20000 in
theorem gX4_goodwill_X4_fails : GoodIn wsX4_goodwill (wsV RX4 98 RX4 yX4_fails wsX4_fails) := goodIn_app (goodIn_of _ (by decide +kernel)) ggX4_goodwill_X4_fails
theorem dX4_goodwill_0 : decode cX4_goodwill 0 = .ok (.aload_n 0, 1) := by decide +kernel
theorem dX4_goodwill_1 : decode cX4_goodwill 1 = .ok (.iconst 0, 1) := by decide +kernel
theorem dX4_goodwill_2 : decode cX4_goodwill 2 = .ok (.putfield 62, 3) := by decide +kernel
theorem dX4_goodwill_5 : decode cX4_goodwill 5 = .ok (.iload_n 1, 1) := by decide +kernel
theorem dX4_goodwill_6 : decode cX4_goodwill 6 = .ok (.invokestatic 70, 3) := by decide +kernel
theorem dX4_goodwill_9 : decode cX4_goodwill 9 = .ok (.ifCond .eq 12, 3) := by decide +kernel
theorem dX4_goodwill_12 : decode cX4_goodwill 12 = .ok (.aload_n 0, 1) := by decide +kernel
theorem dX4_goodwill_13 : decode cX4_goodwill 13 = .ok (.getfield 19, 3) := by decide +kernel
theorem dX4_goodwill_16 : decode cX4_goodwill 16 = .ok (.iload_n 1, 1) := by decide +kernel
theorem dX4_goodwill_17 : decode cX4_goodwill 17 = .ok (.iaload, 1) := by decide +kernel
theorem dX4_goodwill_18 : decode cX4_goodwill 18 = .ok (.goto 8, 3) := by decide +kernel
theorem dX4_goodwill_21 : decode cX4_goodwill 21 = .ok (.aload_n 0, 1) := by decide +kernel
theorem dX4_goodwill_22 : decode cX4_goodwill 22 = .ok (.iconst 1, 1) := by decide +kernel
theorem dX4_goodwill_23 : decode cX4_goodwill 23 = .ok (.invokevirtual 98, 3) := by decide +kernel
theorem dX4_goodwill_26 : decode cX4_goodwill 26 = .ok (.ireturn, 1) := by decide +kernel
set_option maxRecDepth 20000 in
theorem ggX4_setBooks_X4_isCompany : GoodIn wsX4_setBooks wsX4_isCompany := goodIn_r _ [11, 12, 13, 10, 14] (by decide +kernel) (by decide +kernel)
set_option maxRecDepth 20000 in
theorem gX4_setBooks_X4_isCompany : GoodIn wsX4_setBooks (va_wsS RX4 70 yX4_isCompany wsX4_isCompany) := goodIn_app (goodIn_of _ (by decide +kernel)) ggX4_setBooks_X4_isCompany
set_option maxRecDepth 20000 in
theorem ggX4_setBooks_X4_in : GoodIn wsX4_setBooks wsX4_in := goodIn_r _ [14] (by decide +kernel) (by decide +kernel)
set_option maxRecDepth 20000 in
theorem gX4_setBooks_X4_in : GoodIn wsX4_setBooks (va_wsS RX4 66 yX4_in wsX4_in) := goodIn_app (goodIn_of _ (by decide +kernel)) ggX4_setBooks_X4_in
theorem dX4_setBooks_0 : decode cX4_setBooks 0 = .ok (.iload_n 1, 1) := by decide +kernel
theorem dX4_setBooks_1 : decode cX4_setBooks 1 = .ok (.invokestatic 70, 3) := by decide +kernel
theorem dX4_setBooks_4 : decode cX4_setBooks 4 = .ok (.ifCond .eq 62, 3) := by decide +kernel
theorem dX4_setBooks_7 : decode cX4_setBooks 7 = .ok (.iload_n 2, 1) := by decide +kernel
theorem dX4_setBooks_8 : decode cX4_setBooks 8 = .ok (.iconst 0, 1) := by decide +kernel
theorem dX4_setBooks_9 : decode cX4_setBooks 9 = .ok (.ldc 105, 2) := by decide +kernel
theorem dX4_setBooks_11 : decode cX4_setBooks 11 = .ok (.invokestatic 66, 3) := by decide +kernel
theorem dX4_setBooks_14 : decode cX4_setBooks 14 = .ok (.ifCond .eq 52, 3) := by decide +kernel
theorem dX4_setBooks_17 : decode cX4_setBooks 17 = .ok (.iload_n 3, 1) := by decide +kernel
theorem dX4_setBooks_18 : decode cX4_setBooks 18 = .ok (.iconst 0, 1) := by decide +kernel
theorem dX4_setBooks_19 : decode cX4_setBooks 19 = .ok (.ldc 105, 2) := by decide +kernel
theorem dX4_setBooks_21 : decode cX4_setBooks 21 = .ok (.invokestatic 66, 3) := by decide +kernel
theorem dX4_setBooks_24 : decode cX4_setBooks 24 = .ok (.ifCond .eq 42, 3) := by decide +kernel
theorem dX4_setBooks_27 : decode cX4_setBooks 27 = .ok (.iload 4, 2) := by decide +kernel
theorem dX4_setBooks_29 : decode cX4_setBooks 29 = .ok (.ldc 118, 2) := by decide +kernel
theorem dX4_setBooks_31 : decode cX4_setBooks 31 = .ok (.ldc 105, 2) := by decide +kernel
theorem dX4_setBooks_33 : decode cX4_setBooks 33 = .ok (.invokestatic 66, 3) := by decide +kernel
theorem dX4_setBooks_36 : decode cX4_setBooks 36 = .ok (.ifCond .eq 30, 3) := by decide +kernel
theorem dX4_setBooks_39 : decode cX4_setBooks 39 = .ok (.iload 5, 2) := by decide +kernel
theorem dX4_setBooks_41 : decode cX4_setBooks 41 = .ok (.ldc 118, 2) := by decide +kernel
theorem dX4_setBooks_43 : decode cX4_setBooks 43 = .ok (.ldc 105, 2) := by decide +kernel
theorem dX4_setBooks_45 : decode cX4_setBooks 45 = .ok (.invokestatic 66, 3) := by decide +kernel
theorem dX4_setBooks_48 : decode cX4_setBooks 48 = .ok (.ifCond .eq 18, 3) := by decide +kernel
theorem dX4_setBooks_51 : decode cX4_setBooks 51 = .ok (.iload_n 2, 1) := by decide +kernel
theorem dX4_setBooks_52 : decode cX4_setBooks 52 = .ok (.iload_n 3, 1) := by decide +kernel
theorem dX4_setBooks_53 : decode cX4_setBooks 53 = .ok (.iload 4, 2) := by decide +kernel
theorem dX4_setBooks_55 : decode cX4_setBooks 55 = .ok (.iadd, 1) := by decide +kernel
theorem dX4_setBooks_56 : decode cX4_setBooks 56 = .ok (.iload 5, 2) := by decide +kernel
theorem dX4_setBooks_58 : decode cX4_setBooks 58 = .ok (.iadd, 1) := by decide +kernel
theorem dX4_setBooks_59 : decode cX4_setBooks 59 = .ok (.if_icmp .ne 7, 3) := by decide +kernel
theorem dX4_setBooks_62 : decode cX4_setBooks 62 = .ok (.iconst 1, 1) := by decide +kernel
theorem dX4_setBooks_63 : decode cX4_setBooks 63 = .ok (.goto 4, 3) := by decide +kernel
theorem dX4_setBooks_66 : decode cX4_setBooks 66 = .ok (.iconst 0, 1) := by decide +kernel
theorem dX4_setBooks_67 : decode cX4_setBooks 67 = .ok (.istore 6, 2) := by decide +kernel
theorem dX4_setBooks_69 : decode cX4_setBooks 69 = .ok (.aload_n 0, 1) := by decide +kernel
theorem dX4_setBooks_70 : decode cX4_setBooks 70 = .ok (.iload 6, 2) := by decide +kernel
theorem dX4_setBooks_72 : decode cX4_setBooks 72 = .ok (.ifCond .eq 7, 3) := by decide +kernel
theorem dX4_setBooks_75 : decode cX4_setBooks 75 = .ok (.iconst 0, 1) := by decide +kernel
theorem dX4_setBooks_76 : decode cX4_setBooks 76 = .ok (.goto 4, 3) := by decide +kernel
theorem dX4_setBooks_79 : decode cX4_setBooks 79 = .ok (.iconst 1, 1) := by decide +kernel
theorem dX4_setBooks_80 : decode cX4_setBooks 80 = .ok (.putfield 62, 3) := by decide +kernel
theorem dX4_setBooks_83 : decode cX4_setBooks 83 = .ok (.iload 6, 2) := by decide +kernel
theorem dX4_setBooks_85 : decode cX4_setBooks 85 = .ok (.ifCond .eq 33, 3) := by decide +kernel
theorem dX4_setBooks_88 : decode cX4_setBooks 88 = .ok (.aload_n 0, 1) := by decide +kernel
theorem dX4_setBooks_89 : decode cX4_setBooks 89 = .ok (.getfield 22, 3) := by decide +kernel
theorem dX4_setBooks_92 : decode cX4_setBooks 92 = .ok (.iload_n 1, 1) := by decide +kernel
theorem dX4_setBooks_93 : decode cX4_setBooks 93 = .ok (.iload_n 2, 1) := by decide +kernel
theorem dX4_setBooks_94 : decode cX4_setBooks 94 = .ok (.iastore, 1) := by decide +kernel
theorem dX4_setBooks_95 : decode cX4_setBooks 95 = .ok (.aload_n 0, 1) := by decide +kernel
theorem dX4_setBooks_96 : decode cX4_setBooks 96 = .ok (.getfield 25, 3) := by decide +kernel
theorem dX4_setBooks_99 : decode cX4_setBooks 99 = .ok (.iload_n 1, 1) := by decide +kernel
theorem dX4_setBooks_100 : decode cX4_setBooks 100 = .ok (.iload_n 3, 1) := by decide +kernel
theorem dX4_setBooks_101 : decode cX4_setBooks 101 = .ok (.iastore, 1) := by decide +kernel
theorem dX4_setBooks_102 : decode cX4_setBooks 102 = .ok (.aload_n 0, 1) := by decide +kernel
theorem dX4_setBooks_103 : decode cX4_setBooks 103 = .ok (.getfield 28, 3) := by decide +kernel
theorem dX4_setBooks_106 : decode cX4_setBooks 106 = .ok (.iload_n 1, 1) := by decide +kernel
theorem dX4_setBooks_107 : decode cX4_setBooks 107 = .ok (.iload 4, 2) := by decide +kernel
theorem dX4_setBooks_109 : decode cX4_setBooks 109 = .ok (.iastore, 1) := by decide +kernel
theorem dX4_setBooks_110 : decode cX4_setBooks 110 = .ok (.aload_n 0, 1) := by decide +kernel
theorem dX4_setBooks_111 : decode cX4_setBooks 111 = .ok (.getfield 31, 3) := by decide +kernel
theorem dX4_setBooks_114 : decode cX4_setBooks 114 = .ok (.iload_n 1, 1) := by decide +kernel
theorem dX4_setBooks_115 : decode cX4_setBooks 115 = .ok (.iload 5, 2) := by decide +kernel
theorem dX4_setBooks_117 : decode cX4_setBooks 117 = .ok (.iastore, 1) := by decide +kernel
theorem dX4_setBooks_118 : decode cX4_setBooks 118 = .ok (.return_, 1) := by decide +kernel
set_option maxRecDepth 20000 in
theorem ggX4_setRates_X4_isCompany : GoodIn wsX4_setRates wsX4_isCompany := goodIn_r _ [8, 9, 10, 7, 11] (by decide +kernel) (by decide +kernel)
set_option maxRecDepth 20000 in
theorem gX4_setRates_X4_isCompany : GoodIn wsX4_setRates (va_wsS RX4 70 yX4_isCompany wsX4_isCompany) := goodIn_app (goodIn_of _ (by decide +kernel)) ggX4_setRates_X4_isCompany
set_option maxRecDepth 20000 in
theorem ggX4_setRates_X4_in : GoodIn wsX4_setRates wsX4_in := goodIn_r _ [11] (by decide +kernel) (by decide +kernel)
set_option maxRecDepth 20000 in
theorem gX4_setRates_X4_in : GoodIn wsX4_setRates (va_wsS RX4 66 yX4_in wsX4_in) := goodIn_app (goodIn_of _ (by decide +kernel)) ggX4_setRates_X4_in
theorem dX4_setRates_0 : decode cX4_setRates 0 = .ok (.iload_n 1, 1) := by decide +kernel
theorem dX4_setRates_1 : decode cX4_setRates 1 = .ok (.invokestatic 70, 3) := by decide +kernel
theorem dX4_setRates_4 : decode cX4_setRates 4 = .ok (.ifCond .eq 41, 3) := by decide +kernel
theorem dX4_setRates_7 : decode cX4_setRates 7 = .ok (.iload_n 2, 1) := by decide +kernel
theorem dX4_setRates_8 : decode cX4_setRates 8 = .ok (.iconst 1, 1) := by decide +kernel
theorem dX4_setRates_9 : decode cX4_setRates 9 = .ok (.sipush 1000, 3) := by decide +kernel
theorem dX4_setRates_12 : decode cX4_setRates 12 = .ok (.invokestatic 66, 3) := by decide +kernel
theorem dX4_setRates_15 : decode cX4_setRates 15 = .ok (.ifCond .eq 30, 3) := by decide +kernel
theorem dX4_setRates_18 : decode cX4_setRates 18 = .ok (.iload_n 3, 1) := by decide +kernel
theorem dX4_setRates_19 : decode cX4_setRates 19 = .ok (.iconst 1, 1) := by decide +kernel
theorem dX4_setRates_20 : decode cX4_setRates 20 = .ok (.sipush 1000, 3) := by decide +kernel
theorem dX4_setRates_23 : decode cX4_setRates 23 = .ok (.invokestatic 66, 3) := by decide +kernel
theorem dX4_setRates_26 : decode cX4_setRates 26 = .ok (.ifCond .eq 19, 3) := by decide +kernel
theorem dX4_setRates_29 : decode cX4_setRates 29 = .ok (.iload 4, 2) := by decide +kernel
theorem dX4_setRates_31 : decode cX4_setRates 31 = .ok (.iconst 1, 1) := by decide +kernel
theorem dX4_setRates_32 : decode cX4_setRates 32 = .ok (.sipush 1000, 3) := by decide +kernel
theorem dX4_setRates_35 : decode cX4_setRates 35 = .ok (.invokestatic 66, 3) := by decide +kernel
theorem dX4_setRates_38 : decode cX4_setRates 38 = .ok (.ifCond .eq 7, 3) := by decide +kernel
theorem dX4_setRates_41 : decode cX4_setRates 41 = .ok (.iconst 1, 1) := by decide +kernel
theorem dX4_setRates_42 : decode cX4_setRates 42 = .ok (.goto 4, 3) := by decide +kernel
theorem dX4_setRates_45 : decode cX4_setRates 45 = .ok (.iconst 0, 1) := by decide +kernel
theorem dX4_setRates_46 : decode cX4_setRates 46 = .ok (.istore 5, 2) := by decide +kernel
theorem dX4_setRates_48 : decode cX4_setRates 48 = .ok (.aload_n 0, 1) := by decide +kernel
theorem dX4_setRates_49 : decode cX4_setRates 49 = .ok (.iload 5, 2) := by decide +kernel
theorem dX4_setRates_51 : decode cX4_setRates 51 = .ok (.ifCond .eq 7, 3) := by decide +kernel
theorem dX4_setRates_54 : decode cX4_setRates 54 = .ok (.iconst 0, 1) := by decide +kernel
theorem dX4_setRates_55 : decode cX4_setRates 55 = .ok (.goto 4, 3) := by decide +kernel
theorem dX4_setRates_58 : decode cX4_setRates 58 = .ok (.iconst 1, 1) := by decide +kernel
theorem dX4_setRates_59 : decode cX4_setRates 59 = .ok (.putfield 62, 3) := by decide +kernel
theorem dX4_setRates_62 : decode cX4_setRates 62 = .ok (.iload 5, 2) := by decide +kernel
theorem dX4_setRates_64 : decode cX4_setRates 64 = .ok (.ifCond .eq 25, 3) := by decide +kernel
theorem dX4_setRates_67 : decode cX4_setRates 67 = .ok (.aload_n 0, 1) := by decide +kernel
theorem dX4_setRates_68 : decode cX4_setRates 68 = .ok (.getfield 34, 3) := by decide +kernel
theorem dX4_setRates_71 : decode cX4_setRates 71 = .ok (.iload_n 1, 1) := by decide +kernel
theorem dX4_setRates_72 : decode cX4_setRates 72 = .ok (.iload_n 2, 1) := by decide +kernel
theorem dX4_setRates_73 : decode cX4_setRates 73 = .ok (.iastore, 1) := by decide +kernel
theorem dX4_setRates_74 : decode cX4_setRates 74 = .ok (.aload_n 0, 1) := by decide +kernel
theorem dX4_setRates_75 : decode cX4_setRates 75 = .ok (.getfield 37, 3) := by decide +kernel
theorem dX4_setRates_78 : decode cX4_setRates 78 = .ok (.iload_n 1, 1) := by decide +kernel
theorem dX4_setRates_79 : decode cX4_setRates 79 = .ok (.iload_n 3, 1) := by decide +kernel
theorem dX4_setRates_80 : decode cX4_setRates 80 = .ok (.iastore, 1) := by decide +kernel
theorem dX4_setRates_81 : decode cX4_setRates 81 = .ok (.aload_n 0, 1) := by decide +kernel
theorem dX4_setRates_82 : decode cX4_setRates 82 = .ok (.getfield 40, 3) := by decide +kernel
theorem dX4_setRates_85 : decode cX4_setRates 85 = .ok (.iload_n 1, 1) := by decide +kernel
theorem dX4_setRates_86 : decode cX4_setRates 86 = .ok (.iload 4, 2) := by decide +kernel
theorem dX4_setRates_88 : decode cX4_setRates 88 = .ok (.iastore, 1) := by decide +kernel
theorem dX4_setRates_89 : decode cX4_setRates 89 = .ok (.return_, 1) := by decide +kernel
set_option maxRecDepth 20000 in
theorem ggX4_translated_X4_floor : GoodIn wsX4_translated wsX4_floor := goodIn_r _ [5] (by decide +kernel) (by decide +kernel)
set_option maxRecDepth 20000 in
theorem gX4_translated_X4_floor : GoodIn wsX4_translated (va_wsS RX4 111 yX4_floor wsX4_floor) := goodIn_app (goodIn_of _ (by decide +kernel)) ggX4_translated_X4_floor
theorem dX4_translated_0 : decode cX4_translated 0 = .ok (.iload_n 0, 1) := by decide +kernel
theorem dX4_translated_1 : decode cX4_translated 1 = .ok (.i2l, 1) := by decide +kernel
theorem dX4_translated_2 : decode cX4_translated 2 = .ok (.iload_n 1, 1) := by decide +kernel
theorem dX4_translated_3 : decode cX4_translated 3 = .ok (.i2l, 1) := by decide +kernel
theorem dX4_translated_4 : decode cX4_translated 4 = .ok (.lmul, 1) := by decide +kernel
theorem dX4_translated_5 : decode cX4_translated 5 = .ok (.ldc2_w 109, 3) := by decide +kernel
theorem dX4_translated_8 : decode cX4_translated 8 = .ok (.invokestatic 111, 3) := by decide +kernel
theorem dX4_translated_11 : decode cX4_translated 11 = .ok (.l2i, 1) := by decide +kernel
theorem dX4_translated_12 : decode cX4_translated 12 = .ok (.ireturn, 1) := by decide +kernel
set_option maxRecDepth 20000 in
theorem ggX4_net_X4_translated : GoodIn wsX4_net wsX4_translated := goodIn_r _ [7, 8, 9, 10, 6, 11] (by decide +kernel) (by decide +kernel)
set_option maxRecDepth 20000 in
theorem gX4_net_X4_translated : GoodIn wsX4_net (va_wsS RX4 119 yX4_translated wsX4_translated) := goodIn_app (goodIn_of _ (by decide +kernel)) ggX4_net_X4_translated
theorem dX4_net_0 : decode cX4_net 0 = .ok (.aload_n 0, 1) := by decide +kernel
theorem dX4_net_1 : decode cX4_net 1 = .ok (.getfield 22, 3) := by decide +kernel
theorem dX4_net_4 : decode cX4_net 4 = .ok (.iload_n 1, 1) := by decide +kernel
theorem dX4_net_5 : decode cX4_net 5 = .ok (.iaload, 1) := by decide +kernel
theorem dX4_net_6 : decode cX4_net 6 = .ok (.aload_n 0, 1) := by decide +kernel
theorem dX4_net_7 : decode cX4_net 7 = .ok (.getfield 34, 3) := by decide +kernel
theorem dX4_net_10 : decode cX4_net 10 = .ok (.iload_n 1, 1) := by decide +kernel
theorem dX4_net_11 : decode cX4_net 11 = .ok (.iaload, 1) := by decide +kernel
theorem dX4_net_12 : decode cX4_net 12 = .ok (.invokestatic 119, 3) := by decide +kernel
theorem dX4_net_15 : decode cX4_net 15 = .ok (.aload_n 0, 1) := by decide +kernel
theorem dX4_net_16 : decode cX4_net 16 = .ok (.getfield 25, 3) := by decide +kernel
theorem dX4_net_19 : decode cX4_net 19 = .ok (.iload_n 1, 1) := by decide +kernel
theorem dX4_net_20 : decode cX4_net 20 = .ok (.iaload, 1) := by decide +kernel
theorem dX4_net_21 : decode cX4_net 21 = .ok (.aload_n 0, 1) := by decide +kernel
theorem dX4_net_22 : decode cX4_net 22 = .ok (.getfield 34, 3) := by decide +kernel
theorem dX4_net_25 : decode cX4_net 25 = .ok (.iload_n 1, 1) := by decide +kernel
theorem dX4_net_26 : decode cX4_net 26 = .ok (.iaload, 1) := by decide +kernel
theorem dX4_net_27 : decode cX4_net 27 = .ok (.invokestatic 119, 3) := by decide +kernel
theorem dX4_net_30 : decode cX4_net 30 = .ok (.isub, 1) := by decide +kernel
theorem dX4_net_31 : decode cX4_net 31 = .ok (.ireturn, 1) := by decide +kernel
set_option maxRecDepth 20000 in
theorem ggX4_netValue_X4_isCompany : GoodIn wsX4_netValue wsX4_isCompany := goodIn_r _ [5, 6, 7, 4, 8] (by decide +kernel) (by decide +kernel)
set_option maxRecDepth 20000 in
theorem gX4_netValue_X4_isCompany : GoodIn wsX4_netValue (va_wsS RX4 70 yX4_isCompany wsX4_isCompany) := goodIn_app (goodIn_of _ (by decide +kernel)) ggX4_netValue_X4_isCompany
set_option maxRecDepth 20000 in
theorem ggX4_netValue_X4_net : GoodIn wsX4_netValue wsX4_net := goodIn_r _ [12, 13, 14, 15, 16, 17, 4, 18, 19, 20, 21, 22, 27, 28, 29, 30, 31, 32, 33, 34, 35, 36, 37, 38, 39, 40, 41, 42, 43, 44, 45] (by decide +kernel) (by decide +kernel)
set_option maxRecDepth 20000 in
theorem gX4_netValue_X4_net : GoodIn wsX4_netValue (wsV RX4 106 RX4 yX4_net wsX4_net) := goodIn_app (goodIn_of _ (by decide +kernel)) ggX4_netValue_X4_net
set_option maxRecDepth 20000 in
theorem ggX4_netValue_X4_fails : GoodIn wsX4_netValue wsX4_fails := goodIn_r _ [26, 1, 27, 28, 29, 30, 31, 32, 33, 34, 35, 36, 37, 38, 39, 40, 41, 42, 43, 44, 45] (by decide +kernel) (by decide +kernel)
set_option maxRecDepth 20000 in
theorem gX4_netValue_X4_fails : GoodIn wsX4_netValue (wsV RX4 98 RX4 yX4_fails wsX4_fails) := goodIn_app (goodIn_of _ (by decide +kernel)) ggX4_netValue_X4_fails
theorem dX4_netValue_0 : decode cX4_netValue 0 = .ok (.aload_n 0, 1) := by decide +kernel
theorem dX4_netValue_1 : decode cX4_netValue 1 = .ok (.iconst 0, 1) := by decide +kernel
theorem dX4_netValue_2 : decode cX4_netValue 2 = .ok (.putfield 62, 3) := by decide +kernel
theorem dX4_netValue_5 : decode cX4_netValue 5 = .ok (.iload_n 1, 1) := by decide +kernel
theorem dX4_netValue_6 : decode cX4_netValue 6 = .ok (.invokestatic 70, 3) := by decide +kernel
theorem dX4_netValue_9 : decode cX4_netValue 9 = .ok (.ifCond .eq 11, 3) := by decide +kernel
theorem dX4_netValue_12 : decode cX4_netValue 12 = .ok (.aload_n 0, 1) := by decide +kernel
theorem dX4_netValue_13 : decode cX4_netValue 13 = .ok (.iload_n 1, 1) := by decide +kernel
theorem dX4_netValue_14 : decode cX4_netValue 14 = .ok (.invokevirtual 106, 3) := by decide +kernel
theorem dX4_netValue_17 : decode cX4_netValue 17 = .ok (.goto 8, 3) := by decide +kernel
theorem dX4_netValue_20 : decode cX4_netValue 20 = .ok (.aload_n 0, 1) := by decide +kernel
theorem dX4_netValue_21 : decode cX4_netValue 21 = .ok (.iconst 1, 1) := by decide +kernel
theorem dX4_netValue_22 : decode cX4_netValue 22 = .ok (.invokevirtual 98, 3) := by decide +kernel
theorem dX4_netValue_25 : decode cX4_netValue 25 = .ok (.ireturn, 1) := by decide +kernel
set_option maxRecDepth 20000 in
theorem ggX4_translatedEquity_X4_isCompany : GoodIn wsX4_translatedEquity wsX4_isCompany := goodIn_r _ [7, 8, 9, 6, 10] (by decide +kernel) (by decide +kernel)
set_option maxRecDepth 20000 in
theorem gX4_translatedEquity_X4_isCompany : GoodIn wsX4_translatedEquity (va_wsS RX4 70 yX4_isCompany wsX4_isCompany) := goodIn_app (goodIn_of _ (by decide +kernel)) ggX4_translatedEquity_X4_isCompany
set_option maxRecDepth 20000 in
theorem ggX4_translatedEquity_X4_translated : GoodIn wsX4_translatedEquity wsX4_translated := goodIn_r _ [13, 14, 15, 16, 6, 17] (by decide +kernel) (by decide +kernel)
set_option maxRecDepth 20000 in
theorem gX4_translatedEquity_X4_translated : GoodIn wsX4_translatedEquity (va_wsS RX4 119 yX4_translated wsX4_translated) := goodIn_app (goodIn_of _ (by decide +kernel)) ggX4_translatedEquity_X4_translated
set_option maxRecDepth 20000 in
theorem ggX4_translatedEquity_X4_fails : GoodIn wsX4_translatedEquity wsX4_fails := goodIn_r _ [21, 1, 22, 23, 24, 25, 26, 27, 28, 29, 30, 31, 32, 33, 34, 35, 36, 37, 38, 39, 40] (by decide +kernel) (by decide +kernel)
set_option maxRecDepth 20000 in
theorem gX4_translatedEquity_X4_fails : GoodIn wsX4_translatedEquity (wsV RX4 98 RX4 yX4_fails wsX4_fails) := goodIn_app (goodIn_of _ (by decide +kernel)) ggX4_translatedEquity_X4_fails
theorem dX4_translatedEquity_0 : decode cX4_translatedEquity 0 = .ok (.aload_n 0, 1) := by decide +kernel
theorem dX4_translatedEquity_1 : decode cX4_translatedEquity 1 = .ok (.iconst 0, 1) := by decide +kernel
theorem dX4_translatedEquity_2 : decode cX4_translatedEquity 2 = .ok (.putfield 62, 3) := by decide +kernel
theorem dX4_translatedEquity_5 : decode cX4_translatedEquity 5 = .ok (.iload_n 1, 1) := by decide +kernel
theorem dX4_translatedEquity_6 : decode cX4_translatedEquity 6 = .ok (.invokestatic 70, 3) := by decide +kernel
theorem dX4_translatedEquity_9 : decode cX4_translatedEquity 9 = .ok (.ifCond .eq 21, 3) := by decide +kernel
theorem dX4_translatedEquity_12 : decode cX4_translatedEquity 12 = .ok (.aload_n 0, 1) := by decide +kernel
theorem dX4_translatedEquity_13 : decode cX4_translatedEquity 13 = .ok (.getfield 28, 3) := by decide +kernel
theorem dX4_translatedEquity_16 : decode cX4_translatedEquity 16 = .ok (.iload_n 1, 1) := by decide +kernel
theorem dX4_translatedEquity_17 : decode cX4_translatedEquity 17 = .ok (.iaload, 1) := by decide +kernel
theorem dX4_translatedEquity_18 : decode cX4_translatedEquity 18 = .ok (.aload_n 0, 1) := by decide +kernel
theorem dX4_translatedEquity_19 : decode cX4_translatedEquity 19 = .ok (.getfield 40, 3) := by decide +kernel
theorem dX4_translatedEquity_22 : decode cX4_translatedEquity 22 = .ok (.iload_n 1, 1) := by decide +kernel
theorem dX4_translatedEquity_23 : decode cX4_translatedEquity 23 = .ok (.iaload, 1) := by decide +kernel
theorem dX4_translatedEquity_24 : decode cX4_translatedEquity 24 = .ok (.invokestatic 119, 3) := by decide +kernel
theorem dX4_translatedEquity_27 : decode cX4_translatedEquity 27 = .ok (.goto 8, 3) := by decide +kernel
theorem dX4_translatedEquity_30 : decode cX4_translatedEquity 30 = .ok (.aload_n 0, 1) := by decide +kernel
theorem dX4_translatedEquity_31 : decode cX4_translatedEquity 31 = .ok (.iconst 1, 1) := by decide +kernel
theorem dX4_translatedEquity_32 : decode cX4_translatedEquity 32 = .ok (.invokevirtual 98, 3) := by decide +kernel
theorem dX4_translatedEquity_35 : decode cX4_translatedEquity 35 = .ok (.ireturn, 1) := by decide +kernel
set_option maxRecDepth 20000 in
theorem ggX4_translatedResult_X4_isCompany : GoodIn wsX4_translatedResult wsX4_isCompany := goodIn_r _ [7, 8, 9, 6, 10] (by decide +kernel) (by decide +kernel)
set_option maxRecDepth 20000 in
theorem gX4_translatedResult_X4_isCompany : GoodIn wsX4_translatedResult (va_wsS RX4 70 yX4_isCompany wsX4_isCompany) := goodIn_app (goodIn_of _ (by decide +kernel)) ggX4_translatedResult_X4_isCompany
set_option maxRecDepth 20000 in
theorem ggX4_translatedResult_X4_translated : GoodIn wsX4_translatedResult wsX4_translated := goodIn_r _ [13, 14, 15, 16, 6, 17] (by decide +kernel) (by decide +kernel)
set_option maxRecDepth 20000 in
theorem gX4_translatedResult_X4_translated : GoodIn wsX4_translatedResult (va_wsS RX4 119 yX4_translated wsX4_translated) := goodIn_app (goodIn_of _ (by decide +kernel)) ggX4_translatedResult_X4_translated
set_option maxRecDepth 20000 in
theorem ggX4_translatedResult_X4_fails : GoodIn wsX4_translatedResult wsX4_fails := goodIn_r _ [21, 1, 22, 23, 24, 25, 26, 27, 28, 29, 30, 31, 32, 33, 34, 35, 36, 37, 38, 39, 40] (by decide +kernel) (by decide +kernel)
set_option maxRecDepth 20000 in
theorem gX4_translatedResult_X4_fails : GoodIn wsX4_translatedResult (wsV RX4 98 RX4 yX4_fails wsX4_fails) := goodIn_app (goodIn_of _ (by decide +kernel)) ggX4_translatedResult_X4_fails
theorem dX4_translatedResult_0 : decode cX4_translatedResult 0 = .ok (.aload_n 0, 1) := by decide +kernel
theorem dX4_translatedResult_1 : decode cX4_translatedResult 1 = .ok (.iconst 0, 1) := by decide +kernel
theorem dX4_translatedResult_2 : decode cX4_translatedResult 2 = .ok (.putfield 62, 3) := by decide +kernel
theorem dX4_translatedResult_5 : decode cX4_translatedResult 5 = .ok (.iload_n 1, 1) := by decide +kernel
theorem dX4_translatedResult_6 : decode cX4_translatedResult 6 = .ok (.invokestatic 70, 3) := by decide +kernel
theorem dX4_translatedResult_9 : decode cX4_translatedResult 9 = .ok (.ifCond .eq 21, 3) := by decide +kernel
theorem dX4_translatedResult_12 : decode cX4_translatedResult 12 = .ok (.aload_n 0, 1) := by decide +kernel
theorem dX4_translatedResult_13 : decode cX4_translatedResult 13 = .ok (.getfield 31, 3) := by decide +kernel
theorem dX4_translatedResult_16 : decode cX4_translatedResult 16 = .ok (.iload_n 1, 1) := by decide +kernel
theorem dX4_translatedResult_17 : decode cX4_translatedResult 17 = .ok (.iaload, 1) := by decide +kernel
theorem dX4_translatedResult_18 : decode cX4_translatedResult 18 = .ok (.aload_n 0, 1) := by decide +kernel
theorem dX4_translatedResult_19 : decode cX4_translatedResult 19 = .ok (.getfield 37, 3) := by decide +kernel
theorem dX4_translatedResult_22 : decode cX4_translatedResult 22 = .ok (.iload_n 1, 1) := by decide +kernel
theorem dX4_translatedResult_23 : decode cX4_translatedResult 23 = .ok (.iaload, 1) := by decide +kernel
theorem dX4_translatedResult_24 : decode cX4_translatedResult 24 = .ok (.invokestatic 119, 3) := by decide +kernel
theorem dX4_translatedResult_27 : decode cX4_translatedResult 27 = .ok (.goto 8, 3) := by decide +kernel
theorem dX4_translatedResult_30 : decode cX4_translatedResult 30 = .ok (.aload_n 0, 1) := by decide +kernel
theorem dX4_translatedResult_31 : decode cX4_translatedResult 31 = .ok (.iconst 1, 1) := by decide +kernel
theorem dX4_translatedResult_32 : decode cX4_translatedResult 32 = .ok (.invokevirtual 98, 3) := by decide +kernel
theorem dX4_translatedResult_35 : decode cX4_translatedResult 35 = .ok (.ireturn, 1) := by decide +kernel
set_option maxRecDepth 20000 in
theorem ggX4_reserve_X4_isCompany : GoodIn wsX4_reserve wsX4_isCompany := goodIn_r _ [9, 10, 11, 8, 12] (by decide +kernel) (by decide +kernel)
set_option maxRecDepth 20000 in
theorem gX4_reserve_X4_isCompany : GoodIn wsX4_reserve (va_wsS RX4 70 yX4_isCompany wsX4_isCompany) := goodIn_app (goodIn_of _ (by decide +kernel)) ggX4_reserve_X4_isCompany
set_option maxRecDepth 20000 in
theorem ggX4_reserve_X4_net : GoodIn wsX4_reserve wsX4_net := goodIn_r _ [16, 17, 18, 19, 20, 21, 8, 22, 23, 24, 25, 26, 31, 32, 33, 34, 35, 36, 37, 38, 39, 40, 41, 42, 43, 44, 45, 46, 47, 48, 49] (by decide +kernel) (by decide +kernel)
set_option maxRecDepth 20000 in
theorem gX4_reserve_X4_net : GoodIn wsX4_reserve (wsV RX4 106 RX4 yX4_net wsX4_net) := goodIn_app (goodIn_of _ (by decide +kernel)) ggX4_reserve_X4_net
set_option maxRecDepth 20000 in
theorem ggX4_reserve_X4_translated : GoodIn wsX4_reserve wsX4_translated := goodIn_r _ [22, 23, 24, 25, 8, 26] (by decide +kernel) (by decide +kernel)
set_option maxRecDepth 20000 in
theorem gX4_reserve_X4_translated : GoodIn wsX4_reserve (va_wsS RX4 119 yX4_translated wsX4_translated) := goodIn_app (goodIn_of _ (by decide +kernel)) ggX4_reserve_X4_translated
set_option maxRecDepth 20000 in
theorem ggX4_reserve_X4_fails : GoodIn wsX4_reserve wsX4_fails := goodIn_r _ [30, 1, 31, 32, 33, 34, 35, 36, 37, 38, 39, 40, 41, 42, 43, 44, 45, 46, 47, 48, 49] (by decide +kernel) (by decide +kernel)
set_option maxRecDepth 20000 in
theorem gX4_reserve_X4_fails : GoodIn wsX4_reserve (wsV RX4 98 RX4 yX4_fails wsX4_fails) := goodIn_app (goodIn_of _ (by decide +kernel)) ggX4_reserve_X4_fails
theorem dX4_reserve_0 : decode cX4_reserve 0 = .ok (.aload_n 0, 1) := by decide +kernel
theorem dX4_reserve_1 : decode cX4_reserve 1 = .ok (.iconst 0, 1) := by decide +kernel
theorem dX4_reserve_2 : decode cX4_reserve 2 = .ok (.putfield 62, 3) := by decide +kernel
theorem dX4_reserve_5 : decode cX4_reserve 5 = .ok (.iload_n 1, 1) := by decide +kernel
theorem dX4_reserve_6 : decode cX4_reserve 6 = .ok (.invokestatic 70, 3) := by decide +kernel
theorem dX4_reserve_9 : decode cX4_reserve 9 = .ok (.ifCond .eq 43, 3) := by decide +kernel
theorem dX4_reserve_12 : decode cX4_reserve 12 = .ok (.aload_n 0, 1) := by decide +kernel
theorem dX4_reserve_13 : decode cX4_reserve 13 = .ok (.iload_n 1, 1) := by decide +kernel
theorem dX4_reserve_14 : decode cX4_reserve 14 = .ok (.invokevirtual 106, 3) := by decide +kernel
theorem dX4_reserve_17 : decode cX4_reserve 17 = .ok (.aload_n 0, 1) := by decide +kernel
theorem dX4_reserve_18 : decode cX4_reserve 18 = .ok (.getfield 28, 3) := by decide +kernel
theorem dX4_reserve_21 : decode cX4_reserve 21 = .ok (.iload_n 1, 1) := by decide +kernel
theorem dX4_reserve_22 : decode cX4_reserve 22 = .ok (.iaload, 1) := by decide +kernel
theorem dX4_reserve_23 : decode cX4_reserve 23 = .ok (.aload_n 0, 1) := by decide +kernel
theorem dX4_reserve_24 : decode cX4_reserve 24 = .ok (.getfield 40, 3) := by decide +kernel
theorem dX4_reserve_27 : decode cX4_reserve 27 = .ok (.iload_n 1, 1) := by decide +kernel
theorem dX4_reserve_28 : decode cX4_reserve 28 = .ok (.iaload, 1) := by decide +kernel
theorem dX4_reserve_29 : decode cX4_reserve 29 = .ok (.invokestatic 119, 3) := by decide +kernel
theorem dX4_reserve_32 : decode cX4_reserve 32 = .ok (.isub, 1) := by decide +kernel
theorem dX4_reserve_33 : decode cX4_reserve 33 = .ok (.aload_n 0, 1) := by decide +kernel
theorem dX4_reserve_34 : decode cX4_reserve 34 = .ok (.getfield 31, 3) := by decide +kernel
theorem dX4_reserve_37 : decode cX4_reserve 37 = .ok (.iload_n 1, 1) := by decide +kernel
theorem dX4_reserve_38 : decode cX4_reserve 38 = .ok (.iaload, 1) := by decide +kernel
theorem dX4_reserve_39 : decode cX4_reserve 39 = .ok (.aload_n 0, 1) := by decide +kernel
theorem dX4_reserve_40 : decode cX4_reserve 40 = .ok (.getfield 37, 3) := by decide +kernel
theorem dX4_reserve_43 : decode cX4_reserve 43 = .ok (.iload_n 1, 1) := by decide +kernel
theorem dX4_reserve_44 : decode cX4_reserve 44 = .ok (.iaload, 1) := by decide +kernel
theorem dX4_reserve_45 : decode cX4_reserve 45 = .ok (.invokestatic 119, 3) := by decide +kernel
theorem dX4_reserve_48 : decode cX4_reserve 48 = .ok (.isub, 1) := by decide +kernel
theorem dX4_reserve_49 : decode cX4_reserve 49 = .ok (.goto 8, 3) := by decide +kernel
theorem dX4_reserve_52 : decode cX4_reserve 52 = .ok (.aload_n 0, 1) := by decide +kernel
theorem dX4_reserve_53 : decode cX4_reserve 53 = .ok (.iconst 1, 1) := by decide +kernel
theorem dX4_reserve_54 : decode cX4_reserve 54 = .ok (.invokevirtual 98, 3) := by decide +kernel
theorem dX4_reserve_57 : decode cX4_reserve 57 = .ok (.ireturn, 1) := by decide +kernel
set_option maxRecDepth 20000 in
theorem ggX4_claim_X4_isPair : GoodIn wsX4_claim wsX4_isPair := goodIn_r _ [7, 8, 9, 6, 10, 11, 12, 13] (by decide +kernel) (by decide +kernel)
set_option maxRecDepth 20000 in
theorem gX4_claim_X4_isPair : GoodIn wsX4_claim (va_wsS RX4 94 yX4_isPair wsX4_isPair) := goodIn_app (goodIn_of _ (by decide +kernel)) ggX4_claim_X4_isPair
set_option maxRecDepth 20000 in
theorem ggX4_claim_X4_in : GoodIn wsX4_claim wsX4_in := goodIn_r _ [13] (by decide +kernel) (by decide +kernel)
set_option maxRecDepth 20000 in
theorem gX4_claim_X4_in : GoodIn wsX4_claim (va_wsS RX4 66 yX4_in wsX4_in) := goodIn_app (goodIn_of _ (by decide +kernel)) ggX4_claim_X4_in
set_option maxRecDepth 20000 in
theorem ggX4_claim_X4_fails : GoodIn wsX4_claim wsX4_fails := goodIn_r _ [17, 1, 18, 19, 20, 21, 22, 23, 24, 25, 26, 27, 28, 29, 30, 31, 32, 33, 34, 35, 36] (by decide +kernel) (by decide +kernel)
set_option maxRecDepth 20000 in
theorem gX4_claim_X4_fails : GoodIn wsX4_claim (wsV RX4 98 RX4 yX4_fails wsX4_fails) := goodIn_app (goodIn_of _ (by decide +kernel)) ggX4_claim_X4_fails
theorem dX4_claim_0 : decode cX4_claim 0 = .ok (.aload_n 0, 1) := by decide +kernel
theorem dX4_claim_1 : decode cX4_claim 1 = .ok (.iconst 0, 1) := by decide +kernel
theorem dX4_claim_2 : decode cX4_claim 2 = .ok (.putfield 62, 3) := by decide +kernel
theorem dX4_claim_5 : decode cX4_claim 5 = .ok (.iload_n 1, 1) := by decide +kernel
theorem dX4_claim_6 : decode cX4_claim 6 = .ok (.iload_n 2, 1) := by decide +kernel
theorem dX4_claim_7 : decode cX4_claim 7 = .ok (.invokestatic 94, 3) := by decide +kernel
theorem dX4_claim_10 : decode cX4_claim 10 = .ok (.ifCond .eq 13, 3) := by decide +kernel
theorem dX4_claim_13 : decode cX4_claim 13 = .ok (.iload_n 3, 1) := by decide +kernel
theorem dX4_claim_14 : decode cX4_claim 14 = .ok (.iconst 0, 1) := by decide +kernel
theorem dX4_claim_15 : decode cX4_claim 15 = .ok (.ldc 105, 2) := by decide +kernel
theorem dX4_claim_17 : decode cX4_claim 17 = .ok (.invokestatic 66, 3) := by decide +kernel
theorem dX4_claim_20 : decode cX4_claim 20 = .ok (.ifCond .ne 9, 3) := by decide +kernel
theorem dX4_claim_23 : decode cX4_claim 23 = .ok (.aload_n 0, 1) := by decide +kernel
theorem dX4_claim_24 : decode cX4_claim 24 = .ok (.iconst 1, 1) := by decide +kernel
theorem dX4_claim_25 : decode cX4_claim 25 = .ok (.invokevirtual 98, 3) := by decide +kernel
theorem dX4_claim_28 : decode cX4_claim 28 = .ok (.ireturn, 1) := by decide +kernel
theorem dX4_claim_29 : decode cX4_claim 29 = .ok (.aload_n 0, 1) := by decide +kernel
theorem dX4_claim_30 : decode cX4_claim 30 = .ok (.getfield 13, 3) := by decide +kernel
theorem dX4_claim_33 : decode cX4_claim 33 = .ok (.bipush 6, 2) := by decide +kernel
theorem dX4_claim_35 : decode cX4_claim 35 = .ok (.iload_n 1, 1) := by decide +kernel
theorem dX4_claim_36 : decode cX4_claim 36 = .ok (.imul, 1) := by decide +kernel
theorem dX4_claim_37 : decode cX4_claim 37 = .ok (.iload_n 2, 1) := by decide +kernel
theorem dX4_claim_38 : decode cX4_claim 38 = .ok (.iadd, 1) := by decide +kernel
theorem dX4_claim_39 : decode cX4_claim 39 = .ok (.iaload, 1) := by decide +kernel
theorem dX4_claim_40 : decode cX4_claim 40 = .ok (.istore 4, 2) := by decide +kernel
theorem dX4_claim_42 : decode cX4_claim 42 = .ok (.aload_n 0, 1) := by decide +kernel
theorem dX4_claim_43 : decode cX4_claim 43 = .ok (.getfield 13, 3) := by decide +kernel
theorem dX4_claim_46 : decode cX4_claim 46 = .ok (.bipush 6, 2) := by decide +kernel
theorem dX4_claim_48 : decode cX4_claim 48 = .ok (.iload_n 1, 1) := by decide +kernel
theorem dX4_claim_49 : decode cX4_claim 49 = .ok (.imul, 1) := by decide +kernel
theorem dX4_claim_50 : decode cX4_claim 50 = .ok (.iload_n 2, 1) := by decide +kernel
theorem dX4_claim_51 : decode cX4_claim 51 = .ok (.iadd, 1) := by decide +kernel
theorem dX4_claim_52 : decode cX4_claim 52 = .ok (.iload_n 3, 1) := by decide +kernel
theorem dX4_claim_53 : decode cX4_claim 53 = .ok (.iastore, 1) := by decide +kernel
theorem dX4_claim_54 : decode cX4_claim 54 = .ok (.iload 4, 2) := by decide +kernel
theorem dX4_claim_56 : decode cX4_claim 56 = .ok (.ireturn, 1) := by decide +kernel
set_option maxRecDepth 20000 in
theorem ggX4_admit_X4_isPair : GoodIn wsX4_admit wsX4_isPair := goodIn_r _ [7, 8, 9, 6, 10, 11, 12, 13] (by decide +kernel) (by decide +kernel)
set_option maxRecDepth 20000 in
theorem gX4_admit_X4_isPair : GoodIn wsX4_admit (va_wsS RX4 94 yX4_isPair wsX4_isPair) := goodIn_app (goodIn_of _ (by decide +kernel)) ggX4_admit_X4_isPair
set_option maxRecDepth 20000 in
theorem ggX4_admit_X4_in : GoodIn wsX4_admit wsX4_in := goodIn_r _ [13] (by decide +kernel) (by decide +kernel)
set_option maxRecDepth 20000 in
theorem gX4_admit_X4_in : GoodIn wsX4_admit (va_wsS RX4 66 yX4_in wsX4_in) := goodIn_app (goodIn_of _ (by decide +kernel)) ggX4_admit_X4_in
set_option maxRecDepth 20000 in
theorem ggX4_admit_X4_fails : GoodIn wsX4_admit wsX4_fails := goodIn_r _ [17, 1, 18, 19, 20, 21, 22, 23, 24, 25, 26, 27, 28, 29, 30, 31, 32, 33, 34, 35, 36] (by decide +kernel) (by decide +kernel)
set_option maxRecDepth 20000 in
theorem gX4_admit_X4_fails : GoodIn wsX4_admit (wsV RX4 98 RX4 yX4_fails wsX4_fails) := goodIn_app (goodIn_of _ (by decide +kernel)) ggX4_admit_X4_fails
theorem dX4_admit_0 : decode cX4_admit 0 = .ok (.aload_n 0, 1) := by decide +kernel
theorem dX4_admit_1 : decode cX4_admit 1 = .ok (.iconst 0, 1) := by decide +kernel
theorem dX4_admit_2 : decode cX4_admit 2 = .ok (.putfield 62, 3) := by decide +kernel
theorem dX4_admit_5 : decode cX4_admit 5 = .ok (.iload_n 2, 1) := by decide +kernel
theorem dX4_admit_6 : decode cX4_admit 6 = .ok (.iload_n 1, 1) := by decide +kernel
theorem dX4_admit_7 : decode cX4_admit 7 = .ok (.invokestatic 94, 3) := by decide +kernel
theorem dX4_admit_10 : decode cX4_admit 10 = .ok (.ifCond .eq 13, 3) := by decide +kernel
theorem dX4_admit_13 : decode cX4_admit 13 = .ok (.iload_n 3, 1) := by decide +kernel
theorem dX4_admit_14 : decode cX4_admit 14 = .ok (.iconst 0, 1) := by decide +kernel
theorem dX4_admit_15 : decode cX4_admit 15 = .ok (.ldc 105, 2) := by decide +kernel
theorem dX4_admit_17 : decode cX4_admit 17 = .ok (.invokestatic 66, 3) := by decide +kernel
theorem dX4_admit_20 : decode cX4_admit 20 = .ok (.ifCond .ne 9, 3) := by decide +kernel
theorem dX4_admit_23 : decode cX4_admit 23 = .ok (.aload_n 0, 1) := by decide +kernel
theorem dX4_admit_24 : decode cX4_admit 24 = .ok (.iconst 1, 1) := by decide +kernel
theorem dX4_admit_25 : decode cX4_admit 25 = .ok (.invokevirtual 98, 3) := by decide +kernel
theorem dX4_admit_28 : decode cX4_admit 28 = .ok (.ireturn, 1) := by decide +kernel
theorem dX4_admit_29 : decode cX4_admit 29 = .ok (.aload_n 0, 1) := by decide +kernel
theorem dX4_admit_30 : decode cX4_admit 30 = .ok (.getfield 16, 3) := by decide +kernel
theorem dX4_admit_33 : decode cX4_admit 33 = .ok (.bipush 6, 2) := by decide +kernel
theorem dX4_admit_35 : decode cX4_admit 35 = .ok (.iload_n 1, 1) := by decide +kernel
theorem dX4_admit_36 : decode cX4_admit 36 = .ok (.imul, 1) := by decide +kernel
theorem dX4_admit_37 : decode cX4_admit 37 = .ok (.iload_n 2, 1) := by decide +kernel
theorem dX4_admit_38 : decode cX4_admit 38 = .ok (.iadd, 1) := by decide +kernel
theorem dX4_admit_39 : decode cX4_admit 39 = .ok (.iaload, 1) := by decide +kernel
theorem dX4_admit_40 : decode cX4_admit 40 = .ok (.istore 4, 2) := by decide +kernel
theorem dX4_admit_42 : decode cX4_admit 42 = .ok (.aload_n 0, 1) := by decide +kernel
theorem dX4_admit_43 : decode cX4_admit 43 = .ok (.getfield 16, 3) := by decide +kernel
theorem dX4_admit_46 : decode cX4_admit 46 = .ok (.bipush 6, 2) := by decide +kernel
theorem dX4_admit_48 : decode cX4_admit 48 = .ok (.iload_n 1, 1) := by decide +kernel
theorem dX4_admit_49 : decode cX4_admit 49 = .ok (.imul, 1) := by decide +kernel
theorem dX4_admit_50 : decode cX4_admit 50 = .ok (.iload_n 2, 1) := by decide +kernel
theorem dX4_admit_51 : decode cX4_admit 51 = .ok (.iadd, 1) := by decide +kernel
theorem dX4_admit_52 : decode cX4_admit 52 = .ok (.iload_n 3, 1) := by decide +kernel
theorem dX4_admit_53 : decode cX4_admit 53 = .ok (.iastore, 1) := by decide +kernel
theorem dX4_admit_54 : decode cX4_admit 54 = .ok (.iload 4, 2) := by decide +kernel
theorem dX4_admit_56 : decode cX4_admit 56 = .ok (.ireturn, 1) := by decide +kernel
set_option maxRecDepth 20000 in
theorem ggX4_difference_X4_isPair : GoodIn wsX4_difference wsX4_isPair := goodIn_r _ [7, 8, 9, 6, 10, 11, 12, 13] (by decide +kernel) (by decide +kernel)
set_option maxRecDepth 20000 in
theorem gX4_difference_X4_isPair : GoodIn wsX4_difference (va_wsS RX4 94 yX4_isPair wsX4_isPair) := goodIn_app (goodIn_of _ (by decide +kernel)) ggX4_difference_X4_isPair
set_option maxRecDepth 20000 in
theorem ggX4_difference_X4_fails : GoodIn wsX4_difference wsX4_fails := goodIn_r _ [17, 1, 18, 19, 20, 21, 22, 23, 24, 25, 26, 27, 28, 29, 30, 31, 32, 33, 34, 35, 36] (by decide +kernel) (by decide +kernel)
set_option maxRecDepth 20000 in
theorem gX4_difference_X4_fails : GoodIn wsX4_difference (wsV RX4 98 RX4 yX4_fails wsX4_fails) := goodIn_app (goodIn_of _ (by decide +kernel)) ggX4_difference_X4_fails
theorem dX4_difference_0 : decode cX4_difference 0 = .ok (.aload_n 0, 1) := by decide +kernel
theorem dX4_difference_1 : decode cX4_difference 1 = .ok (.iconst 0, 1) := by decide +kernel
theorem dX4_difference_2 : decode cX4_difference 2 = .ok (.putfield 62, 3) := by decide +kernel
theorem dX4_difference_5 : decode cX4_difference 5 = .ok (.iload_n 1, 1) := by decide +kernel
theorem dX4_difference_6 : decode cX4_difference 6 = .ok (.iload_n 2, 1) := by decide +kernel
theorem dX4_difference_7 : decode cX4_difference 7 = .ok (.invokestatic 94, 3) := by decide +kernel
theorem dX4_difference_10 : decode cX4_difference 10 = .ok (.ifCond .eq 29, 3) := by decide +kernel
theorem dX4_difference_13 : decode cX4_difference 13 = .ok (.aload_n 0, 1) := by decide +kernel
theorem dX4_difference_14 : decode cX4_difference 14 = .ok (.getfield 13, 3) := by decide +kernel
theorem dX4_difference_17 : decode cX4_difference 17 = .ok (.bipush 6, 2) := by decide +kernel
theorem dX4_difference_19 : decode cX4_difference 19 = .ok (.iload_n 1, 1) := by decide +kernel
theorem dX4_difference_20 : decode cX4_difference 20 = .ok (.imul, 1) := by decide +kernel
theorem dX4_difference_21 : decode cX4_difference 21 = .ok (.iload_n 2, 1) := by decide +kernel
theorem dX4_difference_22 : decode cX4_difference 22 = .ok (.iadd, 1) := by decide +kernel
theorem dX4_difference_23 : decode cX4_difference 23 = .ok (.iaload, 1) := by decide +kernel
theorem dX4_difference_24 : decode cX4_difference 24 = .ok (.aload_n 0, 1) := by decide +kernel
theorem dX4_difference_25 : decode cX4_difference 25 = .ok (.getfield 16, 3) := by decide +kernel
theorem dX4_difference_28 : decode cX4_difference 28 = .ok (.bipush 6, 2) := by decide +kernel
theorem dX4_difference_30 : decode cX4_difference 30 = .ok (.iload_n 2, 1) := by decide +kernel
theorem dX4_difference_31 : decode cX4_difference 31 = .ok (.imul, 1) := by decide +kernel
theorem dX4_difference_32 : decode cX4_difference 32 = .ok (.iload_n 1, 1) := by decide +kernel
theorem dX4_difference_33 : decode cX4_difference 33 = .ok (.iadd, 1) := by decide +kernel
theorem dX4_difference_34 : decode cX4_difference 34 = .ok (.iaload, 1) := by decide +kernel
theorem dX4_difference_35 : decode cX4_difference 35 = .ok (.isub, 1) := by decide +kernel
theorem dX4_difference_36 : decode cX4_difference 36 = .ok (.goto 8, 3) := by decide +kernel
theorem dX4_difference_39 : decode cX4_difference 39 = .ok (.aload_n 0, 1) := by decide +kernel
theorem dX4_difference_40 : decode cX4_difference 40 = .ok (.iconst 1, 1) := by decide +kernel
theorem dX4_difference_41 : decode cX4_difference 41 = .ok (.invokevirtual 98, 3) := by decide +kernel
theorem dX4_difference_44 : decode cX4_difference 44 = .ok (.ireturn, 1) := by decide +kernel
set_option maxRecDepth 20000 in
theorem ggX4_eliminatedNow_X4_groupSet : GoodIn wsX4_eliminatedNow wsX4_groupSet := goodIn_r _ [7, 8, 9, 10, 11, 12, 13, 14, 15, 16, 17, 18, 19, 20, 21, 22, 23, 24, 25, 26, 27] (by decide +kernel) (by decide +kernel)
set_option maxRecDepth 20000 in
theorem gX4_eliminatedNow_X4_groupSet : GoodIn wsX4_eliminatedNow (wsV RX4 114 RX4 yX4_groupSet wsX4_groupSet) := goodIn_app (goodIn_of _ (by decide +kernel)) ggX4_eliminatedNow_X4_groupSet
theorem dX4_eliminatedNow_0 : decode cX4_eliminatedNow 0 = .ok (.aload_n 0, 1) := by decide +kernel
theorem dX4_eliminatedNow_1 : decode cX4_eliminatedNow 1 = .ok (.invokevirtual 114, 3) := by decide +kernel
theorem dX4_eliminatedNow_4 : decode cX4_eliminatedNow 4 = .ok (.istore_n 1, 1) := by decide +kernel
theorem dX4_eliminatedNow_5 : decode cX4_eliminatedNow 5 = .ok (.iconst 0, 1) := by decide +kernel
theorem dX4_eliminatedNow_6 : decode cX4_eliminatedNow 6 = .ok (.istore_n 2, 1) := by decide +kernel
theorem dX4_eliminatedNow_7 : decode cX4_eliminatedNow 7 = .ok (.iconst 0, 1) := by decide +kernel
theorem dX4_eliminatedNow_8 : decode cX4_eliminatedNow 8 = .ok (.istore_n 3, 1) := by decide +kernel
theorem dX4_eliminatedNow_9 : decode cX4_eliminatedNow 9 = .ok (.iload_n 3, 1) := by decide +kernel
theorem dX4_eliminatedNow_10 : decode cX4_eliminatedNow 10 = .ok (.bipush 36, 2) := by decide +kernel
theorem dX4_eliminatedNow_12 : decode cX4_eliminatedNow 12 = .ok (.if_icmp .ge 93, 3) := by decide +kernel
theorem dX4_eliminatedNow_15 : decode cX4_eliminatedNow 15 = .ok (.aload_n 0, 1) := by decide +kernel
theorem dX4_eliminatedNow_16 : decode cX4_eliminatedNow 16 = .ok (.getfield 16, 3) := by decide +kernel
theorem dX4_eliminatedNow_19 : decode cX4_eliminatedNow 19 = .ok (.bipush 6, 2) := by decide +kernel
theorem dX4_eliminatedNow_21 : decode cX4_eliminatedNow 21 = .ok (.iload_n 3, 1) := by decide +kernel
theorem dX4_eliminatedNow_22 : decode cX4_eliminatedNow 22 = .ok (.bipush 6, 2) := by decide +kernel
theorem dX4_eliminatedNow_24 : decode cX4_eliminatedNow 24 = .ok (.irem, 1) := by decide +kernel
theorem dX4_eliminatedNow_25 : decode cX4_eliminatedNow 25 = .ok (.imul, 1) := by decide +kernel
theorem dX4_eliminatedNow_26 : decode cX4_eliminatedNow 26 = .ok (.iload_n 3, 1) := by decide +kernel
theorem dX4_eliminatedNow_27 : decode cX4_eliminatedNow 27 = .ok (.bipush 6, 2) := by decide +kernel
theorem dX4_eliminatedNow_29 : decode cX4_eliminatedNow 29 = .ok (.idiv, 1) := by decide +kernel
theorem dX4_eliminatedNow_30 : decode cX4_eliminatedNow 30 = .ok (.iadd, 1) := by decide +kernel
theorem dX4_eliminatedNow_31 : decode cX4_eliminatedNow 31 = .ok (.iaload, 1) := by decide +kernel
theorem dX4_eliminatedNow_32 : decode cX4_eliminatedNow 32 = .ok (.istore 4, 2) := by decide +kernel
theorem dX4_eliminatedNow_34 : decode cX4_eliminatedNow 34 = .ok (.iload_n 1, 1) := by decide +kernel
theorem dX4_eliminatedNow_35 : decode cX4_eliminatedNow 35 = .ok (.iload_n 3, 1) := by decide +kernel
theorem dX4_eliminatedNow_36 : decode cX4_eliminatedNow 36 = .ok (.bipush 6, 2) := by decide +kernel
theorem dX4_eliminatedNow_38 : decode cX4_eliminatedNow 38 = .ok (.idiv, 1) := by decide +kernel
theorem dX4_eliminatedNow_39 : decode cX4_eliminatedNow 39 = .ok (.ishr, 1) := by decide +kernel
theorem dX4_eliminatedNow_40 : decode cX4_eliminatedNow 40 = .ok (.iconst 1, 1) := by decide +kernel
theorem dX4_eliminatedNow_41 : decode cX4_eliminatedNow 41 = .ok (.iand, 1) := by decide +kernel
theorem dX4_eliminatedNow_42 : decode cX4_eliminatedNow 42 = .ok (.iconst 1, 1) := by decide +kernel
theorem dX4_eliminatedNow_43 : decode cX4_eliminatedNow 43 = .ok (.if_icmp .ne 19, 3) := by decide +kernel
theorem dX4_eliminatedNow_46 : decode cX4_eliminatedNow 46 = .ok (.iload_n 1, 1) := by decide +kernel
theorem dX4_eliminatedNow_47 : decode cX4_eliminatedNow 47 = .ok (.iload_n 3, 1) := by decide +kernel
theorem dX4_eliminatedNow_48 : decode cX4_eliminatedNow 48 = .ok (.bipush 6, 2) := by decide +kernel
theorem dX4_eliminatedNow_50 : decode cX4_eliminatedNow 50 = .ok (.irem, 1) := by decide +kernel
theorem dX4_eliminatedNow_51 : decode cX4_eliminatedNow 51 = .ok (.ishr, 1) := by decide +kernel
theorem dX4_eliminatedNow_52 : decode cX4_eliminatedNow 52 = .ok (.iconst 1, 1) := by decide +kernel
theorem dX4_eliminatedNow_53 : decode cX4_eliminatedNow 53 = .ok (.iand, 1) := by decide +kernel
theorem dX4_eliminatedNow_54 : decode cX4_eliminatedNow 54 = .ok (.iconst 1, 1) := by decide +kernel
theorem dX4_eliminatedNow_55 : decode cX4_eliminatedNow 55 = .ok (.if_icmp .ne 7, 3) := by decide +kernel
theorem dX4_eliminatedNow_58 : decode cX4_eliminatedNow 58 = .ok (.iconst 1, 1) := by decide +kernel
theorem dX4_eliminatedNow_59 : decode cX4_eliminatedNow 59 = .ok (.goto 4, 3) := by decide +kernel
theorem dX4_eliminatedNow_62 : decode cX4_eliminatedNow 62 = .ok (.iconst 0, 1) := by decide +kernel
theorem dX4_eliminatedNow_63 : decode cX4_eliminatedNow 63 = .ok (.istore 5, 2) := by decide +kernel
theorem dX4_eliminatedNow_65 : decode cX4_eliminatedNow 65 = .ok (.iload_n 2, 1) := by decide +kernel
theorem dX4_eliminatedNow_66 : decode cX4_eliminatedNow 66 = .ok (.iload 5, 2) := by decide +kernel
theorem dX4_eliminatedNow_68 : decode cX4_eliminatedNow 68 = .ok (.ifCond .ne 7, 3) := by decide +kernel
theorem dX4_eliminatedNow_71 : decode cX4_eliminatedNow 71 = .ok (.iconst 0, 1) := by decide +kernel
theorem dX4_eliminatedNow_72 : decode cX4_eliminatedNow 72 = .ok (.goto 25, 3) := by decide +kernel
theorem dX4_eliminatedNow_75 : decode cX4_eliminatedNow 75 = .ok (.aload_n 0, 1) := by decide +kernel
theorem dX4_eliminatedNow_76 : decode cX4_eliminatedNow 76 = .ok (.getfield 13, 3) := by decide +kernel
theorem dX4_eliminatedNow_79 : decode cX4_eliminatedNow 79 = .ok (.iload_n 3, 1) := by decide +kernel
theorem dX4_eliminatedNow_80 : decode cX4_eliminatedNow 80 = .ok (.iaload, 1) := by decide +kernel
theorem dX4_eliminatedNow_81 : decode cX4_eliminatedNow 81 = .ok (.iload 4, 2) := by decide +kernel
theorem dX4_eliminatedNow_83 : decode cX4_eliminatedNow 83 = .ok (.if_icmp .ge 12, 3) := by decide +kernel
theorem dX4_eliminatedNow_86 : decode cX4_eliminatedNow 86 = .ok (.aload_n 0, 1) := by decide +kernel
theorem dX4_eliminatedNow_87 : decode cX4_eliminatedNow 87 = .ok (.getfield 13, 3) := by decide +kernel
theorem dX4_eliminatedNow_90 : decode cX4_eliminatedNow 90 = .ok (.iload_n 3, 1) := by decide +kernel
theorem dX4_eliminatedNow_91 : decode cX4_eliminatedNow 91 = .ok (.iaload, 1) := by decide +kernel
theorem dX4_eliminatedNow_92 : decode cX4_eliminatedNow 92 = .ok (.goto 5, 3) := by decide +kernel
theorem dX4_eliminatedNow_95 : decode cX4_eliminatedNow 95 = .ok (.iload 4, 2) := by decide +kernel
theorem dX4_eliminatedNow_97 : decode cX4_eliminatedNow 97 = .ok (.iadd, 1) := by decide +kernel
theorem dX4_eliminatedNow_98 : decode cX4_eliminatedNow 98 = .ok (.istore_n 2, 1) := by decide +kernel
theorem dX4_eliminatedNow_99 : decode cX4_eliminatedNow 99 = .ok (.iinc 3 1, 3) := by decide +kernel
theorem dX4_eliminatedNow_102 : decode cX4_eliminatedNow 102 = .ok (.goto (-93), 3) := by decide +kernel
theorem dX4_eliminatedNow_105 : decode cX4_eliminatedNow 105 = .ok (.iload_n 2, 1) := by decide +kernel
theorem dX4_eliminatedNow_106 : decode cX4_eliminatedNow 106 = .ok (.ireturn, 1) := by decide +kernel
set_option maxRecDepth 20000 in
theorem ggX4_eliminated_X4_eliminatedNow : GoodIn wsX4_eliminated wsX4_eliminatedNow := goodIn_r _ [6, 7, 8, 9, 10, 11, 5, 12, 13, 14, 15, 16, 17, 18, 19, 20, 21, 22, 23, 24, 25, 26, 27, 28, 29, 30, 31, 32] (by decide +kernel) (by decide +kernel)
set_option maxRecDepth 20000 in
theorem gX4_eliminated_X4_eliminatedNow : GoodIn wsX4_eliminated (wsV RX4 123 RX4 yX4_eliminatedNow wsX4_eliminatedNow) := goodIn_app (goodIn_of _ (by decide +kernel)) ggX4_eliminated_X4_eliminatedNow
theorem dX4_eliminated_0 : decode cX4_eliminated 0 = .ok (.aload_n 0, 1) := by decide +kernel
theorem dX4_eliminated_1 : decode cX4_eliminated 1 = .ok (.iconst 0, 1) := by decide +kernel
theorem dX4_eliminated_2 : decode cX4_eliminated 2 = .ok (.putfield 62, 3) := by decide +kernel
theorem dX4_eliminated_5 : decode cX4_eliminated 5 = .ok (.aload_n 0, 1) := by decide +kernel
theorem dX4_eliminated_6 : decode cX4_eliminated 6 = .ok (.invokevirtual 123, 3) := by decide +kernel
theorem dX4_eliminated_9 : decode cX4_eliminated 9 = .ok (.ireturn, 1) := by decide +kernel
set_option maxRecDepth 20000 in
theorem ggX4_assetsNow_X4_groupSet : GoodIn wsX4_assetsNow wsX4_groupSet := goodIn_r _ [7, 8, 22, 23, 24, 25, 26, 27, 28, 29, 30, 31, 32, 33, 34, 35, 36, 37, 38, 39, 40] (by decide +kernel) (by decide +kernel)
set_option maxRecDepth 20000 in
theorem gX4_assetsNow_X4_groupSet : GoodIn wsX4_assetsNow (wsV RX4 114 RX4 yX4_groupSet wsX4_groupSet) := goodIn_app (goodIn_of _ (by decide +kernel)) ggX4_assetsNow_X4_groupSet
set_option maxRecDepth 20000 in
theorem ggX4_assetsNow_X4_translated : GoodIn wsX4_assetsNow wsX4_translated := goodIn_r _ [11, 12, 13, 14, 6, 15] (by decide +kernel) (by decide +kernel)
set_option maxRecDepth 20000 in
theorem gX4_assetsNow_X4_translated : GoodIn wsX4_assetsNow (va_wsS RX4 119 yX4_translated wsX4_translated) := goodIn_app (goodIn_of _ (by decide +kernel)) ggX4_assetsNow_X4_translated
set_option maxRecDepth 20000 in
theorem ggX4_assetsNow_X4_eliminatedNow : GoodIn wsX4_assetsNow wsX4_eliminatedNow := goodIn_r _ [19, 20, 21, 3, 4, 5, 6, 7, 8, 22, 23, 24, 25, 26, 27, 28, 29, 30, 31, 32, 33, 34, 35, 36, 37, 38, 39, 40] (by decide +kernel) (by decide +kernel)
set_option maxRecDepth 20000 in
theorem gX4_assetsNow_X4_eliminatedNow : GoodIn wsX4_assetsNow (wsV RX4 123 RX4 yX4_eliminatedNow wsX4_eliminatedNow) := goodIn_app (goodIn_of _ (by decide +kernel)) ggX4_assetsNow_X4_eliminatedNow
theorem dX4_assetsNow_0 : decode cX4_assetsNow 0 = .ok (.aload_n 0, 1) := by decide +kernel
theorem dX4_assetsNow_1 : decode cX4_assetsNow 1 = .ok (.invokevirtual 114, 3) := by decide +kernel
theorem dX4_assetsNow_4 : decode cX4_assetsNow 4 = .ok (.istore_n 1, 1) := by decide +kernel
theorem dX4_assetsNow_5 : decode cX4_assetsNow 5 = .ok (.iconst 0, 1) := by decide +kernel
theorem dX4_assetsNow_6 : decode cX4_assetsNow 6 = .ok (.istore_n 2, 1) := by decide +kernel
theorem dX4_assetsNow_7 : decode cX4_assetsNow 7 = .ok (.iconst 0, 1) := by decide +kernel
theorem dX4_assetsNow_8 : decode cX4_assetsNow 8 = .ok (.istore_n 3, 1) := by decide +kernel
theorem dX4_assetsNow_9 : decode cX4_assetsNow 9 = .ok (.iload_n 3, 1) := by decide +kernel
theorem dX4_assetsNow_10 : decode cX4_assetsNow 10 = .ok (.bipush 6, 2) := by decide +kernel
theorem dX4_assetsNow_12 : decode cX4_assetsNow 12 = .ok (.if_icmp .ge 33, 3) := by decide +kernel
theorem dX4_assetsNow_15 : decode cX4_assetsNow 15 = .ok (.iload_n 2, 1) := by decide +kernel
theorem dX4_assetsNow_16 : decode cX4_assetsNow 16 = .ok (.iload_n 1, 1) := by decide +kernel
theorem dX4_assetsNow_17 : decode cX4_assetsNow 17 = .ok (.iload_n 3, 1) := by decide +kernel
theorem dX4_assetsNow_18 : decode cX4_assetsNow 18 = .ok (.ishr, 1) := by decide +kernel
theorem dX4_assetsNow_19 : decode cX4_assetsNow 19 = .ok (.iconst 1, 1) := by decide +kernel
theorem dX4_assetsNow_20 : decode cX4_assetsNow 20 = .ok (.iand, 1) := by decide +kernel
theorem dX4_assetsNow_21 : decode cX4_assetsNow 21 = .ok (.aload_n 0, 1) := by decide +kernel
theorem dX4_assetsNow_22 : decode cX4_assetsNow 22 = .ok (.getfield 22, 3) := by decide +kernel
theorem dX4_assetsNow_25 : decode cX4_assetsNow 25 = .ok (.iload_n 3, 1) := by decide +kernel
theorem dX4_assetsNow_26 : decode cX4_assetsNow 26 = .ok (.iaload, 1) := by decide +kernel
theorem dX4_assetsNow_27 : decode cX4_assetsNow 27 = .ok (.aload_n 0, 1) := by decide +kernel
theorem dX4_assetsNow_28 : decode cX4_assetsNow 28 = .ok (.getfield 34, 3) := by decide +kernel
theorem dX4_assetsNow_31 : decode cX4_assetsNow 31 = .ok (.iload_n 3, 1) := by decide +kernel
theorem dX4_assetsNow_32 : decode cX4_assetsNow 32 = .ok (.iaload, 1) := by decide +kernel
theorem dX4_assetsNow_33 : decode cX4_assetsNow 33 = .ok (.invokestatic 119, 3) := by decide +kernel
theorem dX4_assetsNow_36 : decode cX4_assetsNow 36 = .ok (.imul, 1) := by decide +kernel
theorem dX4_assetsNow_37 : decode cX4_assetsNow 37 = .ok (.iadd, 1) := by decide +kernel
theorem dX4_assetsNow_38 : decode cX4_assetsNow 38 = .ok (.istore_n 2, 1) := by decide +kernel
theorem dX4_assetsNow_39 : decode cX4_assetsNow 39 = .ok (.iinc 3 1, 3) := by decide +kernel
theorem dX4_assetsNow_42 : decode cX4_assetsNow 42 = .ok (.goto (-33), 3) := by decide +kernel
theorem dX4_assetsNow_45 : decode cX4_assetsNow 45 = .ok (.iload_n 2, 1) := by decide +kernel
theorem dX4_assetsNow_46 : decode cX4_assetsNow 46 = .ok (.aload_n 0, 1) := by decide +kernel
theorem dX4_assetsNow_47 : decode cX4_assetsNow 47 = .ok (.invokevirtual 123, 3) := by decide +kernel
theorem dX4_assetsNow_50 : decode cX4_assetsNow 50 = .ok (.isub, 1) := by decide +kernel
theorem dX4_assetsNow_51 : decode cX4_assetsNow 51 = .ok (.ireturn, 1) := by decide +kernel
set_option maxRecDepth 20000 in
theorem ggX4_debtsNow_X4_groupSet : GoodIn wsX4_debtsNow wsX4_groupSet := goodIn_r _ [7, 8, 22, 23, 24, 25, 26, 27, 28, 29, 30, 31, 32, 33, 34, 35, 36, 37, 38, 39, 40] (by decide +kernel) (by decide +kernel)
set_option maxRecDepth 20000 in
theorem gX4_debtsNow_X4_groupSet : GoodIn wsX4_debtsNow (wsV RX4 114 RX4 yX4_groupSet wsX4_groupSet) := goodIn_app (goodIn_of _ (by decide +kernel)) ggX4_debtsNow_X4_groupSet
set_option maxRecDepth 20000 in
theorem ggX4_debtsNow_X4_translated : GoodIn wsX4_debtsNow wsX4_translated := goodIn_r _ [11, 12, 13, 14, 6, 15] (by decide +kernel) (by decide +kernel)
set_option maxRecDepth 20000 in
theorem gX4_debtsNow_X4_translated : GoodIn wsX4_debtsNow (va_wsS RX4 119 yX4_translated wsX4_translated) := goodIn_app (goodIn_of _ (by decide +kernel)) ggX4_debtsNow_X4_translated
set_option maxRecDepth 20000 in
theorem ggX4_debtsNow_X4_eliminatedNow : GoodIn wsX4_debtsNow wsX4_eliminatedNow := goodIn_r _ [19, 20, 21, 3, 4, 5, 6, 7, 8, 22, 23, 24, 25, 26, 27, 28, 29, 30, 31, 32, 33, 34, 35, 36, 37, 38, 39, 40] (by decide +kernel) (by decide +kernel)
set_option maxRecDepth 20000 in
theorem gX4_debtsNow_X4_eliminatedNow : GoodIn wsX4_debtsNow (wsV RX4 123 RX4 yX4_eliminatedNow wsX4_eliminatedNow) := goodIn_app (goodIn_of _ (by decide +kernel)) ggX4_debtsNow_X4_eliminatedNow
theorem dX4_debtsNow_0 : decode cX4_debtsNow 0 = .ok (.aload_n 0, 1) := by decide +kernel
theorem dX4_debtsNow_1 : decode cX4_debtsNow 1 = .ok (.invokevirtual 114, 3) := by decide +kernel
theorem dX4_debtsNow_4 : decode cX4_debtsNow 4 = .ok (.istore_n 1, 1) := by decide +kernel
theorem dX4_debtsNow_5 : decode cX4_debtsNow 5 = .ok (.iconst 0, 1) := by decide +kernel
theorem dX4_debtsNow_6 : decode cX4_debtsNow 6 = .ok (.istore_n 2, 1) := by decide +kernel
theorem dX4_debtsNow_7 : decode cX4_debtsNow 7 = .ok (.iconst 0, 1) := by decide +kernel
theorem dX4_debtsNow_8 : decode cX4_debtsNow 8 = .ok (.istore_n 3, 1) := by decide +kernel
theorem dX4_debtsNow_9 : decode cX4_debtsNow 9 = .ok (.iload_n 3, 1) := by decide +kernel
theorem dX4_debtsNow_10 : decode cX4_debtsNow 10 = .ok (.bipush 6, 2) := by decide +kernel
theorem dX4_debtsNow_12 : decode cX4_debtsNow 12 = .ok (.if_icmp .ge 33, 3) := by decide +kernel
theorem dX4_debtsNow_15 : decode cX4_debtsNow 15 = .ok (.iload_n 2, 1) := by decide +kernel
theorem dX4_debtsNow_16 : decode cX4_debtsNow 16 = .ok (.iload_n 1, 1) := by decide +kernel
theorem dX4_debtsNow_17 : decode cX4_debtsNow 17 = .ok (.iload_n 3, 1) := by decide +kernel
theorem dX4_debtsNow_18 : decode cX4_debtsNow 18 = .ok (.ishr, 1) := by decide +kernel
theorem dX4_debtsNow_19 : decode cX4_debtsNow 19 = .ok (.iconst 1, 1) := by decide +kernel
theorem dX4_debtsNow_20 : decode cX4_debtsNow 20 = .ok (.iand, 1) := by decide +kernel
theorem dX4_debtsNow_21 : decode cX4_debtsNow 21 = .ok (.aload_n 0, 1) := by decide +kernel
theorem dX4_debtsNow_22 : decode cX4_debtsNow 22 = .ok (.getfield 25, 3) := by decide +kernel
theorem dX4_debtsNow_25 : decode cX4_debtsNow 25 = .ok (.iload_n 3, 1) := by decide +kernel
theorem dX4_debtsNow_26 : decode cX4_debtsNow 26 = .ok (.iaload, 1) := by decide +kernel
theorem dX4_debtsNow_27 : decode cX4_debtsNow 27 = .ok (.aload_n 0, 1) := by decide +kernel
theorem dX4_debtsNow_28 : decode cX4_debtsNow 28 = .ok (.getfield 34, 3) := by decide +kernel
theorem dX4_debtsNow_31 : decode cX4_debtsNow 31 = .ok (.iload_n 3, 1) := by decide +kernel
theorem dX4_debtsNow_32 : decode cX4_debtsNow 32 = .ok (.iaload, 1) := by decide +kernel
theorem dX4_debtsNow_33 : decode cX4_debtsNow 33 = .ok (.invokestatic 119, 3) := by decide +kernel
theorem dX4_debtsNow_36 : decode cX4_debtsNow 36 = .ok (.imul, 1) := by decide +kernel
theorem dX4_debtsNow_37 : decode cX4_debtsNow 37 = .ok (.iadd, 1) := by decide +kernel
theorem dX4_debtsNow_38 : decode cX4_debtsNow 38 = .ok (.istore_n 2, 1) := by decide +kernel
theorem dX4_debtsNow_39 : decode cX4_debtsNow 39 = .ok (.iinc 3 1, 3) := by decide +kernel
theorem dX4_debtsNow_42 : decode cX4_debtsNow 42 = .ok (.goto (-33), 3) := by decide +kernel
theorem dX4_debtsNow_45 : decode cX4_debtsNow 45 = .ok (.iload_n 2, 1) := by decide +kernel
theorem dX4_debtsNow_46 : decode cX4_debtsNow 46 = .ok (.aload_n 0, 1) := by decide +kernel
theorem dX4_debtsNow_47 : decode cX4_debtsNow 47 = .ok (.invokevirtual 123, 3) := by decide +kernel
theorem dX4_debtsNow_50 : decode cX4_debtsNow 50 = .ok (.isub, 1) := by decide +kernel
theorem dX4_debtsNow_51 : decode cX4_debtsNow 51 = .ok (.ireturn, 1) := by decide +kernel
set_option maxRecDepth 20000 in
theorem ggX4_minorityNow_X4_groupSet : GoodIn wsX4_minorityNow wsX4_groupSet := goodIn_r _ [7, 8, 23, 24, 25, 26, 27, 28, 29, 30, 31, 32, 33, 34, 35, 36, 37, 38, 39, 40, 41] (by decide +kernel) (by decide +kernel)
set_option maxRecDepth 20000 in
theorem gX4_minorityNow_X4_groupSet : GoodIn wsX4_minorityNow (wsV RX4 114 RX4 yX4_groupSet wsX4_groupSet) := goodIn_app (goodIn_of _ (by decide +kernel)) ggX4_minorityNow_X4_groupSet
set_option maxRecDepth 20000 in
theorem ggX4_minorityNow_X4_net : GoodIn wsX4_minorityNow wsX4_net := goodIn_r _ [12, 13, 14, 15, 16, 17, 6, 18, 19, 20, 21, 22, 23, 24, 25, 26, 27, 28, 29, 30, 31, 32, 33, 34, 35, 36, 37, 38, 39, 40, 41] (by decide +kernel) (by decide +kernel)
set_option maxRecDepth 20000 in
theorem gX4_minorityNow_X4_net : GoodIn wsX4_minorityNow (wsV RX4 106 RX4 yX4_net wsX4_net) := goodIn_app (goodIn_of _ (by decide +kernel)) ggX4_minorityNow_X4_net
set_option maxRecDepth 20000 in
theorem ggX4_minorityNow_X4_floor : GoodIn wsX4_minorityNow wsX4_floor := goodIn_r _ [22] (by decide +kernel) (by decide +kernel)
set_option maxRecDepth 20000 in
theorem gX4_minorityNow_X4_floor : GoodIn wsX4_minorityNow (va_wsS RX4 111 yX4_floor wsX4_floor) := goodIn_app (goodIn_of _ (by decide +kernel)) ggX4_minorityNow_X4_floor
theorem dX4_minorityNow_0 : decode cX4_minorityNow 0 = .ok (.aload_n 0, 1) := by decide +kernel
theorem dX4_minorityNow_1 : decode cX4_minorityNow 1 = .ok (.invokevirtual 114, 3) := by decide +kernel
theorem dX4_minorityNow_4 : decode cX4_minorityNow 4 = .ok (.iload_n 1, 1) := by decide +kernel
theorem dX4_minorityNow_5 : decode cX4_minorityNow 5 = .ok (.ishr, 1) := by decide +kernel
theorem dX4_minorityNow_6 : decode cX4_minorityNow 6 = .ok (.iconst 1, 1) := by decide +kernel
theorem dX4_minorityNow_7 : decode cX4_minorityNow 7 = .ok (.iand, 1) := by decide +kernel
theorem dX4_minorityNow_8 : decode cX4_minorityNow 8 = .ok (.ifCond .ne 7, 3) := by decide +kernel
theorem dX4_minorityNow_11 : decode cX4_minorityNow 11 = .ok (.iconst 0, 1) := by decide +kernel
theorem dX4_minorityNow_12 : decode cX4_minorityNow 12 = .ok (.goto 33, 3) := by decide +kernel
theorem dX4_minorityNow_15 : decode cX4_minorityNow 15 = .ok (.aload_n 0, 1) := by decide +kernel
theorem dX4_minorityNow_16 : decode cX4_minorityNow 16 = .ok (.iload_n 1, 1) := by decide +kernel
theorem dX4_minorityNow_17 : decode cX4_minorityNow 17 = .ok (.invokevirtual 106, 3) := by decide +kernel
theorem dX4_minorityNow_20 : decode cX4_minorityNow 20 = .ok (.i2l, 1) := by decide +kernel
theorem dX4_minorityNow_21 : decode cX4_minorityNow 21 = .ok (.aload_n 0, 1) := by decide +kernel
theorem dX4_minorityNow_22 : decode cX4_minorityNow 22 = .ok (.getfield 53, 3) := by decide +kernel
theorem dX4_minorityNow_25 : decode cX4_minorityNow 25 = .ok (.iload_n 1, 1) := by decide +kernel
theorem dX4_minorityNow_26 : decode cX4_minorityNow 26 = .ok (.laload, 1) := by decide +kernel
theorem dX4_minorityNow_27 : decode cX4_minorityNow 27 = .ok (.aload_n 0, 1) := by decide +kernel
theorem dX4_minorityNow_28 : decode cX4_minorityNow 28 = .ok (.getfield 50, 3) := by decide +kernel
theorem dX4_minorityNow_31 : decode cX4_minorityNow 31 = .ok (.iload_n 1, 1) := by decide +kernel
theorem dX4_minorityNow_32 : decode cX4_minorityNow 32 = .ok (.laload, 1) := by decide +kernel
theorem dX4_minorityNow_33 : decode cX4_minorityNow 33 = .ok (.lsub, 1) := by decide +kernel
theorem dX4_minorityNow_34 : decode cX4_minorityNow 34 = .ok (.lmul, 1) := by decide +kernel
theorem dX4_minorityNow_35 : decode cX4_minorityNow 35 = .ok (.aload_n 0, 1) := by decide +kernel
theorem dX4_minorityNow_36 : decode cX4_minorityNow 36 = .ok (.getfield 53, 3) := by decide +kernel
theorem dX4_minorityNow_39 : decode cX4_minorityNow 39 = .ok (.iload_n 1, 1) := by decide +kernel
theorem dX4_minorityNow_40 : decode cX4_minorityNow 40 = .ok (.laload, 1) := by decide +kernel
theorem dX4_minorityNow_41 : decode cX4_minorityNow 41 = .ok (.invokestatic 111, 3) := by decide +kernel
theorem dX4_minorityNow_44 : decode cX4_minorityNow 44 = .ok (.l2i, 1) := by decide +kernel
theorem dX4_minorityNow_45 : decode cX4_minorityNow 45 = .ok (.ireturn, 1) := by decide +kernel
set_option maxRecDepth 20000 in
theorem ggX4_resultNow_X4_layShares : GoodIn wsX4_resultNow wsX4_layShares := goodIn_r _ [9, 3, 4, 10, 11, 12, 8, 13, 14, 15, 16, 17, 18, 19, 20, 21, 22, 23, 24, 25, 26, 38, 39, 40, 41, 42, 43, 44, 45, 46, 47, 48, 49, 50, 51, 52, 53, 54, 55, 56] (by decide +kernel) (by decide +kernel)
set_option maxRecDepth 20000 in
theorem gX4_resultNow_X4_layShares : GoodIn wsX4_resultNow (wsV RX4 90 RX4 yX4_layShares wsX4_layShares) := goodIn_app (goodIn_of _ (by decide +kernel)) ggX4_resultNow_X4_layShares
set_option maxRecDepth 20000 in
theorem ggX4_resultNow_X4_groupSet : GoodIn wsX4_resultNow wsX4_groupSet := goodIn_r _ [30, 14, 38, 39, 40, 41, 42, 43, 44, 45, 46, 47, 48, 49, 50, 51, 52, 53, 54, 55, 56] (by decide +kernel) (by decide +kernel)
set_option maxRecDepth 20000 in
theorem gX4_resultNow_X4_groupSet : GoodIn wsX4_resultNow (wsV RX4 114 RX4 yX4_groupSet wsX4_groupSet) := goodIn_app (goodIn_of _ (by decide +kernel)) ggX4_resultNow_X4_groupSet
set_option maxRecDepth 20000 in
theorem ggX4_resultNow_X4_translated : GoodIn wsX4_resultNow wsX4_translated := goodIn_r _ [33, 34, 35, 36, 8, 37] (by decide +kernel) (by decide +kernel)
set_option maxRecDepth 20000 in
theorem gX4_resultNow_X4_translated : GoodIn wsX4_resultNow (va_wsS RX4 119 yX4_translated wsX4_translated) := goodIn_app (goodIn_of _ (by decide +kernel)) ggX4_resultNow_X4_translated
set_option maxRecDepth 20000 in
theorem ggX4_resultNow_X4_floor : GoodIn wsX4_resultNow wsX4_floor := goodIn_r _ [37] (by decide +kernel) (by decide +kernel)
set_option maxRecDepth 20000 in
theorem gX4_resultNow_X4_floor : GoodIn wsX4_resultNow (va_wsS RX4 111 yX4_floor wsX4_floor) := goodIn_app (goodIn_of _ (by decide +kernel)) ggX4_resultNow_X4_floor
theorem dX4_resultNow_0 : decode cX4_resultNow 0 = .ok (.aload_n 0, 1) := by decide +kernel
theorem dX4_resultNow_1 : decode cX4_resultNow 1 = .ok (.invokevirtual 90, 3) := by decide +kernel
theorem dX4_resultNow_4 : decode cX4_resultNow 4 = .ok (.istore_n 1, 1) := by decide +kernel
theorem dX4_resultNow_5 : decode cX4_resultNow 5 = .ok (.aload_n 0, 1) := by decide +kernel
theorem dX4_resultNow_6 : decode cX4_resultNow 6 = .ok (.invokevirtual 114, 3) := by decide +kernel
theorem dX4_resultNow_9 : decode cX4_resultNow 9 = .ok (.istore_n 2, 1) := by decide +kernel
theorem dX4_resultNow_10 : decode cX4_resultNow 10 = .ok (.iconst 0, 1) := by decide +kernel
theorem dX4_resultNow_11 : decode cX4_resultNow 11 = .ok (.istore_n 3, 1) := by decide +kernel
theorem dX4_resultNow_12 : decode cX4_resultNow 12 = .ok (.iconst 0, 1) := by decide +kernel
theorem dX4_resultNow_13 : decode cX4_resultNow 13 = .ok (.istore 4, 2) := by decide +kernel
theorem dX4_resultNow_15 : decode cX4_resultNow 15 = .ok (.iload 4, 2) := by decide +kernel
theorem dX4_resultNow_17 : decode cX4_resultNow 17 = .ok (.bipush 6, 2) := by decide +kernel
theorem dX4_resultNow_19 : decode cX4_resultNow 19 = .ok (.if_icmp .ge 63, 3) := by decide +kernel
theorem dX4_resultNow_22 : decode cX4_resultNow 22 = .ok (.iload_n 3, 1) := by decide +kernel
theorem dX4_resultNow_23 : decode cX4_resultNow 23 = .ok (.iload_n 2, 1) := by decide +kernel
theorem dX4_resultNow_24 : decode cX4_resultNow 24 = .ok (.iload 4, 2) := by decide +kernel
theorem dX4_resultNow_26 : decode cX4_resultNow 26 = .ok (.ishr, 1) := by decide +kernel
theorem dX4_resultNow_27 : decode cX4_resultNow 27 = .ok (.iconst 1, 1) := by decide +kernel
theorem dX4_resultNow_28 : decode cX4_resultNow 28 = .ok (.iand, 1) := by decide +kernel
theorem dX4_resultNow_29 : decode cX4_resultNow 29 = .ok (.iconst 1, 1) := by decide +kernel
theorem dX4_resultNow_30 : decode cX4_resultNow 30 = .ok (.if_icmp .ne 43, 3) := by decide +kernel
theorem dX4_resultNow_33 : decode cX4_resultNow 33 = .ok (.aload_n 0, 1) := by decide +kernel
theorem dX4_resultNow_34 : decode cX4_resultNow 34 = .ok (.getfield 31, 3) := by decide +kernel
theorem dX4_resultNow_37 : decode cX4_resultNow 37 = .ok (.iload 4, 2) := by decide +kernel
theorem dX4_resultNow_39 : decode cX4_resultNow 39 = .ok (.iaload, 1) := by decide +kernel
theorem dX4_resultNow_40 : decode cX4_resultNow 40 = .ok (.aload_n 0, 1) := by decide +kernel
theorem dX4_resultNow_41 : decode cX4_resultNow 41 = .ok (.getfield 37, 3) := by decide +kernel
theorem dX4_resultNow_44 : decode cX4_resultNow 44 = .ok (.iload 4, 2) := by decide +kernel
theorem dX4_resultNow_46 : decode cX4_resultNow 46 = .ok (.iaload, 1) := by decide +kernel
theorem dX4_resultNow_47 : decode cX4_resultNow 47 = .ok (.invokestatic 119, 3) := by decide +kernel
theorem dX4_resultNow_50 : decode cX4_resultNow 50 = .ok (.i2l, 1) := by decide +kernel
theorem dX4_resultNow_51 : decode cX4_resultNow 51 = .ok (.aload_n 0, 1) := by decide +kernel
theorem dX4_resultNow_52 : decode cX4_resultNow 52 = .ok (.getfield 50, 3) := by decide +kernel
theorem dX4_resultNow_55 : decode cX4_resultNow 55 = .ok (.iload 4, 2) := by decide +kernel
theorem dX4_resultNow_57 : decode cX4_resultNow 57 = .ok (.laload, 1) := by decide +kernel
theorem dX4_resultNow_58 : decode cX4_resultNow 58 = .ok (.lmul, 1) := by decide +kernel
theorem dX4_resultNow_59 : decode cX4_resultNow 59 = .ok (.aload_n 0, 1) := by decide +kernel
theorem dX4_resultNow_60 : decode cX4_resultNow 60 = .ok (.getfield 53, 3) := by decide +kernel
theorem dX4_resultNow_63 : decode cX4_resultNow 63 = .ok (.iload 4, 2) := by decide +kernel
theorem dX4_resultNow_65 : decode cX4_resultNow 65 = .ok (.laload, 1) := by decide +kernel
theorem dX4_resultNow_66 : decode cX4_resultNow 66 = .ok (.invokestatic 111, 3) := by decide +kernel
theorem dX4_resultNow_69 : decode cX4_resultNow 69 = .ok (.l2i, 1) := by decide +kernel
theorem dX4_resultNow_70 : decode cX4_resultNow 70 = .ok (.goto 4, 3) := by decide +kernel
theorem dX4_resultNow_73 : decode cX4_resultNow 73 = .ok (.iconst 0, 1) := by decide +kernel
theorem dX4_resultNow_74 : decode cX4_resultNow 74 = .ok (.iadd, 1) := by decide +kernel
theorem dX4_resultNow_75 : decode cX4_resultNow 75 = .ok (.istore_n 3, 1) := by decide +kernel
theorem dX4_resultNow_76 : decode cX4_resultNow 76 = .ok (.iinc 4 1, 3) := by decide +kernel
theorem dX4_resultNow_79 : decode cX4_resultNow 79 = .ok (.goto (-64), 3) := by decide +kernel
theorem dX4_resultNow_82 : decode cX4_resultNow 82 = .ok (.iload_n 3, 1) := by decide +kernel
theorem dX4_resultNow_83 : decode cX4_resultNow 83 = .ok (.ireturn, 1) := by decide +kernel
set_option maxRecDepth 20000 in
theorem ggX4_assets_X4_assetsNow : GoodIn wsX4_assets wsX4_assetsNow := goodIn_r _ [6, 7, 8, 9, 10, 11, 5, 12, 13, 14, 15, 16, 17, 18, 19, 20, 21, 22, 23, 24, 25, 26, 27, 28, 29, 30, 31, 32, 33, 34, 35, 36, 37, 38, 39, 40, 41, 42, 43, 44, 45] (by decide +kernel) (by decide +kernel)
set_option maxRecDepth 20000 in
theorem gX4_assets_X4_assetsNow : GoodIn wsX4_assets (wsV RX4 126 RX4 yX4_assetsNow wsX4_assetsNow) := goodIn_app (goodIn_of _ (by decide +kernel)) ggX4_assets_X4_assetsNow
theorem dX4_assets_0 : decode cX4_assets 0 = .ok (.aload_n 0, 1) := by decide +kernel
theorem dX4_assets_1 : decode cX4_assets 1 = .ok (.iconst 0, 1) := by decide +kernel
theorem dX4_assets_2 : decode cX4_assets 2 = .ok (.putfield 62, 3) := by decide +kernel
theorem dX4_assets_5 : decode cX4_assets 5 = .ok (.aload_n 0, 1) := by decide +kernel
theorem dX4_assets_6 : decode cX4_assets 6 = .ok (.invokevirtual 126, 3) := by decide +kernel
theorem dX4_assets_9 : decode cX4_assets 9 = .ok (.ireturn, 1) := by decide +kernel
set_option maxRecDepth 20000 in
theorem ggX4_debts_X4_debtsNow : GoodIn wsX4_debts wsX4_debtsNow := goodIn_r _ [6, 7, 8, 9, 10, 11, 5, 12, 13, 14, 15, 16, 17, 18, 19, 20, 21, 22, 23, 24, 25, 26, 27, 28, 29, 30, 31, 32, 33, 34, 35, 36, 37, 38, 39, 40, 41, 42, 43, 44, 45] (by decide +kernel) (by decide +kernel)
set_option maxRecDepth 20000 in
theorem gX4_debts_X4_debtsNow : GoodIn wsX4_debts (wsV RX4 129 RX4 yX4_debtsNow wsX4_debtsNow) := goodIn_app (goodIn_of _ (by decide +kernel)) ggX4_debts_X4_debtsNow
theorem dX4_debts_0 : decode cX4_debts 0 = .ok (.aload_n 0, 1) := by decide +kernel
theorem dX4_debts_1 : decode cX4_debts 1 = .ok (.iconst 0, 1) := by decide +kernel
theorem dX4_debts_2 : decode cX4_debts 2 = .ok (.putfield 62, 3) := by decide +kernel
theorem dX4_debts_5 : decode cX4_debts 5 = .ok (.aload_n 0, 1) := by decide +kernel
theorem dX4_debts_6 : decode cX4_debts 6 = .ok (.invokevirtual 129, 3) := by decide +kernel
theorem dX4_debts_9 : decode cX4_debts 9 = .ok (.ireturn, 1) := by decide +kernel
set_option maxRecDepth 20000 in
theorem ggX4_minority_X4_isCompany : GoodIn wsX4_minority wsX4_isCompany := goodIn_r _ [5, 6, 7, 4, 8] (by decide +kernel) (by decide +kernel)
set_option maxRecDepth 20000 in
theorem gX4_minority_X4_isCompany : GoodIn wsX4_minority (va_wsS RX4 70 yX4_isCompany wsX4_isCompany) := goodIn_app (goodIn_of _ (by decide +kernel)) ggX4_minority_X4_isCompany
set_option maxRecDepth 20000 in
theorem ggX4_minority_X4_fails : GoodIn wsX4_minority wsX4_fails := goodIn_r _ [12, 1, 58, 59, 60, 61, 62, 63, 64, 65, 66, 67, 68, 69, 70, 71, 72, 73, 74, 75, 76] (by decide +kernel) (by decide +kernel)
set_option maxRecDepth 20000 in
theorem gX4_minority_X4_fails : GoodIn wsX4_minority (wsV RX4 98 RX4 yX4_fails wsX4_fails) := goodIn_app (goodIn_of _ (by decide +kernel)) ggX4_minority_X4_fails
set_option maxRecDepth 20000 in
theorem ggX4_minority_X4_layShares : GoodIn wsX4_minority wsX4_layShares := goodIn_r _ [16, 17, 18, 19, 20, 21, 4, 22, 23, 24, 25, 26, 27, 28, 29, 30, 31, 32, 33, 34, 35, 58, 59, 60, 61, 62, 63, 64, 65, 66, 67, 68, 69, 70, 71, 72, 73, 74, 75, 76] (by decide +kernel) (by decide +kernel)
set_option maxRecDepth 20000 in
theorem gX4_minority_X4_layShares : GoodIn wsX4_minority (wsV RX4 90 RX4 yX4_layShares wsX4_layShares) := goodIn_app (goodIn_of _ (by decide +kernel)) ggX4_minority_X4_layShares
set_option maxRecDepth 20000 in
theorem ggX4_minority_X4_minorityNow : GoodIn wsX4_minority wsX4_minorityNow := goodIn_r _ [39, 18, 17, 40, 41, 42, 4, 43, 23, 44, 45, 46, 47, 48, 49, 50, 51, 52, 53, 54, 55, 56, 57, 58, 59, 60, 61, 62, 63, 64, 65, 66, 67, 68, 69, 70, 71, 72, 73, 74, 75, 76] (by decide +kernel) (by decide +kernel)
set_option maxRecDepth 20000 in
theorem gX4_minority_X4_minorityNow : GoodIn wsX4_minority (wsV RX4 132 RX4 yX4_minorityNow wsX4_minorityNow) := goodIn_app (goodIn_of _ (by decide +kernel)) ggX4_minority_X4_minorityNow
theorem dX4_minority_0 : decode cX4_minority 0 = .ok (.aload_n 0, 1) := by decide +kernel
theorem dX4_minority_1 : decode cX4_minority 1 = .ok (.iconst 0, 1) := by decide +kernel
theorem dX4_minority_2 : decode cX4_minority 2 = .ok (.putfield 62, 3) := by decide +kernel
theorem dX4_minority_5 : decode cX4_minority 5 = .ok (.iload_n 1, 1) := by decide +kernel
theorem dX4_minority_6 : decode cX4_minority 6 = .ok (.invokestatic 70, 3) := by decide +kernel
theorem dX4_minority_9 : decode cX4_minority 9 = .ok (.ifCond .ne 9, 3) := by decide +kernel
theorem dX4_minority_12 : decode cX4_minority 12 = .ok (.aload_n 0, 1) := by decide +kernel
theorem dX4_minority_13 : decode cX4_minority 13 = .ok (.iconst 1, 1) := by decide +kernel
theorem dX4_minority_14 : decode cX4_minority 14 = .ok (.invokevirtual 98, 3) := by decide +kernel
theorem dX4_minority_17 : decode cX4_minority 17 = .ok (.ireturn, 1) := by decide +kernel
theorem dX4_minority_18 : decode cX4_minority 18 = .ok (.aload_n 0, 1) := by decide +kernel
theorem dX4_minority_19 : decode cX4_minority 19 = .ok (.invokevirtual 90, 3) := by decide +kernel
theorem dX4_minority_22 : decode cX4_minority 22 = .ok (.istore_n 2, 1) := by decide +kernel
theorem dX4_minority_23 : decode cX4_minority 23 = .ok (.aload_n 0, 1) := by decide +kernel
theorem dX4_minority_24 : decode cX4_minority 24 = .ok (.iload_n 1, 1) := by decide +kernel
theorem dX4_minority_25 : decode cX4_minority 25 = .ok (.invokevirtual 132, 3) := by decide +kernel
theorem dX4_minority_28 : decode cX4_minority 28 = .ok (.ireturn, 1) := by decide +kernel
set_option maxRecDepth 20000 in
theorem ggX4_equity_X4_layShares : GoodIn wsX4_equity wsX4_layShares := goodIn_r _ [6, 7, 8, 9, 10, 11, 5, 12, 13, 14, 15, 16, 17, 18, 19, 20, 21, 22, 23, 24, 25, 62, 63, 64, 65, 66, 67, 68, 69, 70, 71, 72, 73, 74, 75, 76, 77, 78, 79, 80] (by decide +kernel) (by decide +kernel)
set_option maxRecDepth 20000 in
theorem gX4_equity_X4_layShares : GoodIn wsX4_equity (wsV RX4 90 RX4 yX4_layShares wsX4_layShares) := goodIn_app (goodIn_of _ (by decide +kernel)) ggX4_equity_X4_layShares
set_option maxRecDepth 20000 in
theorem ggX4_equity_X4_assetsNow : GoodIn wsX4_equity wsX4_assetsNow := goodIn_r _ [29, 30, 31, 32, 33, 34, 5, 35, 13, 36, 37, 38, 39, 40, 41, 42, 43, 44, 45, 46, 47, 48, 62, 63, 64, 65, 66, 67, 68, 69, 70, 71, 72, 73, 74, 75, 76, 77, 78, 79, 80] (by decide +kernel) (by decide +kernel)
set_option maxRecDepth 20000 in
theorem gX4_equity_X4_assetsNow : GoodIn wsX4_equity (wsV RX4 126 RX4 yX4_assetsNow wsX4_assetsNow) := goodIn_app (goodIn_of _ (by decide +kernel)) ggX4_equity_X4_assetsNow
set_option maxRecDepth 20000 in
theorem ggX4_equity_X4_debtsNow : GoodIn wsX4_equity wsX4_debtsNow := goodIn_r _ [52, 53, 31, 32, 33, 34, 5, 35, 13, 36, 37, 38, 39, 40, 41, 42, 43, 44, 45, 46, 47, 48, 62, 63, 64, 65, 66, 67, 68, 69, 70, 71, 72, 73, 74, 75, 76, 77, 78, 79, 80] (by decide +kernel) (by decide +kernel)
set_option maxRecDepth 20000 in
theorem gX4_equity_X4_debtsNow : GoodIn wsX4_equity (wsV RX4 129 RX4 yX4_debtsNow wsX4_debtsNow) := goodIn_app (goodIn_of _ (by decide +kernel)) ggX4_equity_X4_debtsNow
set_option maxRecDepth 20000 in
theorem ggX4_equity_X4_minorityNow : GoodIn wsX4_equity wsX4_minorityNow := goodIn_r _ [57, 8, 7, 32, 33, 34, 5, 35, 13, 58, 59, 60, 61, 30, 31, 53, 36, 37, 38, 39, 40, 41, 42, 62, 63, 64, 65, 66, 67, 68, 69, 70, 71, 72, 73, 74, 75, 76, 77, 78, 79, 80] (by decide +kernel) (by decide +kernel)
set_option maxRecDepth 20000 in
theorem gX4_equity_X4_minorityNow : GoodIn wsX4_equity (wsV RX4 132 RX4 yX4_minorityNow wsX4_minorityNow) := goodIn_app (goodIn_of _ (by decide +kernel)) ggX4_equity_X4_minorityNow
theorem dX4_equity_0 : decode cX4_equity 0 = .ok (.aload_n 0, 1) := by decide +kernel
theorem dX4_equity_1 : decode cX4_equity 1 = .ok (.iconst 0, 1) := by decide +kernel
theorem dX4_equity_2 : decode cX4_equity 2 = .ok (.putfield 62, 3) := by decide +kernel
theorem dX4_equity_5 : decode cX4_equity 5 = .ok (.aload_n 0, 1) := by decide +kernel
theorem dX4_equity_6 : decode cX4_equity 6 = .ok (.invokevirtual 90, 3) := by decide +kernel
theorem dX4_equity_9 : decode cX4_equity 9 = .ok (.istore_n 1, 1) := by decide +kernel
theorem dX4_equity_10 : decode cX4_equity 10 = .ok (.aload_n 0, 1) := by decide +kernel
theorem dX4_equity_11 : decode cX4_equity 11 = .ok (.invokevirtual 126, 3) := by decide +kernel
theorem dX4_equity_14 : decode cX4_equity 14 = .ok (.aload_n 0, 1) := by decide +kernel
theorem dX4_equity_15 : decode cX4_equity 15 = .ok (.invokevirtual 129, 3) := by decide +kernel
theorem dX4_equity_18 : decode cX4_equity 18 = .ok (.isub, 1) := by decide +kernel
theorem dX4_equity_19 : decode cX4_equity 19 = .ok (.istore_n 2, 1) := by decide +kernel
theorem dX4_equity_20 : decode cX4_equity 20 = .ok (.iconst 0, 1) := by decide +kernel
theorem dX4_equity_21 : decode cX4_equity 21 = .ok (.istore_n 3, 1) := by decide +kernel
theorem dX4_equity_22 : decode cX4_equity 22 = .ok (.iload_n 3, 1) := by decide +kernel
theorem dX4_equity_23 : decode cX4_equity 23 = .ok (.bipush 6, 2) := by decide +kernel
theorem dX4_equity_25 : decode cX4_equity 25 = .ok (.if_icmp .ge 17, 3) := by decide +kernel
theorem dX4_equity_28 : decode cX4_equity 28 = .ok (.iload_n 2, 1) := by decide +kernel
theorem dX4_equity_29 : decode cX4_equity 29 = .ok (.aload_n 0, 1) := by decide +kernel
theorem dX4_equity_30 : decode cX4_equity 30 = .ok (.iload_n 3, 1) := by decide +kernel
theorem dX4_equity_31 : decode cX4_equity 31 = .ok (.invokevirtual 132, 3) := by decide +kernel
theorem dX4_equity_34 : decode cX4_equity 34 = .ok (.isub, 1) := by decide +kernel
theorem dX4_equity_35 : decode cX4_equity 35 = .ok (.istore_n 2, 1) := by decide +kernel
theorem dX4_equity_36 : decode cX4_equity 36 = .ok (.iinc 3 1, 3) := by decide +kernel
theorem dX4_equity_39 : decode cX4_equity 39 = .ok (.goto (-17), 3) := by decide +kernel
theorem dX4_equity_42 : decode cX4_equity 42 = .ok (.iload_n 2, 1) := by decide +kernel
theorem dX4_equity_43 : decode cX4_equity 43 = .ok (.ireturn, 1) := by decide +kernel
set_option maxRecDepth 20000 in
theorem ggX4_result_X4_resultNow : GoodIn wsX4_result wsX4_resultNow := goodIn_r _ [6, 7, 8, 9, 10, 11, 12, 13, 5, 14, 15, 16, 17, 18, 19, 20, 21, 22, 23, 24, 25, 26, 27, 28, 29, 30, 31, 32, 33, 34, 35, 36, 37, 38, 39, 40, 41, 42, 43, 44, 45, 46, 47, 48, 49, 50, 51, 52, 53, 54, 55, 56, 57, 58, 59, 60, 61] (by decide +kernel) (by decide +kernel)
set_option maxRecDepth 20000 in
theorem gX4_result_X4_resultNow : GoodIn wsX4_result (wsV RX4 135 RX4 yX4_resultNow wsX4_resultNow) := goodIn_app (goodIn_of _ (by decide +kernel)) ggX4_result_X4_resultNow
theorem dX4_result_0 : decode cX4_result 0 = .ok (.aload_n 0, 1) := by decide +kernel
theorem dX4_result_1 : decode cX4_result 1 = .ok (.iconst 0, 1) := by decide +kernel
theorem dX4_result_2 : decode cX4_result 2 = .ok (.putfield 62, 3) := by decide +kernel
theorem dX4_result_5 : decode cX4_result 5 = .ok (.aload_n 0, 1) := by decide +kernel
theorem dX4_result_6 : decode cX4_result 6 = .ok (.invokevirtual 135, 3) := by decide +kernel
theorem dX4_result_9 : decode cX4_result 9 = .ok (.ireturn, 1) := by decide +kernel
set_option maxRecDepth 20000 in
theorem ggX4_close_X4_fails : GoodIn wsX4_close wsX4_fails := goodIn_r _ [10, 1, 50, 51, 52, 53, 54, 55, 56, 57, 58, 59, 60, 61, 62, 63, 64, 65, 66, 67, 68] (by decide +kernel) (by decide +kernel)
set_option maxRecDepth 20000 in
theorem gX4_close_X4_fails : GoodIn wsX4_close (wsV RX4 98 RX4 yX4_fails wsX4_fails) := goodIn_app (goodIn_of _ (by decide +kernel)) ggX4_close_X4_fails
set_option maxRecDepth 20000 in
theorem ggX4_close_X4_resultNow : GoodIn wsX4_close wsX4_resultNow := goodIn_r _ [14, 5, 15, 16, 17, 18, 19, 20, 9, 21, 22, 23, 24, 25, 26, 27, 28, 29, 30, 31, 32, 33, 34, 35, 36, 37, 38, 39, 40, 41, 42, 43, 44, 45, 46, 47, 48, 49, 50, 51, 52, 53, 54, 55, 56, 57, 58, 59, 60, 61, 62, 63, 64, 65, 66, 67, 68] (by decide +kernel) (by decide +kernel)
set_option maxRecDepth 20000 in
theorem gX4_close_X4_resultNow : GoodIn wsX4_close (wsV RX4 135 RX4 yX4_resultNow wsX4_resultNow) := goodIn_app (goodIn_of _ (by decide +kernel)) ggX4_close_X4_resultNow
theorem dX4_close_0 : decode cX4_close 0 = .ok (.aload_n 0, 1) := by decide +kernel
theorem dX4_close_1 : decode cX4_close 1 = .ok (.iconst 0, 1) := by decide +kernel
theorem dX4_close_2 : decode cX4_close 2 = .ok (.putfield 62, 3) := by decide +kernel
theorem dX4_close_5 : decode cX4_close 5 = .ok (.aload_n 0, 1) := by decide +kernel
theorem dX4_close_6 : decode cX4_close 6 = .ok (.getfield 138, 3) := by decide +kernel
theorem dX4_close_9 : decode cX4_close 9 = .ok (.bipush 12, 2) := by decide +kernel
theorem dX4_close_11 : decode cX4_close 11 = .ok (.if_icmp .ne 9, 3) := by decide +kernel
theorem dX4_close_14 : decode cX4_close 14 = .ok (.aload_n 0, 1) := by decide +kernel
theorem dX4_close_15 : decode cX4_close 15 = .ok (.iconst 1, 1) := by decide +kernel
theorem dX4_close_16 : decode cX4_close 16 = .ok (.invokevirtual 98, 3) := by decide +kernel
theorem dX4_close_19 : decode cX4_close 19 = .ok (.ireturn, 1) := by decide +kernel
theorem dX4_close_20 : decode cX4_close 20 = .ok (.aload_n 0, 1) := by decide +kernel
theorem dX4_close_21 : decode cX4_close 21 = .ok (.getfield 43, 3) := by decide +kernel
theorem dX4_close_24 : decode cX4_close 24 = .ok (.aload_n 0, 1) := by decide +kernel
theorem dX4_close_25 : decode cX4_close 25 = .ok (.getfield 138, 3) := by decide +kernel
theorem dX4_close_28 : decode cX4_close 28 = .ok (.aload_n 0, 1) := by decide +kernel
theorem dX4_close_29 : decode cX4_close 29 = .ok (.invokevirtual 135, 3) := by decide +kernel
theorem dX4_close_32 : decode cX4_close 32 = .ok (.iastore, 1) := by decide +kernel
theorem dX4_close_33 : decode cX4_close 33 = .ok (.aload_n 0, 1) := by decide +kernel
theorem dX4_close_34 : decode cX4_close 34 = .ok (.dup, 1) := by decide +kernel
theorem dX4_close_35 : decode cX4_close 35 = .ok (.getfield 138, 3) := by decide +kernel
theorem dX4_close_38 : decode cX4_close 38 = .ok (.iconst 1, 1) := by decide +kernel
theorem dX4_close_39 : decode cX4_close 39 = .ok (.iadd, 1) := by decide +kernel
theorem dX4_close_40 : decode cX4_close 40 = .ok (.putfield 138, 3) := by decide +kernel
theorem dX4_close_43 : decode cX4_close 43 = .ok (.iconst 0, 1) := by decide +kernel
theorem dX4_close_44 : decode cX4_close 44 = .ok (.istore_n 1, 1) := by decide +kernel
theorem dX4_close_45 : decode cX4_close 45 = .ok (.iload_n 1, 1) := by decide +kernel
theorem dX4_close_46 : decode cX4_close 46 = .ok (.bipush 6, 2) := by decide +kernel
theorem dX4_close_48 : decode cX4_close 48 = .ok (.if_icmp .ge 31, 3) := by decide +kernel
theorem dX4_close_51 : decode cX4_close 51 = .ok (.aload_n 0, 1) := by decide +kernel
theorem dX4_close_52 : decode cX4_close 52 = .ok (.getfield 28, 3) := by decide +kernel
theorem dX4_close_55 : decode cX4_close 55 = .ok (.iload_n 1, 1) := by decide +kernel
theorem dX4_close_56 : decode cX4_close 56 = .ok (.dup2, 1) := by decide +kernel
theorem dX4_close_57 : decode cX4_close 57 = .ok (.iaload, 1) := by decide +kernel
theorem dX4_close_58 : decode cX4_close 58 = .ok (.aload_n 0, 1) := by decide +kernel
theorem dX4_close_59 : decode cX4_close 59 = .ok (.getfield 31, 3) := by decide +kernel
theorem dX4_close_62 : decode cX4_close 62 = .ok (.iload_n 1, 1) := by decide +kernel
theorem dX4_close_63 : decode cX4_close 63 = .ok (.iaload, 1) := by decide +kernel
theorem dX4_close_64 : decode cX4_close 64 = .ok (.iadd, 1) := by decide +kernel
theorem dX4_close_65 : decode cX4_close 65 = .ok (.iastore, 1) := by decide +kernel
theorem dX4_close_66 : decode cX4_close 66 = .ok (.aload_n 0, 1) := by decide +kernel
theorem dX4_close_67 : decode cX4_close 67 = .ok (.getfield 31, 3) := by decide +kernel
theorem dX4_close_70 : decode cX4_close 70 = .ok (.iload_n 1, 1) := by decide +kernel
theorem dX4_close_71 : decode cX4_close 71 = .ok (.iconst 0, 1) := by decide +kernel
theorem dX4_close_72 : decode cX4_close 72 = .ok (.iastore, 1) := by decide +kernel
theorem dX4_close_73 : decode cX4_close 73 = .ok (.iinc 1 1, 3) := by decide +kernel
theorem dX4_close_76 : decode cX4_close 76 = .ok (.goto (-31), 3) := by decide +kernel
theorem dX4_close_79 : decode cX4_close 79 = .ok (.aload_n 0, 1) := by decide +kernel
theorem dX4_close_80 : decode cX4_close 80 = .ok (.getfield 43, 3) := by decide +kernel
theorem dX4_close_83 : decode cX4_close 83 = .ok (.aload_n 0, 1) := by decide +kernel
theorem dX4_close_84 : decode cX4_close 84 = .ok (.getfield 138, 3) := by decide +kernel
theorem dX4_close_87 : decode cX4_close 87 = .ok (.iconst 1, 1) := by decide +kernel
theorem dX4_close_88 : decode cX4_close 88 = .ok (.isub, 1) := by decide +kernel
theorem dX4_close_89 : decode cX4_close 89 = .ok (.iaload, 1) := by decide +kernel
theorem dX4_close_90 : decode cX4_close 90 = .ok (.ireturn, 1) := by decide +kernel
set_option maxRecDepth 20000 in
theorem ggX4_resultOf_X4_in : GoodIn wsX4_resultOf wsX4_in := goodIn_r _ [7] (by decide +kernel) (by decide +kernel)
set_option maxRecDepth 20000 in
theorem gX4_resultOf_X4_in : GoodIn wsX4_resultOf (va_wsS RX4 66 yX4_in wsX4_in) := goodIn_app (goodIn_of _ (by decide +kernel)) ggX4_resultOf_X4_in
set_option maxRecDepth 20000 in
theorem ggX4_resultOf_X4_fails : GoodIn wsX4_resultOf wsX4_fails := goodIn_r _ [11, 1, 12, 13, 14, 15, 16, 17, 18, 19, 20, 21, 22, 23, 24, 25, 26, 27, 28, 29, 30] (by decide +kernel) (by decide +kernel)
set_option maxRecDepth 20000 in
theorem gX4_resultOf_X4_fails : GoodIn wsX4_resultOf (wsV RX4 98 RX4 yX4_fails wsX4_fails) := goodIn_app (goodIn_of _ (by decide +kernel)) ggX4_resultOf_X4_fails
theorem dX4_resultOf_0 : decode cX4_resultOf 0 = .ok (.aload_n 0, 1) := by decide +kernel
theorem dX4_resultOf_1 : decode cX4_resultOf 1 = .ok (.iconst 0, 1) := by decide +kernel
theorem dX4_resultOf_2 : decode cX4_resultOf 2 = .ok (.putfield 62, 3) := by decide +kernel
theorem dX4_resultOf_5 : decode cX4_resultOf 5 = .ok (.iload_n 1, 1) := by decide +kernel
theorem dX4_resultOf_6 : decode cX4_resultOf 6 = .ok (.iconst 0, 1) := by decide +kernel
theorem dX4_resultOf_7 : decode cX4_resultOf 7 = .ok (.aload_n 0, 1) := by decide +kernel
theorem dX4_resultOf_8 : decode cX4_resultOf 8 = .ok (.getfield 138, 3) := by decide +kernel
theorem dX4_resultOf_11 : decode cX4_resultOf 11 = .ok (.iconst 1, 1) := by decide +kernel
theorem dX4_resultOf_12 : decode cX4_resultOf 12 = .ok (.isub, 1) := by decide +kernel
theorem dX4_resultOf_13 : decode cX4_resultOf 13 = .ok (.invokestatic 66, 3) := by decide +kernel
theorem dX4_resultOf_16 : decode cX4_resultOf 16 = .ok (.ifCond .eq 12, 3) := by decide +kernel
theorem dX4_resultOf_19 : decode cX4_resultOf 19 = .ok (.aload_n 0, 1) := by decide +kernel
theorem dX4_resultOf_20 : decode cX4_resultOf 20 = .ok (.getfield 43, 3) := by decide +kernel
theorem dX4_resultOf_23 : decode cX4_resultOf 23 = .ok (.iload_n 1, 1) := by decide +kernel
theorem dX4_resultOf_24 : decode cX4_resultOf 24 = .ok (.iaload, 1) := by decide +kernel
theorem dX4_resultOf_25 : decode cX4_resultOf 25 = .ok (.goto 8, 3) := by decide +kernel
theorem dX4_resultOf_28 : decode cX4_resultOf 28 = .ok (.aload_n 0, 1) := by decide +kernel
theorem dX4_resultOf_29 : decode cX4_resultOf 29 = .ok (.iconst 1, 1) := by decide +kernel
theorem dX4_resultOf_30 : decode cX4_resultOf 30 = .ok (.invokevirtual 98, 3) := by decide +kernel
theorem dX4_resultOf_33 : decode cX4_resultOf 33 = .ok (.ireturn, 1) := by decide +kernel
