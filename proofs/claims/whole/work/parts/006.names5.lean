theorem dX5_weights_16 : decode cX5_weights 16 = .ok (.iaload, 1) := by decide +kernel
theorem dX5_weights_17 : decode cX5_weights 17 = .ok (.iadd, 1) := by decide +kernel
theorem dX5_weights_18 : decode cX5_weights 18 = .ok (.istore_n 1, 1) := by decide +kernel
theorem dX5_weights_19 : decode cX5_weights 19 = .ok (.iinc 2 1, 3) := by decide +kernel
theorem dX5_weights_22 : decode cX5_weights 22 = .ok (.goto (-18), 3) := by decide +kernel
theorem dX5_weights_25 : decode cX5_weights 25 = .ok (.iload_n 1, 1) := by decide +kernel
theorem dX5_weights_26 : decode cX5_weights 26 = .ok (.ireturn, 1) := by decide +kernel
set_option maxRecDepth 20000 in
theorem ggX5_weight_X5_isPlace : GoodIn wsX5_weight wsX5_isPlace := goodIn_r _ [6, 1, 7, 8, 5, 9] (by decide +kernel) (by decide +kernel)
set_option maxRecDepth 20000 in
theorem gX5_weight_X5_isPlace : GoodIn wsX5_weight (va_wsS RX5 66 yX5_isPlace wsX5_isPlace) := goodIn_app (goodIn_of _ (by decide +kernel)) ggX5_weight_X5_isPlace
set_option maxRecDepth 20000 in
theorem ggX5_weight_X5_in : GoodIn wsX5_weight wsX5_in := goodIn_r _ [9] (by decide +kernel) (by decide +kernel)
set_option maxRecDepth 20000 in
theorem gX5_weight_X5_in : GoodIn wsX5_weight (va_wsS RX5 53 yX5_in wsX5_in) := goodIn_app (goodIn_of _ (by decide +kernel)) ggX5_weight_X5_in
set_option maxRecDepth 20000 in
theorem ggX5_weight_X5_weights : GoodIn wsX5_weight wsX5_weights := goodIn_r _ [13, 2, 14, 15, 16, 17, 18, 19, 20, 21, 22, 23, 24, 25, 26, 27, 28, 29, 30, 31, 32, 33, 34, 35, 36, 37] (by decide +kernel) (by decide +kernel)
set_option maxRecDepth 20000 in
theorem gX5_weight_X5_weights : GoodIn wsX5_weight (wsV RX5 143 RX5 yX5_weights wsX5_weights) := goodIn_app (goodIn_of _ (by decide +kernel)) ggX5_weight_X5_weights
theorem dX5_weight_0 : decode cX5_weight 0 = .ok (.iload_n 1, 1) := by decide +kernel
theorem dX5_weight_1 : decode cX5_weight 1 = .ok (.invokestatic 66, 3) := by decide +kernel
theorem dX5_weight_4 : decode cX5_weight 4 = .ok (.ifCond .ne 5, 3) := by decide +kernel
theorem dX5_weight_7 : decode cX5_weight 7 = .ok (.iconst (-1), 1) := by decide +kernel
theorem dX5_weight_8 : decode cX5_weight 8 = .ok (.ireturn, 1) := by decide +kernel
theorem dX5_weight_9 : decode cX5_weight 9 = .ok (.iload_n 2, 1) := by decide +kernel
theorem dX5_weight_10 : decode cX5_weight 10 = .ok (.i2l, 1) := by decide +kernel
theorem dX5_weight_11 : decode cX5_weight 11 = .ok (.lconst 0, 1) := by decide +kernel
theorem dX5_weight_12 : decode cX5_weight 12 = .ok (.ldc2_w 57, 3) := by decide +kernel
theorem dX5_weight_15 : decode cX5_weight 15 = .ok (.invokestatic 53, 3) := by decide +kernel
theorem dX5_weight_18 : decode cX5_weight 18 = .ok (.ifCond .eq 20, 3) := by decide +kernel
theorem dX5_weight_21 : decode cX5_weight 21 = .ok (.aload_n 0, 1) := by decide +kernel
theorem dX5_weight_22 : decode cX5_weight 22 = .ok (.invokevirtual 143, 3) := by decide +kernel
theorem dX5_weight_25 : decode cX5_weight 25 = .ok (.aload_n 0, 1) := by decide +kernel
theorem dX5_weight_26 : decode cX5_weight 26 = .ok (.getfield 19, 3) := by decide +kernel
theorem dX5_weight_29 : decode cX5_weight 29 = .ok (.iload_n 1, 1) := by decide +kernel
theorem dX5_weight_30 : decode cX5_weight 30 = .ok (.iaload, 1) := by decide +kernel
theorem dX5_weight_31 : decode cX5_weight 31 = .ok (.isub, 1) := by decide +kernel
theorem dX5_weight_32 : decode cX5_weight 32 = .ok (.iload_n 2, 1) := by decide +kernel
theorem dX5_weight_33 : decode cX5_weight 33 = .ok (.iadd, 1) := by decide +kernel
theorem dX5_weight_34 : decode cX5_weight 34 = .ok (.iconst 1, 1) := by decide +kernel
theorem dX5_weight_35 : decode cX5_weight 35 = .ok (.if_icmp .ge 6, 3) := by decide +kernel
theorem dX5_weight_38 : decode cX5_weight 38 = .ok (.bipush (-2), 2) := by decide +kernel
theorem dX5_weight_40 : decode cX5_weight 40 = .ok (.ireturn, 1) := by decide +kernel
theorem dX5_weight_41 : decode cX5_weight 41 = .ok (.aload_n 0, 1) := by decide +kernel
theorem dX5_weight_42 : decode cX5_weight 42 = .ok (.getfield 19, 3) := by decide +kernel
theorem dX5_weight_45 : decode cX5_weight 45 = .ok (.iload_n 1, 1) := by decide +kernel
theorem dX5_weight_46 : decode cX5_weight 46 = .ok (.iaload, 1) := by decide +kernel
theorem dX5_weight_47 : decode cX5_weight 47 = .ok (.istore_n 3, 1) := by decide +kernel
theorem dX5_weight_48 : decode cX5_weight 48 = .ok (.aload_n 0, 1) := by decide +kernel
theorem dX5_weight_49 : decode cX5_weight 49 = .ok (.getfield 19, 3) := by decide +kernel
theorem dX5_weight_52 : decode cX5_weight 52 = .ok (.iload_n 1, 1) := by decide +kernel
theorem dX5_weight_53 : decode cX5_weight 53 = .ok (.iload_n 2, 1) := by decide +kernel
theorem dX5_weight_54 : decode cX5_weight 54 = .ok (.iastore, 1) := by decide +kernel
theorem dX5_weight_55 : decode cX5_weight 55 = .ok (.iload_n 3, 1) := by decide +kernel
theorem dX5_weight_56 : decode cX5_weight 56 = .ok (.ireturn, 1) := by decide +kernel
set_option maxRecDepth 20000 in
theorem ggX5_sixtieths_X5_rulersBy : GoodIn wsX5_sixtieths wsX5_rulersBy := goodIn_r _ [7, 8, 9, 10, 6, 11, 12, 13, 14, 15, 16, 17, 18, 19, 20, 21, 22, 23, 24, 25, 26, 27, 28, 29, 30, 31, 32, 33, 37, 38, 39, 40, 41, 42, 43, 44, 45, 46, 47, 48, 49, 50, 51, 52, 53, 54, 55, 56, 57, 58, 59, 60] (by decide +kernel) (by decide +kernel)
set_option maxRecDepth 20000 in
theorem gX5_sixtieths_X5_rulersBy : GoodIn wsX5_sixtieths (wsV RX5 111 RX5 yX5_rulersBy wsX5_rulersBy) := goodIn_app (goodIn_of _ (by decide +kernel)) ggX5_sixtieths_X5_rulersBy
set_option maxRecDepth 20000 in
theorem ggX5_sixtieths_X5_ones : GoodIn wsX5_sixtieths wsX5_ones := goodIn_r _ [36] (by decide +kernel) (by decide +kernel)
set_option maxRecDepth 20000 in
theorem gX5_sixtieths_X5_ones : GoodIn wsX5_sixtieths (va_wsS RX5 72 yX5_ones wsX5_ones) := goodIn_app (goodIn_of _ (by decide +kernel)) ggX5_sixtieths_X5_ones
theorem dX5_sixtieths_0 : decode cX5_sixtieths 0 = .ok (.iconst 0, 1) := by decide +kernel
theorem dX5_sixtieths_1 : decode cX5_sixtieths 1 = .ok (.istore_n 2, 1) := by decide +kernel
theorem dX5_sixtieths_2 : decode cX5_sixtieths 2 = .ok (.iconst 0, 1) := by decide +kernel
theorem dX5_sixtieths_3 : decode cX5_sixtieths 3 = .ok (.istore_n 3, 1) := by decide +kernel
theorem dX5_sixtieths_4 : decode cX5_sixtieths 4 = .ok (.iload_n 3, 1) := by decide +kernel
theorem dX5_sixtieths_5 : decode cX5_sixtieths 5 = .ok (.bipush 10, 2) := by decide +kernel
theorem dX5_sixtieths_7 : decode cX5_sixtieths 7 = .ok (.if_icmp .ge 127, 3) := by decide +kernel
theorem dX5_sixtieths_10 : decode cX5_sixtieths 10 = .ok (.aload_n 0, 1) := by decide +kernel
theorem dX5_sixtieths_11 : decode cX5_sixtieths 11 = .ok (.iload_n 3, 1) := by decide +kernel
theorem dX5_sixtieths_12 : decode cX5_sixtieths 12 = .ok (.invokevirtual 111, 3) := by decide +kernel
theorem dX5_sixtieths_15 : decode cX5_sixtieths 15 = .ok (.istore 4, 2) := by decide +kernel
theorem dX5_sixtieths_17 : decode cX5_sixtieths 17 = .ok (.iconst 0, 1) := by decide +kernel
theorem dX5_sixtieths_18 : decode cX5_sixtieths 18 = .ok (.istore 5, 2) := by decide +kernel
theorem dX5_sixtieths_20 : decode cX5_sixtieths 20 = .ok (.iconst 0, 1) := by decide +kernel
theorem dX5_sixtieths_21 : decode cX5_sixtieths 21 = .ok (.istore 6, 2) := by decide +kernel
theorem dX5_sixtieths_23 : decode cX5_sixtieths 23 = .ok (.iload 6, 2) := by decide +kernel
theorem dX5_sixtieths_25 : decode cX5_sixtieths 25 = .ok (.bipush 6, 2) := by decide +kernel
theorem dX5_sixtieths_27 : decode cX5_sixtieths 27 = .ok (.if_icmp .ge 71, 3) := by decide +kernel
theorem dX5_sixtieths_30 : decode cX5_sixtieths 30 = .ok (.iload_n 1, 1) := by decide +kernel
theorem dX5_sixtieths_31 : decode cX5_sixtieths 31 = .ok (.bipush 6, 2) := by decide +kernel
theorem dX5_sixtieths_33 : decode cX5_sixtieths 33 = .ok (.if_icmp .ge 17, 3) := by decide +kernel
theorem dX5_sixtieths_36 : decode cX5_sixtieths 36 = .ok (.iload 6, 2) := by decide +kernel
theorem dX5_sixtieths_38 : decode cX5_sixtieths 38 = .ok (.iload_n 1, 1) := by decide +kernel
theorem dX5_sixtieths_39 : decode cX5_sixtieths 39 = .ok (.if_icmp .ne 7, 3) := by decide +kernel
theorem dX5_sixtieths_42 : decode cX5_sixtieths 42 = .ok (.iconst 1, 1) := by decide +kernel
theorem dX5_sixtieths_43 : decode cX5_sixtieths 43 = .ok (.goto 26, 3) := by decide +kernel
theorem dX5_sixtieths_46 : decode cX5_sixtieths 46 = .ok (.iconst 0, 1) := by decide +kernel
theorem dX5_sixtieths_47 : decode cX5_sixtieths 47 = .ok (.goto 22, 3) := by decide +kernel
theorem dX5_sixtieths_50 : decode cX5_sixtieths 50 = .ok (.aload_n 0, 1) := by decide +kernel
theorem dX5_sixtieths_51 : decode cX5_sixtieths 51 = .ok (.getfield 16, 3) := by decide +kernel
theorem dX5_sixtieths_54 : decode cX5_sixtieths 54 = .ok (.iload 6, 2) := by decide +kernel
theorem dX5_sixtieths_56 : decode cX5_sixtieths 56 = .ok (.iaload, 1) := by decide +kernel
theorem dX5_sixtieths_57 : decode cX5_sixtieths 57 = .ok (.iload_n 1, 1) := by decide +kernel
theorem dX5_sixtieths_58 : decode cX5_sixtieths 58 = .ok (.bipush 6, 2) := by decide +kernel
theorem dX5_sixtieths_60 : decode cX5_sixtieths 60 = .ok (.isub, 1) := by decide +kernel
theorem dX5_sixtieths_61 : decode cX5_sixtieths 61 = .ok (.if_icmp .ne 7, 3) := by decide +kernel
theorem dX5_sixtieths_64 : decode cX5_sixtieths 64 = .ok (.iconst 1, 1) := by decide +kernel
theorem dX5_sixtieths_65 : decode cX5_sixtieths 65 = .ok (.goto 4, 3) := by decide +kernel
theorem dX5_sixtieths_68 : decode cX5_sixtieths 68 = .ok (.iconst 0, 1) := by decide +kernel
theorem dX5_sixtieths_69 : decode cX5_sixtieths 69 = .ok (.istore 7, 2) := by decide +kernel
theorem dX5_sixtieths_71 : decode cX5_sixtieths 71 = .ok (.iload 5, 2) := by decide +kernel
theorem dX5_sixtieths_73 : decode cX5_sixtieths 73 = .ok (.iload 7, 2) := by decide +kernel
theorem dX5_sixtieths_75 : decode cX5_sixtieths 75 = .ok (.ifCond .eq 13, 3) := by decide +kernel
theorem dX5_sixtieths_78 : decode cX5_sixtieths 78 = .ok (.iload 4, 2) := by decide +kernel
theorem dX5_sixtieths_80 : decode cX5_sixtieths 80 = .ok (.iload 6, 2) := by decide +kernel
theorem dX5_sixtieths_82 : decode cX5_sixtieths 82 = .ok (.ishr, 1) := by decide +kernel
theorem dX5_sixtieths_83 : decode cX5_sixtieths 83 = .ok (.iconst 1, 1) := by decide +kernel
theorem dX5_sixtieths_84 : decode cX5_sixtieths 84 = .ok (.iand, 1) := by decide +kernel
theorem dX5_sixtieths_85 : decode cX5_sixtieths 85 = .ok (.goto 4, 3) := by decide +kernel
theorem dX5_sixtieths_88 : decode cX5_sixtieths 88 = .ok (.iconst 0, 1) := by decide +kernel
theorem dX5_sixtieths_89 : decode cX5_sixtieths 89 = .ok (.iadd, 1) := by decide +kernel
theorem dX5_sixtieths_90 : decode cX5_sixtieths 90 = .ok (.istore 5, 2) := by decide +kernel
theorem dX5_sixtieths_92 : decode cX5_sixtieths 92 = .ok (.iinc 6 1, 3) := by decide +kernel
theorem dX5_sixtieths_95 : decode cX5_sixtieths 95 = .ok (.goto (-72), 3) := by decide +kernel
theorem dX5_sixtieths_98 : decode cX5_sixtieths 98 = .ok (.iload_n 2, 1) := by decide +kernel
theorem dX5_sixtieths_99 : decode cX5_sixtieths 99 = .ok (.iload 4, 2) := by decide +kernel
theorem dX5_sixtieths_101 : decode cX5_sixtieths 101 = .ok (.ifCond .ne 7, 3) := by decide +kernel
theorem dX5_sixtieths_104 : decode cX5_sixtieths 104 = .ok (.iconst 0, 1) := by decide +kernel
theorem dX5_sixtieths_105 : decode cX5_sixtieths 105 = .ok (.goto 21, 3) := by decide +kernel
theorem dX5_sixtieths_108 : decode cX5_sixtieths 108 = .ok (.aload_n 0, 1) := by decide +kernel
theorem dX5_sixtieths_109 : decode cX5_sixtieths 109 = .ok (.getfield 19, 3) := by decide +kernel
theorem dX5_sixtieths_112 : decode cX5_sixtieths 112 = .ok (.iload_n 3, 1) := by decide +kernel
theorem dX5_sixtieths_113 : decode cX5_sixtieths 113 = .ok (.iaload, 1) := by decide +kernel
theorem dX5_sixtieths_114 : decode cX5_sixtieths 114 = .ok (.iload 5, 2) := by decide +kernel
theorem dX5_sixtieths_116 : decode cX5_sixtieths 116 = .ok (.imul, 1) := by decide +kernel
theorem dX5_sixtieths_117 : decode cX5_sixtieths 117 = .ok (.bipush 60, 2) := by decide +kernel
theorem dX5_sixtieths_119 : decode cX5_sixtieths 119 = .ok (.iload 4, 2) := by decide +kernel
theorem dX5_sixtieths_121 : decode cX5_sixtieths 121 = .ok (.invokestatic 72, 3) := by decide +kernel
theorem dX5_sixtieths_124 : decode cX5_sixtieths 124 = .ok (.idiv, 1) := by decide +kernel
theorem dX5_sixtieths_125 : decode cX5_sixtieths 125 = .ok (.imul, 1) := by decide +kernel
theorem dX5_sixtieths_126 : decode cX5_sixtieths 126 = .ok (.iadd, 1) := by decide +kernel
theorem dX5_sixtieths_127 : decode cX5_sixtieths 127 = .ok (.istore_n 2, 1) := by decide +kernel
theorem dX5_sixtieths_128 : decode cX5_sixtieths 128 = .ok (.iinc 3 1, 3) := by decide +kernel
theorem dX5_sixtieths_131 : decode cX5_sixtieths 131 = .ok (.goto (-127), 3) := by decide +kernel
theorem dX5_sixtieths_134 : decode cX5_sixtieths 134 = .ok (.iload_n 2, 1) := by decide +kernel
theorem dX5_sixtieths_135 : decode cX5_sixtieths 135 = .ok (.ireturn, 1) := by decide +kernel
theorem dX5_lowest_0 : decode cX5_lowest 0 = .ok (.lload_n 2, 1) := by decide +kernel
theorem dX5_lowest_1 : decode cX5_lowest 1 = .ok (.lstore 5, 2) := by decide +kernel
theorem dX5_lowest_3 : decode cX5_lowest 3 = .ok (.lload_n 0, 1) := by decide +kernel
theorem dX5_lowest_4 : decode cX5_lowest 4 = .ok (.lstore 7, 2) := by decide +kernel
theorem dX5_lowest_6 : decode cX5_lowest 6 = .ok (.lload 7, 2) := by decide +kernel
theorem dX5_lowest_8 : decode cX5_lowest 8 = .ok (.lconst 0, 1) := by decide +kernel
theorem dX5_lowest_9 : decode cX5_lowest 9 = .ok (.lcmp, 1) := by decide +kernel
theorem dX5_lowest_10 : decode cX5_lowest 10 = .ok (.ifCond .eq 21, 3) := by decide +kernel
theorem dX5_lowest_13 : decode cX5_lowest 13 = .ok (.lload 5, 2) := by decide +kernel
theorem dX5_lowest_15 : decode cX5_lowest 15 = .ok (.lload 7, 2) := by decide +kernel
theorem dX5_lowest_17 : decode cX5_lowest 17 = .ok (.lrem, 1) := by decide +kernel
theorem dX5_lowest_18 : decode cX5_lowest 18 = .ok (.lstore 9, 2) := by decide +kernel
theorem dX5_lowest_20 : decode cX5_lowest 20 = .ok (.lload 7, 2) := by decide +kernel
theorem dX5_lowest_22 : decode cX5_lowest 22 = .ok (.lstore 5, 2) := by decide +kernel
theorem dX5_lowest_24 : decode cX5_lowest 24 = .ok (.lload 9, 2) := by decide +kernel
theorem dX5_lowest_26 : decode cX5_lowest 26 = .ok (.lstore 7, 2) := by decide +kernel
theorem dX5_lowest_28 : decode cX5_lowest 28 = .ok (.goto (-22), 3) := by decide +kernel
theorem dX5_lowest_31 : decode cX5_lowest 31 = .ok (.iload 4, 2) := by decide +kernel
theorem dX5_lowest_33 : decode cX5_lowest 33 = .ok (.ifCond .ne 10, 3) := by decide +kernel
theorem dX5_lowest_36 : decode cX5_lowest 36 = .ok (.lload_n 0, 1) := by decide +kernel
theorem dX5_lowest_37 : decode cX5_lowest 37 = .ok (.lload 5, 2) := by decide +kernel
theorem dX5_lowest_39 : decode cX5_lowest 39 = .ok (.ldiv, 1) := by decide +kernel
theorem dX5_lowest_40 : decode cX5_lowest 40 = .ok (.goto 7, 3) := by decide +kernel
theorem dX5_lowest_43 : decode cX5_lowest 43 = .ok (.lload_n 2, 1) := by decide +kernel
theorem dX5_lowest_44 : decode cX5_lowest 44 = .ok (.lload 5, 2) := by decide +kernel
theorem dX5_lowest_46 : decode cX5_lowest 46 = .ok (.ldiv, 1) := by decide +kernel
theorem dX5_lowest_47 : decode cX5_lowest 47 = .ok (.lreturn, 1) := by decide +kernel
set_option maxRecDepth 20000 in
theorem ggX5_chance_X5_isThere : GoodIn wsX5_chance wsX5_isThere := goodIn_r _ [9, 10, 11, 12, 8, 13, 14, 15, 16, 17, 52, 53, 54, 55, 56, 57, 58, 59, 60, 61, 62, 63, 64, 65, 66, 67, 68, 69, 70, 71, 72, 73, 74, 75] (by decide +kernel) (by decide +kernel)
set_option maxRecDepth 20000 in
theorem gX5_chance_X5_isThere : GoodIn wsX5_chance (wsV RX5 76 RX5 yX5_isThere wsX5_isThere) := goodIn_app (goodIn_of _ (by decide +kernel)) ggX5_chance_X5_isThere
set_option maxRecDepth 20000 in
theorem ggX5_chance_X5_in : GoodIn wsX5_chance wsX5_in := goodIn_r _ [17] (by decide +kernel) (by decide +kernel)
set_option maxRecDepth 20000 in
theorem gX5_chance_X5_in : GoodIn wsX5_chance (va_wsS RX5 53 yX5_in wsX5_in) := goodIn_app (goodIn_of _ (by decide +kernel)) ggX5_chance_X5_in
set_option maxRecDepth 20000 in
theorem ggX5_chance_X5_sixtieths : GoodIn wsX5_chance wsX5_sixtieths := goodIn_r _ [21, 22, 23, 24, 25, 26, 8, 27, 28, 29, 30, 31, 32, 33, 34, 35, 36, 37, 38, 39, 40, 41, 5, 6, 7, 9, 10, 11, 12, 13, 14, 15, 16, 17, 42, 43, 44, 52, 53, 54, 55, 56, 57, 58, 59, 60, 61, 62, 63, 64, 65, 66, 67, 68, 69, 70, 71, 72, 73, 74, 75] (by decide +kernel) (by decide +kernel)
set_option maxRecDepth 20000 in
theorem gX5_chance_X5_sixtieths : GoodIn wsX5_chance (wsV RX5 152 RX5 yX5_sixtieths wsX5_sixtieths) := goodIn_app (goodIn_of _ (by decide +kernel)) ggX5_chance_X5_sixtieths
set_option maxRecDepth 20000 in
theorem ggX5_chance_X5_weights : GoodIn wsX5_chance wsX5_weights := goodIn_r _ [48, 23, 52, 53, 54, 55, 56, 57, 58, 59, 60, 61, 62, 63, 64, 65, 66, 67, 68, 69, 70, 71, 72, 73, 74, 75] (by decide +kernel) (by decide +kernel)
set_option maxRecDepth 20000 in
theorem gX5_chance_X5_weights : GoodIn wsX5_chance (wsV RX5 143 RX5 yX5_weights wsX5_weights) := goodIn_app (goodIn_of _ (by decide +kernel)) ggX5_chance_X5_weights
set_option maxRecDepth 20000 in
theorem ggX5_chance_X5_lowest : GoodIn wsX5_chance wsX5_lowest := goodIn_r _ [51] (by decide +kernel) (by decide +kernel)
set_option maxRecDepth 20000 in
theorem gX5_chance_X5_lowest : GoodIn wsX5_chance (va_wsS RX5 155 yX5_lowest wsX5_lowest) := goodIn_app (goodIn_of _ (by decide +kernel)) ggX5_chance_X5_lowest
theorem dX5_chance_0 : decode cX5_chance 0 = .ok (.aload_n 0, 1) := by decide +kernel
theorem dX5_chance_1 : decode cX5_chance 1 = .ok (.iload_n 1, 1) := by decide +kernel
theorem dX5_chance_2 : decode cX5_chance 2 = .ok (.invokevirtual 76, 3) := by decide +kernel
theorem dX5_chance_5 : decode cX5_chance 5 = .ok (.ifCond .ne 21, 3) := by decide +kernel
theorem dX5_chance_8 : decode cX5_chance 8 = .ok (.iload_n 1, 1) := by decide +kernel
theorem dX5_chance_9 : decode cX5_chance 9 = .ok (.i2l, 1) := by decide +kernel
theorem dX5_chance_10 : decode cX5_chance 10 = .ok (.ldc2_w 146, 3) := by decide +kernel
theorem dX5_chance_13 : decode cX5_chance 13 = .ok (.ldc2_w 148, 3) := by decide +kernel
theorem dX5_chance_16 : decode cX5_chance 16 = .ok (.invokestatic 53, 3) := by decide +kernel
theorem dX5_chance_19 : decode cX5_chance 19 = .ok (.ifCond .ne 7, 3) := by decide +kernel
theorem dX5_chance_22 : decode cX5_chance 22 = .ok (.ldc2_w 150, 3) := by decide +kernel
theorem dX5_chance_25 : decode cX5_chance 25 = .ok (.lreturn, 1) := by decide +kernel
theorem dX5_chance_26 : decode cX5_chance 26 = .ok (.iload_n 2, 1) := by decide +kernel
theorem dX5_chance_27 : decode cX5_chance 27 = .ok (.i2l, 1) := by decide +kernel
theorem dX5_chance_28 : decode cX5_chance 28 = .ok (.lconst 0, 1) := by decide +kernel
theorem dX5_chance_29 : decode cX5_chance 29 = .ok (.lconst 1, 1) := by decide +kernel
theorem dX5_chance_30 : decode cX5_chance 30 = .ok (.invokestatic 53, 3) := by decide +kernel
theorem dX5_chance_33 : decode cX5_chance 33 = .ok (.ifCond .eq 24, 3) := by decide +kernel
theorem dX5_chance_36 : decode cX5_chance 36 = .ok (.aload_n 0, 1) := by decide +kernel
theorem dX5_chance_37 : decode cX5_chance 37 = .ok (.iload_n 1, 1) := by decide +kernel
theorem dX5_chance_38 : decode cX5_chance 38 = .ok (.invokevirtual 152, 3) := by decide +kernel
theorem dX5_chance_41 : decode cX5_chance 41 = .ok (.i2l, 1) := by decide +kernel
theorem dX5_chance_42 : decode cX5_chance 42 = .ok (.bipush 60, 2) := by decide +kernel
theorem dX5_chance_44 : decode cX5_chance 44 = .ok (.aload_n 0, 1) := by decide +kernel
theorem dX5_chance_45 : decode cX5_chance 45 = .ok (.invokevirtual 143, 3) := by decide +kernel
theorem dX5_chance_48 : decode cX5_chance 48 = .ok (.imul, 1) := by decide +kernel
theorem dX5_chance_49 : decode cX5_chance 49 = .ok (.i2l, 1) := by decide +kernel
theorem dX5_chance_50 : decode cX5_chance 50 = .ok (.iload_n 2, 1) := by decide +kernel
theorem dX5_chance_51 : decode cX5_chance 51 = .ok (.invokestatic 155, 3) := by decide +kernel
theorem dX5_chance_54 : decode cX5_chance 54 = .ok (.goto 6, 3) := by decide +kernel
theorem dX5_chance_57 : decode cX5_chance 57 = .ok (.ldc2_w 159, 3) := by decide +kernel
theorem dX5_chance_60 : decode cX5_chance 60 = .ok (.lreturn, 1) := by decide +kernel
set_option maxRecDepth 20000 in
theorem ggX5_findStand_X5_sixtieths : GoodIn wsX5_findStand wsX5_sixtieths := goodIn_r _ [8, 9, 10, 11, 12, 13, 7, 14, 15, 16, 17, 18, 19, 20, 21, 22, 23, 1, 24, 25, 26, 27, 28, 29, 30, 31, 32, 33, 34, 35, 36, 37, 38, 39, 40, 41, 42, 43, 44, 45, 46, 47, 48, 49, 50, 51, 52, 53, 54, 55, 56, 57, 58, 59, 60, 61, 62, 63, 64, 65, 66] (by decide +kernel) (by decide +kernel)
set_option maxRecDepth 20000 in
theorem gX5_findStand_X5_sixtieths : GoodIn wsX5_findStand (wsV RX5 152 RX5 yX5_sixtieths wsX5_sixtieths) := goodIn_app (goodIn_of _ (by decide +kernel)) ggX5_findStand_X5_sixtieths
theorem dX5_findStand_0 : decode cX5_findStand 0 = .ok (.aload_n 0, 1) := by decide +kernel
theorem dX5_findStand_1 : decode cX5_findStand 1 = .ok (.getfield 7, 3) := by decide +kernel
theorem dX5_findStand_4 : decode cX5_findStand 4 = .ok (.iload_n 1, 1) := by decide +kernel
theorem dX5_findStand_5 : decode cX5_findStand 5 = .ok (.iaload, 1) := by decide +kernel
theorem dX5_findStand_6 : decode cX5_findStand 6 = .ok (.istore_n 2, 1) := by decide +kernel
theorem dX5_findStand_7 : decode cX5_findStand 7 = .ok (.aload_n 0, 1) := by decide +kernel
theorem dX5_findStand_8 : decode cX5_findStand 8 = .ok (.bipush (-6), 2) := by decide +kernel
theorem dX5_findStand_10 : decode cX5_findStand 10 = .ok (.putfield 161, 3) := by decide +kernel
theorem dX5_findStand_13 : decode cX5_findStand 13 = .ok (.aload_n 0, 1) := by decide +kernel
theorem dX5_findStand_14 : decode cX5_findStand 14 = .ok (.iconst (-1), 1) := by decide +kernel
theorem dX5_findStand_15 : decode cX5_findStand 15 = .ok (.putfield 164, 3) := by decide +kernel
theorem dX5_findStand_18 : decode cX5_findStand 18 = .ok (.iconst 0, 1) := by decide +kernel
theorem dX5_findStand_19 : decode cX5_findStand 19 = .ok (.istore_n 3, 1) := by decide +kernel
theorem dX5_findStand_20 : decode cX5_findStand 20 = .ok (.iload_n 3, 1) := by decide +kernel
theorem dX5_findStand_21 : decode cX5_findStand 21 = .ok (.bipush 10, 2) := by decide +kernel
theorem dX5_findStand_23 : decode cX5_findStand 23 = .ok (.if_icmp .ge 66, 3) := by decide +kernel
theorem dX5_findStand_26 : decode cX5_findStand 26 = .ok (.aload_n 0, 1) := by decide +kernel
theorem dX5_findStand_27 : decode cX5_findStand 27 = .ok (.getfield 7, 3) := by decide +kernel
theorem dX5_findStand_30 : decode cX5_findStand 30 = .ok (.iload_n 1, 1) := by decide +kernel
theorem dX5_findStand_31 : decode cX5_findStand 31 = .ok (.iload_n 3, 1) := by decide +kernel
theorem dX5_findStand_32 : decode cX5_findStand 32 = .ok (.iastore, 1) := by decide +kernel
theorem dX5_findStand_33 : decode cX5_findStand 33 = .ok (.aload_n 0, 1) := by decide +kernel
theorem dX5_findStand_34 : decode cX5_findStand 34 = .ok (.iload_n 1, 1) := by decide +kernel
theorem dX5_findStand_35 : decode cX5_findStand 35 = .ok (.invokevirtual 152, 3) := by decide +kernel
theorem dX5_findStand_38 : decode cX5_findStand 38 = .ok (.istore 4, 2) := by decide +kernel
theorem dX5_findStand_40 : decode cX5_findStand 40 = .ok (.aload_n 0, 1) := by decide +kernel
theorem dX5_findStand_41 : decode cX5_findStand 41 = .ok (.iload 4, 2) := by decide +kernel
theorem dX5_findStand_43 : decode cX5_findStand 43 = .ok (.aload_n 0, 1) := by decide +kernel
theorem dX5_findStand_44 : decode cX5_findStand 44 = .ok (.getfield 164, 3) := by decide +kernel
theorem dX5_findStand_47 : decode cX5_findStand 47 = .ok (.if_icmp .le 7, 3) := by decide +kernel
theorem dX5_findStand_50 : decode cX5_findStand 50 = .ok (.iload_n 3, 1) := by decide +kernel
theorem dX5_findStand_51 : decode cX5_findStand 51 = .ok (.goto 7, 3) := by decide +kernel
theorem dX5_findStand_54 : decode cX5_findStand 54 = .ok (.aload_n 0, 1) := by decide +kernel
theorem dX5_findStand_55 : decode cX5_findStand 55 = .ok (.getfield 161, 3) := by decide +kernel
theorem dX5_findStand_58 : decode cX5_findStand 58 = .ok (.putfield 161, 3) := by decide +kernel
theorem dX5_findStand_61 : decode cX5_findStand 61 = .ok (.aload_n 0, 1) := by decide +kernel
theorem dX5_findStand_62 : decode cX5_findStand 62 = .ok (.iload 4, 2) := by decide +kernel
theorem dX5_findStand_64 : decode cX5_findStand 64 = .ok (.aload_n 0, 1) := by decide +kernel
theorem dX5_findStand_65 : decode cX5_findStand 65 = .ok (.getfield 164, 3) := by decide +kernel
theorem dX5_findStand_68 : decode cX5_findStand 68 = .ok (.if_icmp .le 8, 3) := by decide +kernel
theorem dX5_findStand_71 : decode cX5_findStand 71 = .ok (.iload 4, 2) := by decide +kernel
theorem dX5_findStand_73 : decode cX5_findStand 73 = .ok (.goto 7, 3) := by decide +kernel
theorem dX5_findStand_76 : decode cX5_findStand 76 = .ok (.aload_n 0, 1) := by decide +kernel
theorem dX5_findStand_77 : decode cX5_findStand 77 = .ok (.getfield 164, 3) := by decide +kernel
theorem dX5_findStand_80 : decode cX5_findStand 80 = .ok (.putfield 164, 3) := by decide +kernel
theorem dX5_findStand_83 : decode cX5_findStand 83 = .ok (.iinc 3 1, 3) := by decide +kernel
theorem dX5_findStand_86 : decode cX5_findStand 86 = .ok (.goto (-66), 3) := by decide +kernel
theorem dX5_findStand_89 : decode cX5_findStand 89 = .ok (.aload_n 0, 1) := by decide +kernel
theorem dX5_findStand_90 : decode cX5_findStand 90 = .ok (.getfield 7, 3) := by decide +kernel
theorem dX5_findStand_93 : decode cX5_findStand 93 = .ok (.iload_n 1, 1) := by decide +kernel
theorem dX5_findStand_94 : decode cX5_findStand 94 = .ok (.iload_n 2, 1) := by decide +kernel
theorem dX5_findStand_95 : decode cX5_findStand 95 = .ok (.iastore, 1) := by decide +kernel
theorem dX5_findStand_96 : decode cX5_findStand 96 = .ok (.return_, 1) := by decide +kernel
set_option maxRecDepth 20000 in
theorem ggX5_best_X5_isThere : GoodIn wsX5_best wsX5_isThere := goodIn_r _ [6, 7, 8, 9, 5, 10, 11, 12, 13, 14, 47, 48, 49, 50, 51, 52, 53, 54, 55, 56, 57, 58, 59, 60, 61, 62, 63, 64, 65, 66, 67, 68, 69, 70] (by decide +kernel) (by decide +kernel)
set_option maxRecDepth 20000 in
theorem gX5_best_X5_isThere : GoodIn wsX5_best (wsV RX5 76 RX5 yX5_isThere wsX5_isThere) := goodIn_app (goodIn_of _ (by decide +kernel)) ggX5_best_X5_isThere
set_option maxRecDepth 20000 in
theorem ggX5_best_X5_findStand : GoodIn wsX5_best wsX5_findStand := goodIn_r _ [18, 19, 1, 20, 21, 22, 23, 5, 24, 25, 26, 27, 28, 29, 30, 31, 32, 33, 34, 35, 36, 37, 38, 39, 40, 41, 42, 43, 2, 3, 4, 6, 7, 8, 9, 10, 11, 12, 13, 14, 44, 45, 46, 47, 48, 49, 50, 51, 52, 53, 54, 55, 56, 57, 58, 59, 60, 61, 62, 63, 64, 65, 66, 67, 68, 69, 70] (by decide +kernel) (by decide +kernel)
set_option maxRecDepth 20000 in
theorem gX5_best_X5_findStand : GoodIn wsX5_best (wsV RX5 167 RX5 yX5_findStand wsX5_findStand) := goodIn_app (goodIn_of _ (by decide +kernel)) ggX5_best_X5_findStand
theorem dX5_best_0 : decode cX5_best 0 = .ok (.aload_n 0, 1) := by decide +kernel
theorem dX5_best_1 : decode cX5_best 1 = .ok (.iload_n 1, 1) := by decide +kernel
theorem dX5_best_2 : decode cX5_best 2 = .ok (.invokevirtual 76, 3) := by decide +kernel
theorem dX5_best_5 : decode cX5_best 5 = .ok (.ifCond .ne 5, 3) := by decide +kernel
theorem dX5_best_8 : decode cX5_best 8 = .ok (.iconst (-1), 1) := by decide +kernel
theorem dX5_best_9 : decode cX5_best 9 = .ok (.ireturn, 1) := by decide +kernel
theorem dX5_best_10 : decode cX5_best 10 = .ok (.aload_n 0, 1) := by decide +kernel
theorem dX5_best_11 : decode cX5_best 11 = .ok (.iload_n 1, 1) := by decide +kernel
theorem dX5_best_12 : decode cX5_best 12 = .ok (.invokevirtual 167, 3) := by decide +kernel
theorem dX5_best_15 : decode cX5_best 15 = .ok (.aload_n 0, 1) := by decide +kernel
theorem dX5_best_16 : decode cX5_best 16 = .ok (.getfield 161, 3) := by decide +kernel
theorem dX5_best_19 : decode cX5_best 19 = .ok (.ireturn, 1) := by decide +kernel
set_option maxRecDepth 20000 in
theorem ggX5_bestChance_X5_isThere : GoodIn wsX5_bestChance wsX5_isThere := goodIn_r _ [8, 9, 10, 11, 7, 12, 13, 14, 15, 16, 56, 57, 58, 59, 60, 61, 62, 63, 64, 65, 66, 67, 68, 69, 70, 71, 72, 73, 74, 75, 76, 77, 78, 79] (by decide +kernel) (by decide +kernel)
set_option maxRecDepth 20000 in
theorem gX5_bestChance_X5_isThere : GoodIn wsX5_bestChance (wsV RX5 76 RX5 yX5_isThere wsX5_isThere) := goodIn_app (goodIn_of _ (by decide +kernel)) ggX5_bestChance_X5_isThere
set_option maxRecDepth 20000 in
theorem ggX5_bestChance_X5_in : GoodIn wsX5_bestChance wsX5_in := goodIn_r _ [16] (by decide +kernel) (by decide +kernel)
set_option maxRecDepth 20000 in
theorem gX5_bestChance_X5_in : GoodIn wsX5_bestChance (va_wsS RX5 53 yX5_in wsX5_in) := goodIn_app (goodIn_of _ (by decide +kernel)) ggX5_bestChance_X5_in
set_option maxRecDepth 20000 in
theorem ggX5_bestChance_X5_findStand : GoodIn wsX5_bestChance wsX5_findStand := goodIn_r _ [20, 21, 22, 3, 23, 24, 25, 7, 26, 27, 28, 29, 30, 31, 32, 33, 34, 35, 36, 37, 38, 39, 40, 41, 42, 43, 44, 45, 4, 5, 6, 8, 9, 10, 11, 12, 13, 14, 15, 16, 46, 47, 48, 56, 57, 58, 59, 60, 61, 62, 63, 64, 65, 66, 67, 68, 69, 70, 71, 72, 73, 74, 75, 76, 77, 78, 79] (by decide +kernel) (by decide +kernel)
set_option maxRecDepth 20000 in
theorem gX5_bestChance_X5_findStand : GoodIn wsX5_bestChance (wsV RX5 167 RX5 yX5_findStand wsX5_findStand) := goodIn_app (goodIn_of _ (by decide +kernel)) ggX5_bestChance_X5_findStand
set_option maxRecDepth 20000 in
theorem ggX5_bestChance_X5_weights : GoodIn wsX5_bestChance wsX5_weights := goodIn_r _ [52, 28, 56, 57, 58, 59, 60, 61, 62, 63, 64, 65, 66, 67, 68, 69, 70, 71, 72, 73, 74, 75, 76, 77, 78, 79] (by decide +kernel) (by decide +kernel)
set_option maxRecDepth 20000 in
theorem gX5_bestChance_X5_weights : GoodIn wsX5_bestChance (wsV RX5 143 RX5 yX5_weights wsX5_weights) := goodIn_app (goodIn_of _ (by decide +kernel)) ggX5_bestChance_X5_weights
set_option maxRecDepth 20000 in
theorem ggX5_bestChance_X5_lowest : GoodIn wsX5_bestChance wsX5_lowest := goodIn_r _ [55] (by decide +kernel) (by decide +kernel)
set_option maxRecDepth 20000 in
theorem gX5_bestChance_X5_lowest : GoodIn wsX5_bestChance (va_wsS RX5 155 yX5_lowest wsX5_lowest) := goodIn_app (goodIn_of _ (by decide +kernel)) ggX5_bestChance_X5_lowest
theorem dX5_bestChance_0 : decode cX5_bestChance 0 = .ok (.aload_n 0, 1) := by decide +kernel
theorem dX5_bestChance_1 : decode cX5_bestChance 1 = .ok (.iload_n 1, 1) := by decide +kernel
theorem dX5_bestChance_2 : decode cX5_bestChance 2 = .ok (.invokevirtual 76, 3) := by decide +kernel
theorem dX5_bestChance_5 : decode cX5_bestChance 5 = .ok (.ifCond .ne 7, 3) := by decide +kernel
theorem dX5_bestChance_8 : decode cX5_bestChance 8 = .ok (.ldc2_w 150, 3) := by decide +kernel
theorem dX5_bestChance_11 : decode cX5_bestChance 11 = .ok (.lreturn, 1) := by decide +kernel
theorem dX5_bestChance_12 : decode cX5_bestChance 12 = .ok (.iload_n 2, 1) := by decide +kernel
theorem dX5_bestChance_13 : decode cX5_bestChance 13 = .ok (.i2l, 1) := by decide +kernel
theorem dX5_bestChance_14 : decode cX5_bestChance 14 = .ok (.lconst 0, 1) := by decide +kernel
theorem dX5_bestChance_15 : decode cX5_bestChance 15 = .ok (.lconst 1, 1) := by decide +kernel
theorem dX5_bestChance_16 : decode cX5_bestChance 16 = .ok (.invokestatic 53, 3) := by decide +kernel
theorem dX5_bestChance_19 : decode cX5_bestChance 19 = .ok (.ifCond .ne 7, 3) := by decide +kernel
theorem dX5_bestChance_22 : decode cX5_bestChance 22 = .ok (.ldc2_w 159, 3) := by decide +kernel
theorem dX5_bestChance_25 : decode cX5_bestChance 25 = .ok (.lreturn, 1) := by decide +kernel
theorem dX5_bestChance_26 : decode cX5_bestChance 26 = .ok (.aload_n 0, 1) := by decide +kernel
theorem dX5_bestChance_27 : decode cX5_bestChance 27 = .ok (.iload_n 1, 1) := by decide +kernel
theorem dX5_bestChance_28 : decode cX5_bestChance 28 = .ok (.invokevirtual 167, 3) := by decide +kernel
theorem dX5_bestChance_31 : decode cX5_bestChance 31 = .ok (.aload_n 0, 1) := by decide +kernel
theorem dX5_bestChance_32 : decode cX5_bestChance 32 = .ok (.getfield 164, 3) := by decide +kernel
theorem dX5_bestChance_35 : decode cX5_bestChance 35 = .ok (.i2l, 1) := by decide +kernel
theorem dX5_bestChance_36 : decode cX5_bestChance 36 = .ok (.bipush 60, 2) := by decide +kernel
theorem dX5_bestChance_38 : decode cX5_bestChance 38 = .ok (.aload_n 0, 1) := by decide +kernel
theorem dX5_bestChance_39 : decode cX5_bestChance 39 = .ok (.invokevirtual 143, 3) := by decide +kernel
theorem dX5_bestChance_42 : decode cX5_bestChance 42 = .ok (.imul, 1) := by decide +kernel
theorem dX5_bestChance_43 : decode cX5_bestChance 43 = .ok (.i2l, 1) := by decide +kernel
theorem dX5_bestChance_44 : decode cX5_bestChance 44 = .ok (.iload_n 2, 1) := by decide +kernel
theorem dX5_bestChance_45 : decode cX5_bestChance 45 = .ok (.invokestatic 155, 3) := by decide +kernel
theorem dX5_bestChance_48 : decode cX5_bestChance 48 = .ok (.lreturn, 1) := by decide +kernel
theorem dX5_keepPlaces_0 : decode cX5_keepPlaces 0 = .ok (.iconst 0, 1) := by decide +kernel
theorem dX5_keepPlaces_1 : decode cX5_keepPlaces 1 = .ok (.istore_n 1, 1) := by decide +kernel
theorem dX5_keepPlaces_2 : decode cX5_keepPlaces 2 = .ok (.iload_n 1, 1) := by decide +kernel
theorem dX5_keepPlaces_3 : decode cX5_keepPlaces 3 = .ok (.bipush 6, 2) := by decide +kernel
theorem dX5_keepPlaces_5 : decode cX5_keepPlaces 5 = .ok (.if_icmp .ge 21, 3) := by decide +kernel
theorem dX5_keepPlaces_8 : decode cX5_keepPlaces 8 = .ok (.aload_n 0, 1) := by decide +kernel
theorem dX5_keepPlaces_9 : decode cX5_keepPlaces 9 = .ok (.getfield 34, 3) := by decide +kernel
theorem dX5_keepPlaces_12 : decode cX5_keepPlaces 12 = .ok (.iload_n 1, 1) := by decide +kernel
theorem dX5_keepPlaces_13 : decode cX5_keepPlaces 13 = .ok (.aload_n 0, 1) := by decide +kernel
theorem dX5_keepPlaces_14 : decode cX5_keepPlaces 14 = .ok (.getfield 7, 3) := by decide +kernel
theorem dX5_keepPlaces_17 : decode cX5_keepPlaces 17 = .ok (.iload_n 1, 1) := by decide +kernel
theorem dX5_keepPlaces_18 : decode cX5_keepPlaces 18 = .ok (.iaload, 1) := by decide +kernel
theorem dX5_keepPlaces_19 : decode cX5_keepPlaces 19 = .ok (.iastore, 1) := by decide +kernel
theorem dX5_keepPlaces_20 : decode cX5_keepPlaces 20 = .ok (.iinc 1 1, 3) := by decide +kernel
theorem dX5_keepPlaces_23 : decode cX5_keepPlaces 23 = .ok (.goto (-21), 3) := by decide +kernel
theorem dX5_keepPlaces_26 : decode cX5_keepPlaces 26 = .ok (.return_, 1) := by decide +kernel
theorem dX5_putPlaces_0 : decode cX5_putPlaces 0 = .ok (.iconst 0, 1) := by decide +kernel
theorem dX5_putPlaces_1 : decode cX5_putPlaces 1 = .ok (.istore_n 1, 1) := by decide +kernel
theorem dX5_putPlaces_2 : decode cX5_putPlaces 2 = .ok (.iload_n 1, 1) := by decide +kernel
theorem dX5_putPlaces_3 : decode cX5_putPlaces 3 = .ok (.bipush 6, 2) := by decide +kernel
theorem dX5_putPlaces_5 : decode cX5_putPlaces 5 = .ok (.if_icmp .ge 21, 3) := by decide +kernel
theorem dX5_putPlaces_8 : decode cX5_putPlaces 8 = .ok (.aload_n 0, 1) := by decide +kernel
theorem dX5_putPlaces_9 : decode cX5_putPlaces 9 = .ok (.getfield 7, 3) := by decide +kernel
theorem dX5_putPlaces_12 : decode cX5_putPlaces 12 = .ok (.iload_n 1, 1) := by decide +kernel
theorem dX5_putPlaces_13 : decode cX5_putPlaces 13 = .ok (.aload_n 0, 1) := by decide +kernel
theorem dX5_putPlaces_14 : decode cX5_putPlaces 14 = .ok (.getfield 34, 3) := by decide +kernel
theorem dX5_putPlaces_17 : decode cX5_putPlaces 17 = .ok (.iload_n 1, 1) := by decide +kernel
theorem dX5_putPlaces_18 : decode cX5_putPlaces 18 = .ok (.iaload, 1) := by decide +kernel
theorem dX5_putPlaces_19 : decode cX5_putPlaces 19 = .ok (.iastore, 1) := by decide +kernel
theorem dX5_putPlaces_20 : decode cX5_putPlaces 20 = .ok (.iinc 1 1, 3) := by decide +kernel
theorem dX5_putPlaces_23 : decode cX5_putPlaces 23 = .ok (.goto (-21), 3) := by decide +kernel
theorem dX5_putPlaces_26 : decode cX5_putPlaces 26 = .ok (.return_, 1) := by decide +kernel
set_option maxRecDepth 20000 in
theorem ggX5_layPlaces_X5_isThere : GoodIn wsX5_layPlaces wsX5_isThere := goodIn_r _ [6, 7, 8, 9, 5, 10, 11, 12, 13, 14, 15, 16, 17, 18, 19, 20, 21, 22, 23, 24, 25, 26, 27, 28, 29, 30, 31, 32, 33, 34, 35, 36, 37, 38] (by decide +kernel) (by decide +kernel)
set_option maxRecDepth 20000 in
theorem gX5_layPlaces_X5_isThere : GoodIn wsX5_layPlaces (wsV RX5 76 RX5 yX5_isThere wsX5_isThere) := goodIn_app (goodIn_of _ (by decide +kernel)) ggX5_layPlaces_X5_isThere
theorem dX5_layPlaces_0 : decode cX5_layPlaces 0 = .ok (.iload_n 1, 1) := by decide +kernel
theorem dX5_layPlaces_1 : decode cX5_layPlaces 1 = .ok (.istore_n 2, 1) := by decide +kernel
theorem dX5_layPlaces_2 : decode cX5_layPlaces 2 = .ok (.iconst 5, 1) := by decide +kernel
theorem dX5_layPlaces_3 : decode cX5_layPlaces 3 = .ok (.istore_n 3, 1) := by decide +kernel
theorem dX5_layPlaces_4 : decode cX5_layPlaces 4 = .ok (.iload_n 3, 1) := by decide +kernel
theorem dX5_layPlaces_5 : decode cX5_layPlaces 5 = .ok (.ifCond .lt 32, 3) := by decide +kernel
theorem dX5_layPlaces_8 : decode cX5_layPlaces 8 = .ok (.aload_n 0, 1) := by decide +kernel
theorem dX5_layPlaces_9 : decode cX5_layPlaces 9 = .ok (.iload_n 3, 1) := by decide +kernel
theorem dX5_layPlaces_10 : decode cX5_layPlaces 10 = .ok (.invokevirtual 76, 3) := by decide +kernel
theorem dX5_layPlaces_13 : decode cX5_layPlaces 13 = .ok (.ifCond .eq 18, 3) := by decide +kernel
theorem dX5_layPlaces_16 : decode cX5_layPlaces 16 = .ok (.aload_n 0, 1) := by decide +kernel
theorem dX5_layPlaces_17 : decode cX5_layPlaces 17 = .ok (.getfield 7, 3) := by decide +kernel
theorem dX5_layPlaces_20 : decode cX5_layPlaces 20 = .ok (.iload_n 3, 1) := by decide +kernel
theorem dX5_layPlaces_21 : decode cX5_layPlaces 21 = .ok (.iload_n 2, 1) := by decide +kernel
theorem dX5_layPlaces_22 : decode cX5_layPlaces 22 = .ok (.bipush 10, 2) := by decide +kernel
theorem dX5_layPlaces_24 : decode cX5_layPlaces 24 = .ok (.irem, 1) := by decide +kernel
theorem dX5_layPlaces_25 : decode cX5_layPlaces 25 = .ok (.iastore, 1) := by decide +kernel
theorem dX5_layPlaces_26 : decode cX5_layPlaces 26 = .ok (.iload_n 2, 1) := by decide +kernel
theorem dX5_layPlaces_27 : decode cX5_layPlaces 27 = .ok (.bipush 10, 2) := by decide +kernel
theorem dX5_layPlaces_29 : decode cX5_layPlaces 29 = .ok (.idiv, 1) := by decide +kernel
theorem dX5_layPlaces_30 : decode cX5_layPlaces 30 = .ok (.istore_n 2, 1) := by decide +kernel
theorem dX5_layPlaces_31 : decode cX5_layPlaces 31 = .ok (.iinc 3 (-1), 3) := by decide +kernel
theorem dX5_layPlaces_34 : decode cX5_layPlaces 34 = .ok (.goto (-30), 3) := by decide +kernel
theorem dX5_layPlaces_37 : decode cX5_layPlaces 37 = .ok (.return_, 1) := by decide +kernel
set_option maxRecDepth 20000 in
theorem ggX5_areAtRest_X5_isThere : GoodIn wsX5_areAtRest wsX5_isThere := goodIn_r _ [6, 7, 8, 9, 5, 10, 11, 12, 13, 14, 47, 48, 49, 50, 51, 52, 53, 54, 55, 56, 57, 58, 59, 60, 61, 62, 63, 64, 65, 66, 67, 68, 69, 70] (by decide +kernel) (by decide +kernel)
set_option maxRecDepth 20000 in
theorem gX5_areAtRest_X5_isThere : GoodIn wsX5_areAtRest (wsV RX5 76 RX5 yX5_isThere wsX5_isThere) := goodIn_app (goodIn_of _ (by decide +kernel)) ggX5_areAtRest_X5_isThere
set_option maxRecDepth 20000 in
theorem ggX5_areAtRest_X5_sixtieths : GoodIn wsX5_areAtRest wsX5_sixtieths := goodIn_r _ [18, 19, 20, 21, 22, 23, 5, 24, 25, 26, 27, 28, 29, 30, 31, 32, 33, 34, 35, 36, 37, 38, 2, 3, 4, 6, 7, 8, 9, 10, 11, 12, 13, 14, 39, 40, 41, 47, 48, 49, 50, 51, 52, 53, 54, 55, 56, 57, 58, 59, 60, 61, 62, 63, 64, 65, 66, 67, 68, 69, 70] (by decide +kernel) (by decide +kernel)
set_option maxRecDepth 20000 in
theorem gX5_areAtRest_X5_sixtieths : GoodIn wsX5_areAtRest (wsV RX5 152 RX5 yX5_sixtieths wsX5_sixtieths) := goodIn_app (goodIn_of _ (by decide +kernel)) ggX5_areAtRest_X5_sixtieths
set_option maxRecDepth 20000 in
theorem ggX5_areAtRest_X5_findStand : GoodIn wsX5_areAtRest wsX5_findStand := goodIn_r _ [45, 34, 46, 1, 15, 16, 17, 5, 18, 19, 20, 21, 22, 23, 24, 25, 26, 27, 28, 29, 30, 31, 32, 33, 35, 36, 37, 38, 2, 3, 4, 6, 7, 8, 9, 10, 11, 12, 13, 14, 39, 40, 41, 47, 48, 49, 50, 51, 52, 53, 54, 55, 56, 57, 58, 59, 60, 61, 62, 63, 64, 65, 66, 67, 68, 69, 70] (by decide +kernel) (by decide +kernel)
set_option maxRecDepth 20000 in
theorem gX5_areAtRest_X5_findStand : GoodIn wsX5_areAtRest (wsV RX5 167 RX5 yX5_findStand wsX5_findStand) := goodIn_app (goodIn_of _ (by decide +kernel)) ggX5_areAtRest_X5_findStand
theorem dX5_areAtRest_0 : decode cX5_areAtRest 0 = .ok (.iconst 0, 1) := by decide +kernel
theorem dX5_areAtRest_1 : decode cX5_areAtRest 1 = .ok (.istore_n 1, 1) := by decide +kernel
theorem dX5_areAtRest_2 : decode cX5_areAtRest 2 = .ok (.iload_n 1, 1) := by decide +kernel
theorem dX5_areAtRest_3 : decode cX5_areAtRest 3 = .ok (.bipush 6, 2) := by decide +kernel
theorem dX5_areAtRest_5 : decode cX5_areAtRest 5 = .ok (.if_icmp .ge 38, 3) := by decide +kernel
theorem dX5_areAtRest_8 : decode cX5_areAtRest 8 = .ok (.aload_n 0, 1) := by decide +kernel
theorem dX5_areAtRest_9 : decode cX5_areAtRest 9 = .ok (.iload_n 1, 1) := by decide +kernel
theorem dX5_areAtRest_10 : decode cX5_areAtRest 10 = .ok (.invokevirtual 76, 3) := by decide +kernel
theorem dX5_areAtRest_13 : decode cX5_areAtRest 13 = .ok (.ifCond .eq 24, 3) := by decide +kernel
theorem dX5_areAtRest_16 : decode cX5_areAtRest 16 = .ok (.aload_n 0, 1) := by decide +kernel
theorem dX5_areAtRest_17 : decode cX5_areAtRest 17 = .ok (.iload_n 1, 1) := by decide +kernel
theorem dX5_areAtRest_18 : decode cX5_areAtRest 18 = .ok (.invokevirtual 152, 3) := by decide +kernel
theorem dX5_areAtRest_21 : decode cX5_areAtRest 21 = .ok (.istore_n 2, 1) := by decide +kernel
theorem dX5_areAtRest_22 : decode cX5_areAtRest 22 = .ok (.aload_n 0, 1) := by decide +kernel
theorem dX5_areAtRest_23 : decode cX5_areAtRest 23 = .ok (.iload_n 1, 1) := by decide +kernel
theorem dX5_areAtRest_24 : decode cX5_areAtRest 24 = .ok (.invokevirtual 167, 3) := by decide +kernel
theorem dX5_areAtRest_27 : decode cX5_areAtRest 27 = .ok (.aload_n 0, 1) := by decide +kernel
theorem dX5_areAtRest_28 : decode cX5_areAtRest 28 = .ok (.getfield 164, 3) := by decide +kernel
theorem dX5_areAtRest_31 : decode cX5_areAtRest 31 = .ok (.iload_n 2, 1) := by decide +kernel
theorem dX5_areAtRest_32 : decode cX5_areAtRest 32 = .ok (.if_icmp .le 5, 3) := by decide +kernel
theorem dX5_areAtRest_35 : decode cX5_areAtRest 35 = .ok (.iconst 0, 1) := by decide +kernel
theorem dX5_areAtRest_36 : decode cX5_areAtRest 36 = .ok (.ireturn, 1) := by decide +kernel
theorem dX5_areAtRest_37 : decode cX5_areAtRest 37 = .ok (.iinc 1 1, 3) := by decide +kernel
theorem dX5_areAtRest_40 : decode cX5_areAtRest 40 = .ok (.goto (-38), 3) := by decide +kernel
theorem dX5_areAtRest_43 : decode cX5_areAtRest 43 = .ok (.iconst 1, 1) := by decide +kernel
theorem dX5_areAtRest_44 : decode cX5_areAtRest 44 = .ok (.ireturn, 1) := by decide +kernel
set_option maxRecDepth 20000 in
theorem ggX5_rests_X5_ones : GoodIn wsX5_rests wsX5_ones := goodIn_r _ [5] (by decide +kernel) (by decide +kernel)
set_option maxRecDepth 20000 in
theorem gX5_rests_X5_ones : GoodIn wsX5_rests (va_wsS RX5 72 yX5_ones wsX5_ones) := goodIn_app (goodIn_of _ (by decide +kernel)) ggX5_rests_X5_ones
set_option maxRecDepth 20000 in
theorem ggX5_rests_X5_keepPlaces : GoodIn wsX5_rests wsX5_keepPlaces := goodIn_r _ [9, 10, 11, 64, 65, 66, 67, 68, 69, 70, 71, 72, 73, 74, 75, 76, 77, 78, 79, 80, 81, 82, 83, 84, 85, 86, 87] (by decide +kernel) (by decide +kernel)
set_option maxRecDepth 20000 in
theorem gX5_rests_X5_keepPlaces : GoodIn wsX5_rests (wsV RX5 170 RX5 yX5_keepPlaces wsX5_keepPlaces) := goodIn_app (goodIn_of _ (by decide +kernel)) ggX5_rests_X5_keepPlaces
set_option maxRecDepth 20000 in
theorem ggX5_rests_X5_layPlaces : GoodIn wsX5_rests wsX5_layPlaces := goodIn_r _ [15, 11, 16, 17, 18, 4, 19, 1, 20, 21, 22, 23, 24, 25, 26, 64, 65, 66, 67, 68, 69, 70, 71, 72, 73, 74, 75, 76, 77, 78, 79, 80, 81, 82, 83, 84, 85, 86, 87] (by decide +kernel) (by decide +kernel)
set_option maxRecDepth 20000 in
theorem gX5_rests_X5_layPlaces : GoodIn wsX5_rests (wsV RX5 173 RX5 yX5_layPlaces wsX5_layPlaces) := goodIn_app (goodIn_of _ (by decide +kernel)) ggX5_rests_X5_layPlaces
set_option maxRecDepth 20000 in
theorem ggX5_rests_X5_areAtRest : GoodIn wsX5_rests wsX5_areAtRest := goodIn_r _ [30, 31, 16, 17, 18, 4, 19, 1, 20, 21, 22, 23, 24, 25, 26, 32, 33, 34, 35, 36, 37, 38, 39, 40, 41, 42, 43, 44, 45, 46, 47, 48, 49, 50, 11, 51, 52, 53, 54, 2, 3, 5, 55, 56, 57, 58, 59, 64, 65, 66, 67, 68, 69, 70, 71, 72, 73, 74, 75, 76, 77, 78, 79, 80, 81, 82, 83, 84, 85, 86, 87] (by decide +kernel) (by decide +kernel)
set_option maxRecDepth 20000 in
theorem gX5_rests_X5_areAtRest : GoodIn wsX5_rests (wsV RX5 176 RX5 yX5_areAtRest wsX5_areAtRest) := goodIn_app (goodIn_of _ (by decide +kernel)) ggX5_rests_X5_areAtRest
set_option maxRecDepth 20000 in
theorem ggX5_rests_X5_putPlaces : GoodIn wsX5_rests wsX5_putPlaces := goodIn_r _ [63, 11, 10, 64, 65, 66, 67, 68, 69, 70, 71, 72, 73, 74, 75, 76, 77, 78, 79, 80, 81, 82, 83, 84, 85, 86, 87] (by decide +kernel) (by decide +kernel)
set_option maxRecDepth 20000 in
theorem gX5_rests_X5_putPlaces : GoodIn wsX5_rests (wsV RX5 180 RX5 yX5_putPlaces wsX5_putPlaces) := goodIn_app (goodIn_of _ (by decide +kernel)) ggX5_rests_X5_putPlaces
theorem dX5_rests_0 : decode cX5_rests 0 = .ok (.aload_n 0, 1) := by decide +kernel
theorem dX5_rests_1 : decode cX5_rests 1 = .ok (.getfield 63, 3) := by decide +kernel
theorem dX5_rests_4 : decode cX5_rests 4 = .ok (.invokestatic 72, 3) := by decide +kernel
theorem dX5_rests_7 : decode cX5_rests 7 = .ok (.istore_n 2, 1) := by decide +kernel
theorem dX5_rests_8 : decode cX5_rests 8 = .ok (.iload_n 2, 1) := by decide +kernel
theorem dX5_rests_9 : decode cX5_rests 9 = .ok (.iconst 3, 1) := by decide +kernel
theorem dX5_rests_10 : decode cX5_rests 10 = .ok (.if_icmp .le 6, 3) := by decide +kernel
theorem dX5_rests_13 : decode cX5_rests 13 = .ok (.bipush (-4), 2) := by decide +kernel
theorem dX5_rests_15 : decode cX5_rests 15 = .ok (.ireturn, 1) := by decide +kernel
theorem dX5_rests_16 : decode cX5_rests 16 = .ok (.iload_n 2, 1) := by decide +kernel
theorem dX5_rests_17 : decode cX5_rests 17 = .ok (.ifCond .ne 7, 3) := by decide +kernel
theorem dX5_rests_20 : decode cX5_rests 20 = .ok (.iconst 1, 1) := by decide +kernel
theorem dX5_rests_21 : decode cX5_rests 21 = .ok (.goto 26, 3) := by decide +kernel
theorem dX5_rests_24 : decode cX5_rests 24 = .ok (.iload_n 2, 1) := by decide +kernel
theorem dX5_rests_25 : decode cX5_rests 25 = .ok (.iconst 1, 1) := by decide +kernel
theorem dX5_rests_26 : decode cX5_rests 26 = .ok (.if_icmp .ne 8, 3) := by decide +kernel
theorem dX5_rests_29 : decode cX5_rests 29 = .ok (.bipush 10, 2) := by decide +kernel
theorem dX5_rests_31 : decode cX5_rests 31 = .ok (.goto 16, 3) := by decide +kernel
theorem dX5_rests_34 : decode cX5_rests 34 = .ok (.iload_n 2, 1) := by decide +kernel
theorem dX5_rests_35 : decode cX5_rests 35 = .ok (.iconst 2, 1) := by decide +kernel
theorem dX5_rests_36 : decode cX5_rests 36 = .ok (.if_icmp .ne 8, 3) := by decide +kernel
theorem dX5_rests_39 : decode cX5_rests 39 = .ok (.bipush 100, 2) := by decide +kernel
theorem dX5_rests_41 : decode cX5_rests 41 = .ok (.goto 6, 3) := by decide +kernel
theorem dX5_rests_44 : decode cX5_rests 44 = .ok (.sipush 1000, 3) := by decide +kernel
theorem dX5_rests_47 : decode cX5_rests 47 = .ok (.istore_n 3, 1) := by decide +kernel
theorem dX5_rests_48 : decode cX5_rests 48 = .ok (.aload_n 0, 1) := by decide +kernel
theorem dX5_rests_49 : decode cX5_rests 49 = .ok (.invokevirtual 170, 3) := by decide +kernel
theorem dX5_rests_52 : decode cX5_rests 52 = .ok (.iconst 0, 1) := by decide +kernel
theorem dX5_rests_53 : decode cX5_rests 53 = .ok (.istore 4, 2) := by decide +kernel
theorem dX5_rests_55 : decode cX5_rests 55 = .ok (.bipush (-6), 2) := by decide +kernel
theorem dX5_rests_57 : decode cX5_rests 57 = .ok (.istore 5, 2) := by decide +kernel
theorem dX5_rests_59 : decode cX5_rests 59 = .ok (.iconst 0, 1) := by decide +kernel
theorem dX5_rests_60 : decode cX5_rests 60 = .ok (.istore 6, 2) := by decide +kernel
theorem dX5_rests_62 : decode cX5_rests 62 = .ok (.iload 6, 2) := by decide +kernel
theorem dX5_rests_64 : decode cX5_rests 64 = .ok (.iload_n 3, 1) := by decide +kernel
theorem dX5_rests_65 : decode cX5_rests 65 = .ok (.if_icmp .ge 40, 3) := by decide +kernel
theorem dX5_rests_68 : decode cX5_rests 68 = .ok (.aload_n 0, 1) := by decide +kernel
theorem dX5_rests_69 : decode cX5_rests 69 = .ok (.iload 6, 2) := by decide +kernel
theorem dX5_rests_71 : decode cX5_rests 71 = .ok (.invokevirtual 173, 3) := by decide +kernel
theorem dX5_rests_74 : decode cX5_rests 74 = .ok (.aload_n 0, 1) := by decide +kernel
theorem dX5_rests_75 : decode cX5_rests 75 = .ok (.invokevirtual 176, 3) := by decide +kernel
theorem dX5_rests_78 : decode cX5_rests 78 = .ok (.ifCond .eq 21, 3) := by decide +kernel
theorem dX5_rests_81 : decode cX5_rests 81 = .ok (.iload 4, 2) := by decide +kernel
theorem dX5_rests_83 : decode cX5_rests 83 = .ok (.iload_n 1, 1) := by decide +kernel
theorem dX5_rests_84 : decode cX5_rests 84 = .ok (.if_icmp .ne 8, 3) := by decide +kernel
theorem dX5_rests_87 : decode cX5_rests 87 = .ok (.iload 6, 2) := by decide +kernel
theorem dX5_rests_89 : decode cX5_rests 89 = .ok (.goto 5, 3) := by decide +kernel
theorem dX5_rests_92 : decode cX5_rests 92 = .ok (.iload 5, 2) := by decide +kernel
theorem dX5_rests_94 : decode cX5_rests 94 = .ok (.istore 5, 2) := by decide +kernel
theorem dX5_rests_96 : decode cX5_rests 96 = .ok (.iinc 4 1, 3) := by decide +kernel
theorem dX5_rests_99 : decode cX5_rests 99 = .ok (.iinc 6 1, 3) := by decide +kernel
theorem dX5_rests_102 : decode cX5_rests 102 = .ok (.goto (-40), 3) := by decide +kernel
theorem dX5_rests_105 : decode cX5_rests 105 = .ok (.aload_n 0, 1) := by decide +kernel
theorem dX5_rests_106 : decode cX5_rests 106 = .ok (.invokevirtual 180, 3) := by decide +kernel
theorem dX5_rests_109 : decode cX5_rests 109 = .ok (.iload_n 1, 1) := by decide +kernel
theorem dX5_rests_110 : decode cX5_rests 110 = .ok (.iconst (-1), 1) := by decide +kernel
theorem dX5_rests_111 : decode cX5_rests 111 = .ok (.if_icmp .ne 8, 3) := by decide +kernel
theorem dX5_rests_114 : decode cX5_rests 114 = .ok (.iload 4, 2) := by decide +kernel
theorem dX5_rests_116 : decode cX5_rests 116 = .ok (.goto 5, 3) := by decide +kernel
theorem dX5_rests_119 : decode cX5_rests 119 = .ok (.iload 5, 2) := by decide +kernel
theorem dX5_rests_121 : decode cX5_rests 121 = .ok (.ireturn, 1) := by decide +kernel
set_option maxRecDepth 20000 in
theorem ggX5_coup_X5_isThere : GoodIn wsX5_coup wsX5_isThere := goodIn_r _ [5, 6, 7, 8, 4, 9, 10, 11, 12, 13, 28, 29, 30, 31, 32, 33, 34, 35, 36, 37, 38, 39, 40, 41, 42, 43, 44, 45, 46, 47, 48, 49, 50, 51] (by decide +kernel) (by decide +kernel)
set_option maxRecDepth 20000 in
theorem gX5_coup_X5_isThere : GoodIn wsX5_coup (wsV RX5 76 RX5 yX5_isThere wsX5_isThere) := goodIn_app (goodIn_of _ (by decide +kernel)) ggX5_coup_X5_isThere
set_option maxRecDepth 20000 in
theorem ggX5_coup_X5_sprinkledBy : GoodIn wsX5_coup wsX5_sprinkledBy := goodIn_r _ [17, 18, 19, 20, 21, 4, 22, 23, 24, 25, 26, 27, 1, 2, 3, 5, 6, 7, 8, 9, 10, 11, 12, 13, 28, 29, 30, 31, 32, 33, 34, 35, 36, 37, 38, 39, 40, 41, 42, 43, 44, 45, 46, 47, 48, 49, 50, 51] (by decide +kernel) (by decide +kernel)
set_option maxRecDepth 20000 in
theorem gX5_coup_X5_sprinkledBy : GoodIn wsX5_coup (wsV RX5 127 RX5 yX5_sprinkledBy wsX5_sprinkledBy) := goodIn_app (goodIn_of _ (by decide +kernel)) ggX5_coup_X5_sprinkledBy
theorem dX5_coup_0 : decode cX5_coup 0 = .ok (.aload_n 0, 1) := by decide +kernel
theorem dX5_coup_1 : decode cX5_coup 1 = .ok (.iload_n 1, 1) := by decide +kernel
theorem dX5_coup_2 : decode cX5_coup 2 = .ok (.invokevirtual 76, 3) := by decide +kernel
theorem dX5_coup_5 : decode cX5_coup 5 = .ok (.ifCond .ne 5, 3) := by decide +kernel
theorem dX5_coup_8 : decode cX5_coup 8 = .ok (.iconst (-1), 1) := by decide +kernel
theorem dX5_coup_9 : decode cX5_coup 9 = .ok (.ireturn, 1) := by decide +kernel
theorem dX5_coup_10 : decode cX5_coup 10 = .ok (.iconst 0, 1) := by decide +kernel
theorem dX5_coup_11 : decode cX5_coup 11 = .ok (.istore_n 2, 1) := by decide +kernel
theorem dX5_coup_12 : decode cX5_coup 12 = .ok (.iload_n 2, 1) := by decide +kernel
theorem dX5_coup_13 : decode cX5_coup 13 = .ok (.bipush 10, 2) := by decide +kernel
theorem dX5_coup_15 : decode cX5_coup 15 = .ok (.if_icmp .ge 22, 3) := by decide +kernel
theorem dX5_coup_18 : decode cX5_coup 18 = .ok (.aload_n 0, 1) := by decide +kernel
theorem dX5_coup_19 : decode cX5_coup 19 = .ok (.iload_n 2, 1) := by decide +kernel
theorem dX5_coup_20 : decode cX5_coup 20 = .ok (.invokevirtual 127, 3) := by decide +kernel
theorem dX5_coup_23 : decode cX5_coup 23 = .ok (.iconst 1, 1) := by decide +kernel
theorem dX5_coup_24 : decode cX5_coup 24 = .ok (.iload_n 1, 1) := by decide +kernel
theorem dX5_coup_25 : decode cX5_coup 25 = .ok (.ishl, 1) := by decide +kernel
theorem dX5_coup_26 : decode cX5_coup 26 = .ok (.if_icmp .ne 5, 3) := by decide +kernel
theorem dX5_coup_29 : decode cX5_coup 29 = .ok (.iload_n 2, 1) := by decide +kernel
theorem dX5_coup_30 : decode cX5_coup 30 = .ok (.ireturn, 1) := by decide +kernel
theorem dX5_coup_31 : decode cX5_coup 31 = .ok (.iinc 2 1, 3) := by decide +kernel
theorem dX5_coup_34 : decode cX5_coup 34 = .ok (.goto (-22), 3) := by decide +kernel
theorem dX5_coup_37 : decode cX5_coup 37 = .ok (.bipush (-6), 2) := by decide +kernel
theorem dX5_coup_39 : decode cX5_coup 39 = .ok (.ireturn, 1) := by decide +kernel
set_option maxRecDepth 20000 in
theorem ggX5_quick_X5_isThere : GoodIn wsX5_quick wsX5_isThere := goodIn_r _ [7, 8, 9, 10, 6, 11, 12, 13, 14, 15, 46, 47, 48, 49, 50, 51, 52, 53, 54, 55, 56, 57, 58, 59, 60, 61, 62, 63, 64, 65, 66, 67, 68, 69] (by decide +kernel) (by decide +kernel)
set_option maxRecDepth 20000 in
theorem gX5_quick_X5_isThere : GoodIn wsX5_quick (wsV RX5 76 RX5 yX5_isThere wsX5_isThere) := goodIn_app (goodIn_of _ (by decide +kernel)) ggX5_quick_X5_isThere
set_option maxRecDepth 20000 in
theorem ggX5_quick_X5_in : GoodIn wsX5_quick wsX5_in := goodIn_r _ [15] (by decide +kernel) (by decide +kernel)
set_option maxRecDepth 20000 in
theorem gX5_quick_X5_in : GoodIn wsX5_quick (va_wsS RX5 53 yX5_in wsX5_in) := goodIn_app (goodIn_of _ (by decide +kernel)) ggX5_quick_X5_in
set_option maxRecDepth 20000 in
theorem ggX5_quick_X5_sixtieths : GoodIn wsX5_quick wsX5_sixtieths := goodIn_r _ [19, 20, 21, 22, 23, 24, 6, 25, 26, 27, 28, 29, 30, 31, 32, 33, 34, 35, 36, 37, 38, 2, 3, 4, 5, 7, 8, 9, 10, 11, 12, 13, 14, 15, 39, 40, 41, 46, 47, 48, 49, 50, 51, 52, 53, 54, 55, 56, 57, 58, 59, 60, 61, 62, 63, 64, 65, 66, 67, 68, 69] (by decide +kernel) (by decide +kernel)
set_option maxRecDepth 20000 in
theorem gX5_quick_X5_sixtieths : GoodIn wsX5_quick (wsV RX5 152 RX5 yX5_sixtieths wsX5_sixtieths) := goodIn_app (goodIn_of _ (by decide +kernel)) ggX5_quick_X5_sixtieths
set_option maxRecDepth 20000 in
theorem ggX5_quick_X5_weights : GoodIn wsX5_quick wsX5_weights := goodIn_r _ [45, 21, 46, 47, 48, 49, 50, 51, 52, 53, 54, 55, 56, 57, 58, 59, 60, 61, 62, 63, 64, 65, 66, 67, 68, 69] (by decide +kernel) (by decide +kernel)
set_option maxRecDepth 20000 in
theorem gX5_quick_X5_weights : GoodIn wsX5_quick (wsV RX5 143 RX5 yX5_weights wsX5_weights) := goodIn_app (goodIn_of _ (by decide +kernel)) ggX5_quick_X5_weights
theorem dX5_quick_0 : decode cX5_quick 0 = .ok (.aload_n 0, 1) := by decide +kernel
theorem dX5_quick_1 : decode cX5_quick 1 = .ok (.iload_n 1, 1) := by decide +kernel
theorem dX5_quick_2 : decode cX5_quick 2 = .ok (.invokevirtual 76, 3) := by decide +kernel
theorem dX5_quick_5 : decode cX5_quick 5 = .ok (.ifCond .ne 5, 3) := by decide +kernel
theorem dX5_quick_8 : decode cX5_quick 8 = .ok (.iconst (-1), 1) := by decide +kernel
theorem dX5_quick_9 : decode cX5_quick 9 = .ok (.ireturn, 1) := by decide +kernel
theorem dX5_quick_10 : decode cX5_quick 10 = .ok (.iload_n 3, 1) := by decide +kernel
theorem dX5_quick_11 : decode cX5_quick 11 = .ok (.i2l, 1) := by decide +kernel
theorem dX5_quick_12 : decode cX5_quick 12 = .ok (.lconst 1, 1) := by decide +kernel
theorem dX5_quick_13 : decode cX5_quick 13 = .ok (.ldc2_w 183, 3) := by decide +kernel
theorem dX5_quick_16 : decode cX5_quick 16 = .ok (.invokestatic 53, 3) := by decide +kernel
theorem dX5_quick_19 : decode cX5_quick 19 = .ok (.ifCond .eq 14, 3) := by decide +kernel
theorem dX5_quick_22 : decode cX5_quick 22 = .ok (.iload_n 2, 1) := by decide +kernel
theorem dX5_quick_23 : decode cX5_quick 23 = .ok (.i2l, 1) := by decide +kernel
theorem dX5_quick_24 : decode cX5_quick 24 = .ok (.lconst 0, 1) := by decide +kernel
theorem dX5_quick_25 : decode cX5_quick 25 = .ok (.iload_n 3, 1) := by decide +kernel
theorem dX5_quick_26 : decode cX5_quick 26 = .ok (.i2l, 1) := by decide +kernel
theorem dX5_quick_27 : decode cX5_quick 27 = .ok (.invokestatic 53, 3) := by decide +kernel
theorem dX5_quick_30 : decode cX5_quick 30 = .ok (.ifCond .ne 6, 3) := by decide +kernel
theorem dX5_quick_33 : decode cX5_quick 33 = .ok (.bipush (-2), 2) := by decide +kernel
theorem dX5_quick_35 : decode cX5_quick 35 = .ok (.ireturn, 1) := by decide +kernel
theorem dX5_quick_36 : decode cX5_quick 36 = .ok (.aload_n 0, 1) := by decide +kernel
theorem dX5_quick_37 : decode cX5_quick 37 = .ok (.getfield 13, 3) := by decide +kernel
theorem dX5_quick_40 : decode cX5_quick 40 = .ok (.iload_n 1, 1) := by decide +kernel
theorem dX5_quick_41 : decode cX5_quick 41 = .ok (.iaload, 1) := by decide +kernel
theorem dX5_quick_42 : decode cX5_quick 42 = .ok (.istore 4, 2) := by decide +kernel
theorem dX5_quick_44 : decode cX5_quick 44 = .ok (.bipush (-6), 2) := by decide +kernel
theorem dX5_quick_46 : decode cX5_quick 46 = .ok (.istore 5, 2) := by decide +kernel
theorem dX5_quick_48 : decode cX5_quick 48 = .ok (.iconst 0, 1) := by decide +kernel
theorem dX5_quick_49 : decode cX5_quick 49 = .ok (.istore 6, 2) := by decide +kernel
theorem dX5_quick_51 : decode cX5_quick 51 = .ok (.iload 6, 2) := by decide +kernel
theorem dX5_quick_53 : decode cX5_quick 53 = .ok (.bipush 10, 2) := by decide +kernel
theorem dX5_quick_55 : decode cX5_quick 55 = .ok (.if_icmp .ge 45, 3) := by decide +kernel
theorem dX5_quick_58 : decode cX5_quick 58 = .ok (.aload_n 0, 1) := by decide +kernel
theorem dX5_quick_59 : decode cX5_quick 59 = .ok (.getfield 13, 3) := by decide +kernel
theorem dX5_quick_62 : decode cX5_quick 62 = .ok (.iload_n 1, 1) := by decide +kernel
theorem dX5_quick_63 : decode cX5_quick 63 = .ok (.iload 6, 2) := by decide +kernel
theorem dX5_quick_65 : decode cX5_quick 65 = .ok (.iastore, 1) := by decide +kernel
theorem dX5_quick_66 : decode cX5_quick 66 = .ok (.aload_n 0, 1) := by decide +kernel
theorem dX5_quick_67 : decode cX5_quick 67 = .ok (.iload_n 1, 1) := by decide +kernel
theorem dX5_quick_68 : decode cX5_quick 68 = .ok (.invokevirtual 152, 3) := by decide +kernel
theorem dX5_quick_71 : decode cX5_quick 71 = .ok (.iload_n 3, 1) := by decide +kernel
theorem dX5_quick_72 : decode cX5_quick 72 = .ok (.imul, 1) := by decide +kernel
theorem dX5_quick_73 : decode cX5_quick 73 = .ok (.iload_n 2, 1) := by decide +kernel
theorem dX5_quick_74 : decode cX5_quick 74 = .ok (.bipush 60, 2) := by decide +kernel
theorem dX5_quick_76 : decode cX5_quick 76 = .ok (.imul, 1) := by decide +kernel
theorem dX5_quick_77 : decode cX5_quick 77 = .ok (.aload_n 0, 1) := by decide +kernel
theorem dX5_quick_78 : decode cX5_quick 78 = .ok (.invokevirtual 143, 3) := by decide +kernel
theorem dX5_quick_81 : decode cX5_quick 81 = .ok (.imul, 1) := by decide +kernel
theorem dX5_quick_82 : decode cX5_quick 82 = .ok (.if_icmp .lt 8, 3) := by decide +kernel
theorem dX5_quick_85 : decode cX5_quick 85 = .ok (.iload 6, 2) := by decide +kernel
theorem dX5_quick_87 : decode cX5_quick 87 = .ok (.goto 5, 3) := by decide +kernel
theorem dX5_quick_90 : decode cX5_quick 90 = .ok (.iload 5, 2) := by decide +kernel
theorem dX5_quick_92 : decode cX5_quick 92 = .ok (.istore 5, 2) := by decide +kernel
theorem dX5_quick_94 : decode cX5_quick 94 = .ok (.iinc 6 1, 3) := by decide +kernel
theorem dX5_quick_97 : decode cX5_quick 97 = .ok (.goto (-46), 3) := by decide +kernel
theorem dX5_quick_100 : decode cX5_quick 100 = .ok (.aload_n 0, 1) := by decide +kernel
theorem dX5_quick_101 : decode cX5_quick 101 = .ok (.getfield 13, 3) := by decide +kernel
theorem dX5_quick_104 : decode cX5_quick 104 = .ok (.iload_n 1, 1) := by decide +kernel
theorem dX5_quick_105 : decode cX5_quick 105 = .ok (.iload 4, 2) := by decide +kernel
theorem dX5_quick_107 : decode cX5_quick 107 = .ok (.iastore, 1) := by decide +kernel
theorem dX5_quick_108 : decode cX5_quick 108 = .ok (.iload 5, 2) := by decide +kernel
theorem dX5_quick_110 : decode cX5_quick 110 = .ok (.ireturn, 1) := by decide +kernel
set_option maxRecDepth 20000 in
theorem ggX5_seen_X5_in : GoodIn wsX5_seen wsX5_in := goodIn_r _ [9] (by decide +kernel) (by decide +kernel)
set_option maxRecDepth 20000 in
theorem gX5_seen_X5_in : GoodIn wsX5_seen (va_wsS RX5 53 yX5_in wsX5_in) := goodIn_app (goodIn_of _ (by decide +kernel)) ggX5_seen_X5_in
set_option maxRecDepth 20000 in
theorem ggX5_seen_X5_isPerson : GoodIn wsX5_seen wsX5_isPerson := goodIn_r _ [12, 13, 6, 7, 8, 9] (by decide +kernel) (by decide +kernel)
set_option maxRecDepth 20000 in
theorem gX5_seen_X5_isPerson : GoodIn wsX5_seen (va_wsS RX5 59 yX5_isPerson wsX5_isPerson) := goodIn_app (goodIn_of _ (by decide +kernel)) ggX5_seen_X5_isPerson
theorem dX5_seen_0 : decode cX5_seen 0 = .ok (.iload_n 1, 1) := by decide +kernel
theorem dX5_seen_1 : decode cX5_seen 1 = .ok (.i2l, 1) := by decide +kernel
theorem dX5_seen_2 : decode cX5_seen 2 = .ok (.lconst 1, 1) := by decide +kernel
theorem dX5_seen_3 : decode cX5_seen 3 = .ok (.ldc2_w 185, 3) := by decide +kernel
theorem dX5_seen_6 : decode cX5_seen 6 = .ok (.invokestatic 53, 3) := by decide +kernel
theorem dX5_seen_9 : decode cX5_seen 9 = .ok (.ifCond .eq 12, 3) := by decide +kernel
theorem dX5_seen_12 : decode cX5_seen 12 = .ok (.iload_n 2, 1) := by decide +kernel
theorem dX5_seen_13 : decode cX5_seen 13 = .ok (.invokestatic 59, 3) := by decide +kernel
theorem dX5_seen_16 : decode cX5_seen 16 = .ok (.ifCond .ne 5, 3) := by decide +kernel
theorem dX5_seen_19 : decode cX5_seen 19 = .ok (.iconst (-1), 1) := by decide +kernel
theorem dX5_seen_20 : decode cX5_seen 20 = .ok (.ireturn, 1) := by decide +kernel
theorem dX5_seen_21 : decode cX5_seen 21 = .ok (.iload_n 1, 1) := by decide +kernel
theorem dX5_seen_22 : decode cX5_seen 22 = .ok (.i2l, 1) := by decide +kernel
theorem dX5_seen_23 : decode cX5_seen 23 = .ok (.lconst 0, 1) := by decide +kernel
theorem dX5_seen_24 : decode cX5_seen 24 = .ok (.ldc2_w 185, 3) := by decide +kernel
theorem dX5_seen_27 : decode cX5_seen 27 = .ok (.invokestatic 53, 3) := by decide +kernel
theorem dX5_seen_30 : decode cX5_seen 30 = .ok (.ifCond .eq 19, 3) := by decide +kernel
theorem dX5_seen_33 : decode cX5_seen 33 = .ok (.iload_n 1, 1) := by decide +kernel
theorem dX5_seen_34 : decode cX5_seen 34 = .ok (.ifCond .ne 18, 3) := by decide +kernel
theorem dX5_seen_37 : decode cX5_seen 37 = .ok (.iload_n 2, 1) := by decide +kernel
theorem dX5_seen_38 : decode cX5_seen 38 = .ok (.i2l, 1) := by decide +kernel
theorem dX5_seen_39 : decode cX5_seen 39 = .ok (.lconst 0, 1) := by decide +kernel
theorem dX5_seen_40 : decode cX5_seen 40 = .ok (.ldc2_w 187, 3) := by decide +kernel
theorem dX5_seen_43 : decode cX5_seen 43 = .ok (.invokestatic 53, 3) := by decide +kernel
theorem dX5_seen_46 : decode cX5_seen 46 = .ok (.ifCond .ne 6, 3) := by decide +kernel
theorem dX5_seen_49 : decode cX5_seen 49 = .ok (.bipush (-2), 2) := by decide +kernel
theorem dX5_seen_51 : decode cX5_seen 51 = .ok (.ireturn, 1) := by decide +kernel
theorem dX5_seen_52 : decode cX5_seen 52 = .ok (.aload_n 0, 1) := by decide +kernel
theorem dX5_seen_53 : decode cX5_seen 53 = .ok (.getfield 189, 3) := by decide +kernel
theorem dX5_seen_56 : decode cX5_seen 56 = .ok (.bipush 6, 2) := by decide +kernel
theorem dX5_seen_58 : decode cX5_seen 58 = .ok (.if_icmp .ne 6, 3) := by decide +kernel
theorem dX5_seen_61 : decode cX5_seen 61 = .ok (.bipush (-4), 2) := by decide +kernel
theorem dX5_seen_63 : decode cX5_seen 63 = .ok (.ireturn, 1) := by decide +kernel
theorem dX5_seen_64 : decode cX5_seen 64 = .ok (.aload_n 0, 1) := by decide +kernel
theorem dX5_seen_65 : decode cX5_seen 65 = .ok (.getfield 22, 3) := by decide +kernel
theorem dX5_seen_68 : decode cX5_seen 68 = .ok (.aload_n 0, 1) := by decide +kernel
theorem dX5_seen_69 : decode cX5_seen 69 = .ok (.getfield 189, 3) := by decide +kernel
theorem dX5_seen_72 : decode cX5_seen 72 = .ok (.iload_n 1, 1) := by decide +kernel
theorem dX5_seen_73 : decode cX5_seen 73 = .ok (.iastore, 1) := by decide +kernel
theorem dX5_seen_74 : decode cX5_seen 74 = .ok (.aload_n 0, 1) := by decide +kernel
theorem dX5_seen_75 : decode cX5_seen 75 = .ok (.getfield 25, 3) := by decide +kernel
theorem dX5_seen_78 : decode cX5_seen 78 = .ok (.aload_n 0, 1) := by decide +kernel
theorem dX5_seen_79 : decode cX5_seen 79 = .ok (.getfield 189, 3) := by decide +kernel
theorem dX5_seen_82 : decode cX5_seen 82 = .ok (.iload_n 2, 1) := by decide +kernel
theorem dX5_seen_83 : decode cX5_seen 83 = .ok (.iastore, 1) := by decide +kernel
theorem dX5_seen_84 : decode cX5_seen 84 = .ok (.aload_n 0, 1) := by decide +kernel
theorem dX5_seen_85 : decode cX5_seen 85 = .ok (.dup, 1) := by decide +kernel
theorem dX5_seen_86 : decode cX5_seen 86 = .ok (.getfield 189, 3) := by decide +kernel
theorem dX5_seen_89 : decode cX5_seen 89 = .ok (.iconst 1, 1) := by decide +kernel
theorem dX5_seen_90 : decode cX5_seen 90 = .ok (.iadd, 1) := by decide +kernel
theorem dX5_seen_91 : decode cX5_seen 91 = .ok (.putfield 189, 3) := by decide +kernel
theorem dX5_seen_94 : decode cX5_seen 94 = .ok (.aload_n 0, 1) := by decide +kernel
theorem dX5_seen_95 : decode cX5_seen 95 = .ok (.getfield 189, 3) := by decide +kernel
theorem dX5_seen_98 : decode cX5_seen 98 = .ok (.ireturn, 1) := by decide +kernel
theorem dX5_forget_0 : decode cX5_forget 0 = .ok (.aload_n 0, 1) := by decide +kernel
theorem dX5_forget_1 : decode cX5_forget 1 = .ok (.getfield 189, 3) := by decide +kernel
theorem dX5_forget_4 : decode cX5_forget 4 = .ok (.istore_n 1, 1) := by decide +kernel
theorem dX5_forget_5 : decode cX5_forget 5 = .ok (.aload_n 0, 1) := by decide +kernel
theorem dX5_forget_6 : decode cX5_forget 6 = .ok (.iconst 0, 1) := by decide +kernel
theorem dX5_forget_7 : decode cX5_forget 7 = .ok (.putfield 189, 3) := by decide +kernel
theorem dX5_forget_10 : decode cX5_forget 10 = .ok (.iload_n 1, 1) := by decide +kernel
theorem dX5_forget_11 : decode cX5_forget 11 = .ok (.ireturn, 1) := by decide +kernel
theorem dX5_holds_0 : decode cX5_holds 0 = .ok (.aload_n 0, 1) := by decide +kernel
theorem dX5_holds_1 : decode cX5_holds 1 = .ok (.getfield 22, 3) := by decide +kernel
theorem dX5_holds_4 : decode cX5_holds 4 = .ok (.iload_n 1, 1) := by decide +kernel
theorem dX5_holds_5 : decode cX5_holds 5 = .ok (.iaload, 1) := by decide +kernel
theorem dX5_holds_6 : decode cX5_holds 6 = .ok (.ifCond .ne 21, 3) := by decide +kernel
theorem dX5_holds_9 : decode cX5_holds 9 = .ok (.iload_n 2, 1) := by decide +kernel
theorem dX5_holds_10 : decode cX5_holds 10 = .ok (.aload_n 0, 1) := by decide +kernel
theorem dX5_holds_11 : decode cX5_holds 11 = .ok (.getfield 25, 3) := by decide +kernel
theorem dX5_holds_14 : decode cX5_holds 14 = .ok (.iload_n 1, 1) := by decide +kernel
theorem dX5_holds_15 : decode cX5_holds 15 = .ok (.iaload, 1) := by decide +kernel
theorem dX5_holds_16 : decode cX5_holds 16 = .ok (.if_icmp .ne 7, 3) := by decide +kernel
theorem dX5_holds_19 : decode cX5_holds 19 = .ok (.iconst 1, 1) := by decide +kernel
theorem dX5_holds_20 : decode cX5_holds 20 = .ok (.goto 40, 3) := by decide +kernel
theorem dX5_holds_23 : decode cX5_holds 23 = .ok (.iconst 0, 1) := by decide +kernel
theorem dX5_holds_24 : decode cX5_holds 24 = .ok (.goto 36, 3) := by decide +kernel
theorem dX5_holds_27 : decode cX5_holds 27 = .ok (.iload_n 2, 1) := by decide +kernel
theorem dX5_holds_28 : decode cX5_holds 28 = .ok (.aload_n 0, 1) := by decide +kernel
theorem dX5_holds_29 : decode cX5_holds 29 = .ok (.getfield 25, 3) := by decide +kernel
theorem dX5_holds_32 : decode cX5_holds 32 = .ok (.iload_n 1, 1) := by decide +kernel
theorem dX5_holds_33 : decode cX5_holds 33 = .ok (.iaload, 1) := by decide +kernel
theorem dX5_holds_34 : decode cX5_holds 34 = .ok (.ishr, 1) := by decide +kernel
theorem dX5_holds_35 : decode cX5_holds 35 = .ok (.iconst 1, 1) := by decide +kernel
theorem dX5_holds_36 : decode cX5_holds 36 = .ok (.iand, 1) := by decide +kernel
theorem dX5_holds_37 : decode cX5_holds 37 = .ok (.aload_n 0, 1) := by decide +kernel
theorem dX5_holds_38 : decode cX5_holds 38 = .ok (.getfield 22, 3) := by decide +kernel
theorem dX5_holds_41 : decode cX5_holds 41 = .ok (.iload_n 1, 1) := by decide +kernel
theorem dX5_holds_42 : decode cX5_holds 42 = .ok (.iaload, 1) := by decide +kernel
theorem dX5_holds_43 : decode cX5_holds 43 = .ok (.iconst 1, 1) := by decide +kernel
theorem dX5_holds_44 : decode cX5_holds 44 = .ok (.if_icmp .ne 7, 3) := by decide +kernel
theorem dX5_holds_47 : decode cX5_holds 47 = .ok (.iconst 1, 1) := by decide +kernel
theorem dX5_holds_48 : decode cX5_holds 48 = .ok (.goto 4, 3) := by decide +kernel
theorem dX5_holds_51 : decode cX5_holds 51 = .ok (.iconst 0, 1) := by decide +kernel
theorem dX5_holds_52 : decode cX5_holds 52 = .ok (.if_icmp .ne 7, 3) := by decide +kernel
theorem dX5_holds_55 : decode cX5_holds 55 = .ok (.iconst 1, 1) := by decide +kernel
theorem dX5_holds_56 : decode cX5_holds 56 = .ok (.goto 4, 3) := by decide +kernel
theorem dX5_holds_59 : decode cX5_holds 59 = .ok (.iconst 0, 1) := by decide +kernel
theorem dX5_holds_60 : decode cX5_holds 60 = .ok (.ireturn, 1) := by decide +kernel
set_option maxRecDepth 20000 in
theorem ggX5_fits_X5_rulersBy : GoodIn wsX5_fits wsX5_rulersBy := goodIn_r _ [6, 7, 8, 9, 5, 10, 11, 12, 13, 14, 15, 16, 17, 18, 19, 20, 21, 22, 23, 24, 25, 26, 27, 28, 29, 30, 31, 32, 39, 40, 41, 42, 43, 44, 45, 46, 47, 48, 49, 50, 51, 52, 53, 54, 55, 56, 57, 58, 59, 60, 61, 62] (by decide +kernel) (by decide +kernel)
set_option maxRecDepth 20000 in
theorem gX5_fits_X5_rulersBy : GoodIn wsX5_fits (wsV RX5 111 RX5 yX5_rulersBy wsX5_rulersBy) := goodIn_app (goodIn_of _ (by decide +kernel)) ggX5_fits_X5_rulersBy
set_option maxRecDepth 20000 in
theorem ggX5_fits_X5_holds : GoodIn wsX5_fits wsX5_holds := goodIn_r _ [36, 37, 38, 39, 40, 41, 42, 43, 44, 45, 46, 47, 48, 49, 50, 51, 52, 53, 54, 55, 56, 57, 58, 59, 60, 61, 62] (by decide +kernel) (by decide +kernel)
set_option maxRecDepth 20000 in
theorem gX5_fits_X5_holds : GoodIn wsX5_fits (wsV RX5 192 RX5 yX5_holds wsX5_holds) := goodIn_app (goodIn_of _ (by decide +kernel)) ggX5_fits_X5_holds
theorem dX5_fits_0 : decode cX5_fits 0 = .ok (.iconst 0, 1) := by decide +kernel
theorem dX5_fits_1 : decode cX5_fits 1 = .ok (.istore_n 1, 1) := by decide +kernel
theorem dX5_fits_2 : decode cX5_fits 2 = .ok (.iconst 0, 1) := by decide +kernel
theorem dX5_fits_3 : decode cX5_fits 3 = .ok (.istore_n 2, 1) := by decide +kernel
theorem dX5_fits_4 : decode cX5_fits 4 = .ok (.iload_n 2, 1) := by decide +kernel
theorem dX5_fits_5 : decode cX5_fits 5 = .ok (.bipush 10, 2) := by decide +kernel
theorem dX5_fits_7 : decode cX5_fits 7 = .ok (.if_icmp .ge 73, 3) := by decide +kernel
theorem dX5_fits_10 : decode cX5_fits 10 = .ok (.aload_n 0, 1) := by decide +kernel
theorem dX5_fits_11 : decode cX5_fits 11 = .ok (.iload_n 2, 1) := by decide +kernel
theorem dX5_fits_12 : decode cX5_fits 12 = .ok (.invokevirtual 111, 3) := by decide +kernel
theorem dX5_fits_15 : decode cX5_fits 15 = .ok (.istore_n 3, 1) := by decide +kernel
theorem dX5_fits_16 : decode cX5_fits 16 = .ok (.iconst 1, 1) := by decide +kernel
theorem dX5_fits_17 : decode cX5_fits 17 = .ok (.istore 4, 2) := by decide +kernel
theorem dX5_fits_19 : decode cX5_fits 19 = .ok (.iconst 0, 1) := by decide +kernel
theorem dX5_fits_20 : decode cX5_fits 20 = .ok (.istore 5, 2) := by decide +kernel
theorem dX5_fits_22 : decode cX5_fits 22 = .ok (.iload 5, 2) := by decide +kernel
theorem dX5_fits_24 : decode cX5_fits 24 = .ok (.aload_n 0, 1) := by decide +kernel
theorem dX5_fits_25 : decode cX5_fits 25 = .ok (.getfield 189, 3) := by decide +kernel
theorem dX5_fits_28 : decode cX5_fits 28 = .ok (.if_icmp .ge 31, 3) := by decide +kernel
theorem dX5_fits_31 : decode cX5_fits 31 = .ok (.iload 4, 2) := by decide +kernel
theorem dX5_fits_33 : decode cX5_fits 33 = .ok (.ifCond .eq 17, 3) := by decide +kernel
theorem dX5_fits_36 : decode cX5_fits 36 = .ok (.aload_n 0, 1) := by decide +kernel
theorem dX5_fits_37 : decode cX5_fits 37 = .ok (.iload 5, 2) := by decide +kernel
theorem dX5_fits_39 : decode cX5_fits 39 = .ok (.iload_n 3, 1) := by decide +kernel
theorem dX5_fits_40 : decode cX5_fits 40 = .ok (.invokevirtual 192, 3) := by decide +kernel
theorem dX5_fits_43 : decode cX5_fits 43 = .ok (.ifCond .eq 7, 3) := by decide +kernel
theorem dX5_fits_46 : decode cX5_fits 46 = .ok (.iconst 1, 1) := by decide +kernel
theorem dX5_fits_47 : decode cX5_fits 47 = .ok (.goto 4, 3) := by decide +kernel
theorem dX5_fits_50 : decode cX5_fits 50 = .ok (.iconst 0, 1) := by decide +kernel
theorem dX5_fits_51 : decode cX5_fits 51 = .ok (.istore 4, 2) := by decide +kernel
theorem dX5_fits_53 : decode cX5_fits 53 = .ok (.iinc 5 1, 3) := by decide +kernel
theorem dX5_fits_56 : decode cX5_fits 56 = .ok (.goto (-34), 3) := by decide +kernel
theorem dX5_fits_59 : decode cX5_fits 59 = .ok (.iload_n 1, 1) := by decide +kernel
theorem dX5_fits_60 : decode cX5_fits 60 = .ok (.iload 4, 2) := by decide +kernel
theorem dX5_fits_62 : decode cX5_fits 62 = .ok (.ifCond .eq 9, 3) := by decide +kernel
theorem dX5_fits_65 : decode cX5_fits 65 = .ok (.iconst 1, 1) := by decide +kernel
theorem dX5_fits_66 : decode cX5_fits 66 = .ok (.iload_n 2, 1) := by decide +kernel
theorem dX5_fits_67 : decode cX5_fits 67 = .ok (.ishl, 1) := by decide +kernel
theorem dX5_fits_68 : decode cX5_fits 68 = .ok (.goto 4, 3) := by decide +kernel
theorem dX5_fits_71 : decode cX5_fits 71 = .ok (.iconst 0, 1) := by decide +kernel
theorem dX5_fits_72 : decode cX5_fits 72 = .ok (.ior, 1) := by decide +kernel
theorem dX5_fits_73 : decode cX5_fits 73 = .ok (.istore_n 1, 1) := by decide +kernel
theorem dX5_fits_74 : decode cX5_fits 74 = .ok (.iinc 2 1, 3) := by decide +kernel
theorem dX5_fits_77 : decode cX5_fits 77 = .ok (.goto (-73), 3) := by decide +kernel
theorem dX5_fits_80 : decode cX5_fits 80 = .ok (.iload_n 1, 1) := by decide +kernel
theorem dX5_fits_81 : decode cX5_fits 81 = .ok (.ireturn, 1) := by decide +kernel
set_option maxRecDepth 20000 in
theorem ggX5_year_X5_in : GoodIn wsX5_year wsX5_in := goodIn_r _ [12] (by decide +kernel) (by decide +kernel)
set_option maxRecDepth 20000 in
theorem gX5_year_X5_in : GoodIn wsX5_year (va_wsS RX5 53 yX5_in wsX5_in) := goodIn_app (goodIn_of _ (by decide +kernel)) ggX5_year_X5_in
set_option maxRecDepth 20000 in
theorem ggX5_year_X5_rulersBy : GoodIn wsX5_year wsX5_rulersBy := goodIn_r _ [16, 17, 18, 19, 11, 20, 21, 22, 23, 24, 25, 26, 27, 28, 29, 30, 31, 32, 33, 34, 35, 36, 37, 38, 39, 9, 10, 12, 44, 45, 46, 47, 48, 49, 50, 51, 52, 53, 54, 55, 56, 57, 58, 59, 60, 61, 62, 63, 64, 65, 66, 67] (by decide +kernel) (by decide +kernel)
set_option maxRecDepth 20000 in
theorem gX5_year_X5_rulersBy : GoodIn wsX5_year (wsV RX5 111 RX5 yX5_rulersBy wsX5_rulersBy) := goodIn_app (goodIn_of _ (by decide +kernel)) ggX5_year_X5_rulersBy
set_option maxRecDepth 20000 in
theorem ggX5_year_X5_rule : GoodIn wsX5_year wsX5_rule := goodIn_r _ [43, 4, 5, 44, 45, 46, 47, 48, 49, 50, 51, 52, 53, 54, 55, 56, 57, 58, 59, 60, 61, 62, 63, 64, 65, 66, 67] (by decide +kernel) (by decide +kernel)
set_option maxRecDepth 20000 in
theorem gX5_year_X5_rule : GoodIn wsX5_year (wsV RX5 124 RX5 yX5_rule wsX5_rule) := goodIn_app (goodIn_of _ (by decide +kernel)) ggX5_year_X5_rule
theorem dX5_year_0 : decode cX5_year 0 = .ok (.iload_n 1, 1) := by decide +kernel
theorem dX5_year_1 : decode cX5_year 1 = .ok (.i2l, 1) := by decide +kernel
theorem dX5_year_2 : decode cX5_year 2 = .ok (.lconst 0, 1) := by decide +kernel
theorem dX5_year_3 : decode cX5_year 3 = .ok (.ldc2_w 195, 3) := by decide +kernel
theorem dX5_year_6 : decode cX5_year 6 = .ok (.invokestatic 53, 3) := by decide +kernel
theorem dX5_year_9 : decode cX5_year 9 = .ok (.ifCond .eq 27, 3) := by decide +kernel
theorem dX5_year_12 : decode cX5_year 12 = .ok (.iload_n 2, 1) := by decide +kernel
theorem dX5_year_13 : decode cX5_year 13 = .ok (.i2l, 1) := by decide +kernel
theorem dX5_year_14 : decode cX5_year 14 = .ok (.lconst 1, 1) := by decide +kernel
theorem dX5_year_15 : decode cX5_year 15 = .ok (.ldc2_w 197, 3) := by decide +kernel
theorem dX5_year_18 : decode cX5_year 18 = .ok (.invokestatic 53, 3) := by decide +kernel
theorem dX5_year_21 : decode cX5_year 21 = .ok (.ifCond .eq 15, 3) := by decide +kernel
theorem dX5_year_24 : decode cX5_year 24 = .ok (.iload_n 3, 1) := by decide +kernel
theorem dX5_year_25 : decode cX5_year 25 = .ok (.i2l, 1) := by decide +kernel
theorem dX5_year_26 : decode cX5_year 26 = .ok (.lconst 0, 1) := by decide +kernel
theorem dX5_year_27 : decode cX5_year 27 = .ok (.ldc2_w 148, 3) := by decide +kernel
theorem dX5_year_30 : decode cX5_year 30 = .ok (.invokestatic 53, 3) := by decide +kernel
theorem dX5_year_33 : decode cX5_year 33 = .ok (.ifCond .ne 6, 3) := by decide +kernel
theorem dX5_year_36 : decode cX5_year 36 = .ok (.bipush (-2), 2) := by decide +kernel
theorem dX5_year_38 : decode cX5_year 38 = .ok (.ireturn, 1) := by decide +kernel
theorem dX5_year_39 : decode cX5_year 39 = .ok (.iload_n 1, 1) := by decide +kernel
theorem dX5_year_40 : decode cX5_year 40 = .ok (.istore 4, 2) := by decide +kernel
theorem dX5_year_42 : decode cX5_year 42 = .ok (.iconst 0, 1) := by decide +kernel
theorem dX5_year_43 : decode cX5_year 43 = .ok (.istore 5, 2) := by decide +kernel
theorem dX5_year_45 : decode cX5_year 45 = .ok (.aload_n 0, 1) := by decide +kernel
theorem dX5_year_46 : decode cX5_year 46 = .ok (.iconst 0, 1) := by decide +kernel
theorem dX5_year_47 : decode cX5_year 47 = .ok (.putfield 114, 3) := by decide +kernel
theorem dX5_year_50 : decode cX5_year 50 = .ok (.aload_n 0, 1) := by decide +kernel
theorem dX5_year_51 : decode cX5_year 51 = .ok (.iconst 0, 1) := by decide +kernel
theorem dX5_year_52 : decode cX5_year 52 = .ok (.putfield 117, 3) := by decide +kernel
theorem dX5_year_55 : decode cX5_year 55 = .ok (.iconst 0, 1) := by decide +kernel
theorem dX5_year_56 : decode cX5_year 56 = .ok (.istore 6, 2) := by decide +kernel
theorem dX5_year_58 : decode cX5_year 58 = .ok (.iload 6, 2) := by decide +kernel
theorem dX5_year_60 : decode cX5_year 60 = .ok (.iload_n 2, 1) := by decide +kernel
theorem dX5_year_61 : decode cX5_year 61 = .ok (.if_icmp .ge 90, 3) := by decide +kernel
theorem dX5_year_64 : decode cX5_year 64 = .ok (.ldc2_w 199, 3) := by decide +kernel
theorem dX5_year_67 : decode cX5_year 67 = .ok (.iload 4, 2) := by decide +kernel
theorem dX5_year_69 : decode cX5_year 69 = .ok (.i2l, 1) := by decide +kernel
theorem dX5_year_70 : decode cX5_year 70 = .ok (.lmul, 1) := by decide +kernel
theorem dX5_year_71 : decode cX5_year 71 = .ok (.ldc2_w 201, 3) := by decide +kernel
theorem dX5_year_74 : decode cX5_year 74 = .ok (.ladd, 1) := by decide +kernel
theorem dX5_year_75 : decode cX5_year 75 = .ok (.ldc2_w 203, 3) := by decide +kernel
theorem dX5_year_78 : decode cX5_year 78 = .ok (.lrem, 1) := by decide +kernel
theorem dX5_year_79 : decode cX5_year 79 = .ok (.l2i, 1) := by decide +kernel
theorem dX5_year_80 : decode cX5_year 80 = .ok (.istore 4, 2) := by decide +kernel
theorem dX5_year_82 : decode cX5_year 82 = .ok (.aload_n 0, 1) := by decide +kernel
theorem dX5_year_83 : decode cX5_year 83 = .ok (.iload 4, 2) := by decide +kernel
theorem dX5_year_85 : decode cX5_year 85 = .ok (.bipush 10, 2) := by decide +kernel
theorem dX5_year_87 : decode cX5_year 87 = .ok (.irem, 1) := by decide +kernel
theorem dX5_year_88 : decode cX5_year 88 = .ok (.invokevirtual 111, 3) := by decide +kernel
theorem dX5_year_91 : decode cX5_year 91 = .ok (.istore 7, 2) := by decide +kernel
theorem dX5_year_93 : decode cX5_year 93 = .ok (.aload_n 0, 1) := by decide +kernel
theorem dX5_year_94 : decode cX5_year 94 = .ok (.iload 7, 2) := by decide +kernel
theorem dX5_year_96 : decode cX5_year 96 = .ok (.ifCond .ne 10, 3) := by decide +kernel
theorem dX5_year_99 : decode cX5_year 99 = .ok (.aload_n 0, 1) := by decide +kernel
theorem dX5_year_100 : decode cX5_year 100 = .ok (.getfield 117, 3) := by decide +kernel
theorem dX5_year_103 : decode cX5_year 103 = .ok (.goto 5, 3) := by decide +kernel
theorem dX5_year_106 : decode cX5_year 106 = .ok (.iload 7, 2) := by decide +kernel
theorem dX5_year_108 : decode cX5_year 108 = .ok (.invokevirtual 124, 3) := by decide +kernel
theorem dX5_year_111 : decode cX5_year 111 = .ok (.iload 5, 2) := by decide +kernel
theorem dX5_year_113 : decode cX5_year 113 = .ok (.iload_n 3, 1) := by decide +kernel
theorem dX5_year_114 : decode cX5_year 114 = .ok (.bipush 6, 2) := by decide +kernel
theorem dX5_year_116 : decode cX5_year 116 = .ok (.if_icmp .ge 14, 3) := by decide +kernel
theorem dX5_year_119 : decode cX5_year 119 = .ok (.aload_n 0, 1) := by decide +kernel
theorem dX5_year_120 : decode cX5_year 120 = .ok (.getfield 117, 3) := by decide +kernel
theorem dX5_year_123 : decode cX5_year 123 = .ok (.iload_n 3, 1) := by decide +kernel
theorem dX5_year_124 : decode cX5_year 124 = .ok (.ishr, 1) := by decide +kernel
theorem dX5_year_125 : decode cX5_year 125 = .ok (.iconst 1, 1) := by decide +kernel
theorem dX5_year_126 : decode cX5_year 126 = .ok (.iand, 1) := by decide +kernel
theorem dX5_year_127 : decode cX5_year 127 = .ok (.goto 15, 3) := by decide +kernel
theorem dX5_year_130 : decode cX5_year 130 = .ok (.aload_n 0, 1) := by decide +kernel
theorem dX5_year_131 : decode cX5_year 131 = .ok (.getfield 117, 3) := by decide +kernel
theorem dX5_year_134 : decode cX5_year 134 = .ok (.ifCond .ne 7, 3) := by decide +kernel
theorem dX5_year_137 : decode cX5_year 137 = .ok (.iconst 1, 1) := by decide +kernel
theorem dX5_year_138 : decode cX5_year 138 = .ok (.goto 4, 3) := by decide +kernel
theorem dX5_year_141 : decode cX5_year 141 = .ok (.iconst 0, 1) := by decide +kernel
theorem dX5_year_142 : decode cX5_year 142 = .ok (.iadd, 1) := by decide +kernel
theorem dX5_year_143 : decode cX5_year 143 = .ok (.istore 5, 2) := by decide +kernel
theorem dX5_year_145 : decode cX5_year 145 = .ok (.iinc 6 1, 3) := by decide +kernel
theorem dX5_year_148 : decode cX5_year 148 = .ok (.goto (-90), 3) := by decide +kernel
theorem dX5_year_151 : decode cX5_year 151 = .ok (.iload_n 3, 1) := by decide +kernel
theorem dX5_year_152 : decode cX5_year 152 = .ok (.bipush 7, 2) := by decide +kernel
theorem dX5_year_154 : decode cX5_year 154 = .ok (.if_icmp .ne 10, 3) := by decide +kernel
theorem dX5_year_157 : decode cX5_year 157 = .ok (.aload_n 0, 1) := by decide +kernel
theorem dX5_year_158 : decode cX5_year 158 = .ok (.getfield 114, 3) := by decide +kernel
theorem dX5_year_161 : decode cX5_year 161 = .ok (.goto 5, 3) := by decide +kernel
theorem dX5_year_164 : decode cX5_year 164 = .ok (.iload 5, 2) := by decide +kernel
theorem dX5_year_166 : decode cX5_year 166 = .ok (.ireturn, 1) := by decide +kernel
theorem dX5_carry_0 : decode cX5_carry 0 = .ok (.aload_n 0, 1) := by decide +kernel
theorem dX5_carry_1 : decode cX5_carry 1 = .ok (.getfield 205, 3) := by decide +kernel
theorem dX5_carry_4 : decode cX5_carry 4 = .ok (.ifCond .eq 7, 3) := by decide +kernel
theorem dX5_carry_7 : decode cX5_carry 7 = .ok (.iload_n 1, 1) := by decide +kernel
theorem dX5_carry_8 : decode cX5_carry 8 = .ok (.goto 12, 3) := by decide +kernel
theorem dX5_carry_11 : decode cX5_carry 11 = .ok (.aload_n 0, 1) := by decide +kernel
theorem dX5_carry_12 : decode cX5_carry 12 = .ok (.getfield 37, 3) := by decide +kernel
theorem dX5_carry_15 : decode cX5_carry 15 = .ok (.aload_n 0, 1) := by decide +kernel
theorem dX5_carry_16 : decode cX5_carry 16 = .ok (.getfield 209, 3) := by decide +kernel
theorem dX5_carry_19 : decode cX5_carry 19 = .ok (.iaload, 1) := by decide +kernel
theorem dX5_carry_20 : decode cX5_carry 20 = .ok (.istore_n 2, 1) := by decide +kernel
theorem dX5_carry_21 : decode cX5_carry 21 = .ok (.aload_n 0, 1) := by decide +kernel
theorem dX5_carry_22 : decode cX5_carry 22 = .ok (.getfield 37, 3) := by decide +kernel
theorem dX5_carry_25 : decode cX5_carry 25 = .ok (.aload_n 0, 1) := by decide +kernel
theorem dX5_carry_26 : decode cX5_carry 26 = .ok (.getfield 209, 3) := by decide +kernel
theorem dX5_carry_29 : decode cX5_carry 29 = .ok (.iload_n 2, 1) := by decide +kernel
theorem dX5_carry_30 : decode cX5_carry 30 = .ok (.iastore, 1) := by decide +kernel
theorem dX5_carry_31 : decode cX5_carry 31 = .ok (.aload_n 0, 1) := by decide +kernel
theorem dX5_carry_32 : decode cX5_carry 32 = .ok (.dup, 1) := by decide +kernel
theorem dX5_carry_33 : decode cX5_carry 33 = .ok (.getfield 209, 3) := by decide +kernel
theorem dX5_carry_36 : decode cX5_carry 36 = .ok (.iconst 1, 1) := by decide +kernel
theorem dX5_carry_37 : decode cX5_carry 37 = .ok (.iadd, 1) := by decide +kernel
theorem dX5_carry_38 : decode cX5_carry 38 = .ok (.putfield 209, 3) := by decide +kernel
theorem dX5_carry_41 : decode cX5_carry 41 = .ok (.iload_n 2, 1) := by decide +kernel
theorem dX5_carry_42 : decode cX5_carry 42 = .ok (.ireturn, 1) := by decide +kernel
set_option maxRecDepth 20000 in
theorem ggX5_passAll_X5_carry : GoodIn wsX5_passAll wsX5_carry := goodIn_r _ [17, 18, 19, 20, 21, 22, 23, 24, 25, 26, 27, 28, 29, 30, 31, 32, 33, 34, 35, 36, 37, 38, 39, 40, 41, 42, 43, 44] (by decide +kernel) (by decide +kernel)
set_option maxRecDepth 20000 in
theorem gX5_passAll_X5_carry : GoodIn wsX5_passAll (wsV RX5 212 RX5 yX5_carry wsX5_carry) := goodIn_app (goodIn_of _ (by decide +kernel)) ggX5_passAll_X5_carry
theorem dX5_passAll_0 : decode cX5_passAll 0 = .ok (.aload_n 0, 1) := by decide +kernel
theorem dX5_passAll_1 : decode cX5_passAll 1 = .ok (.aload_n 0, 1) := by decide +kernel
theorem dX5_passAll_2 : decode cX5_passAll 2 = .ok (.aload_n 0, 1) := by decide +kernel
theorem dX5_passAll_3 : decode cX5_passAll 3 = .ok (.getfield 63, 3) := by decide +kernel
theorem dX5_passAll_6 : decode cX5_passAll 6 = .ok (.invokevirtual 212, 3) := by decide +kernel
theorem dX5_passAll_9 : decode cX5_passAll 9 = .ok (.putfield 63, 3) := by decide +kernel
theorem dX5_passAll_12 : decode cX5_passAll 12 = .ok (.aload_n 0, 1) := by decide +kernel
theorem dX5_passAll_13 : decode cX5_passAll 13 = .ok (.aload_n 0, 1) := by decide +kernel
theorem dX5_passAll_14 : decode cX5_passAll 14 = .ok (.aload_n 0, 1) := by decide +kernel
theorem dX5_passAll_15 : decode cX5_passAll 15 = .ok (.getfield 69, 3) := by decide +kernel
theorem dX5_passAll_18 : decode cX5_passAll 18 = .ok (.invokevirtual 212, 3) := by decide +kernel
theorem dX5_passAll_21 : decode cX5_passAll 21 = .ok (.putfield 69, 3) := by decide +kernel
theorem dX5_passAll_24 : decode cX5_passAll 24 = .ok (.aload_n 0, 1) := by decide +kernel
theorem dX5_passAll_25 : decode cX5_passAll 25 = .ok (.aload_n 0, 1) := by decide +kernel
theorem dX5_passAll_26 : decode cX5_passAll 26 = .ok (.aload_n 0, 1) := by decide +kernel
theorem dX5_passAll_27 : decode cX5_passAll 27 = .ok (.getfield 79, 3) := by decide +kernel
theorem dX5_passAll_30 : decode cX5_passAll 30 = .ok (.invokevirtual 212, 3) := by decide +kernel
theorem dX5_passAll_33 : decode cX5_passAll 33 = .ok (.putfield 79, 3) := by decide +kernel
theorem dX5_passAll_36 : decode cX5_passAll 36 = .ok (.aload_n 0, 1) := by decide +kernel
theorem dX5_passAll_37 : decode cX5_passAll 37 = .ok (.aload_n 0, 1) := by decide +kernel
theorem dX5_passAll_38 : decode cX5_passAll 38 = .ok (.aload_n 0, 1) := by decide +kernel
theorem dX5_passAll_39 : decode cX5_passAll 39 = .ok (.getfield 44, 3) := by decide +kernel
theorem dX5_passAll_42 : decode cX5_passAll 42 = .ok (.invokevirtual 212, 3) := by decide +kernel
theorem dX5_passAll_45 : decode cX5_passAll 45 = .ok (.putfield 44, 3) := by decide +kernel
theorem dX5_passAll_48 : decode cX5_passAll 48 = .ok (.aload_n 0, 1) := by decide +kernel
theorem dX5_passAll_49 : decode cX5_passAll 49 = .ok (.aload_n 0, 1) := by decide +kernel
theorem dX5_passAll_50 : decode cX5_passAll 50 = .ok (.aload_n 0, 1) := by decide +kernel
theorem dX5_passAll_51 : decode cX5_passAll 51 = .ok (.getfield 48, 3) := by decide +kernel
theorem dX5_passAll_54 : decode cX5_passAll 54 = .ok (.invokevirtual 212, 3) := by decide +kernel
theorem dX5_passAll_57 : decode cX5_passAll 57 = .ok (.putfield 48, 3) := by decide +kernel
theorem dX5_passAll_60 : decode cX5_passAll 60 = .ok (.aload_n 0, 1) := by decide +kernel
theorem dX5_passAll_61 : decode cX5_passAll 61 = .ok (.aload_n 0, 1) := by decide +kernel
theorem dX5_passAll_62 : decode cX5_passAll 62 = .ok (.aload_n 0, 1) := by decide +kernel
theorem dX5_passAll_63 : decode cX5_passAll 63 = .ok (.getfield 189, 3) := by decide +kernel
theorem dX5_passAll_66 : decode cX5_passAll 66 = .ok (.invokevirtual 212, 3) := by decide +kernel
theorem dX5_passAll_69 : decode cX5_passAll 69 = .ok (.putfield 189, 3) := by decide +kernel
theorem dX5_passAll_72 : decode cX5_passAll 72 = .ok (.iconst 0, 1) := by decide +kernel
theorem dX5_passAll_73 : decode cX5_passAll 73 = .ok (.istore_n 1, 1) := by decide +kernel
theorem dX5_passAll_74 : decode cX5_passAll 74 = .ok (.iload_n 1, 1) := by decide +kernel
theorem dX5_passAll_75 : decode cX5_passAll 75 = .ok (.bipush 6, 2) := by decide +kernel
theorem dX5_passAll_77 : decode cX5_passAll 77 = .ok (.if_icmp .ge 89, 3) := by decide +kernel
theorem dX5_passAll_80 : decode cX5_passAll 80 = .ok (.aload_n 0, 1) := by decide +kernel
theorem dX5_passAll_81 : decode cX5_passAll 81 = .ok (.getfield 7, 3) := by decide +kernel
theorem dX5_passAll_84 : decode cX5_passAll 84 = .ok (.iload_n 1, 1) := by decide +kernel
theorem dX5_passAll_85 : decode cX5_passAll 85 = .ok (.aload_n 0, 1) := by decide +kernel
theorem dX5_passAll_86 : decode cX5_passAll 86 = .ok (.aload_n 0, 1) := by decide +kernel
theorem dX5_passAll_87 : decode cX5_passAll 87 = .ok (.getfield 7, 3) := by decide +kernel
theorem dX5_passAll_90 : decode cX5_passAll 90 = .ok (.iload_n 1, 1) := by decide +kernel
theorem dX5_passAll_91 : decode cX5_passAll 91 = .ok (.iaload, 1) := by decide +kernel
theorem dX5_passAll_92 : decode cX5_passAll 92 = .ok (.invokevirtual 212, 3) := by decide +kernel
theorem dX5_passAll_95 : decode cX5_passAll 95 = .ok (.iastore, 1) := by decide +kernel
theorem dX5_passAll_96 : decode cX5_passAll 96 = .ok (.aload_n 0, 1) := by decide +kernel
theorem dX5_passAll_97 : decode cX5_passAll 97 = .ok (.getfield 13, 3) := by decide +kernel
theorem dX5_passAll_100 : decode cX5_passAll 100 = .ok (.iload_n 1, 1) := by decide +kernel
theorem dX5_passAll_101 : decode cX5_passAll 101 = .ok (.aload_n 0, 1) := by decide +kernel
theorem dX5_passAll_102 : decode cX5_passAll 102 = .ok (.aload_n 0, 1) := by decide +kernel
theorem dX5_passAll_103 : decode cX5_passAll 103 = .ok (.getfield 13, 3) := by decide +kernel
theorem dX5_passAll_106 : decode cX5_passAll 106 = .ok (.iload_n 1, 1) := by decide +kernel
theorem dX5_passAll_107 : decode cX5_passAll 107 = .ok (.iaload, 1) := by decide +kernel
theorem dX5_passAll_108 : decode cX5_passAll 108 = .ok (.invokevirtual 212, 3) := by decide +kernel
theorem dX5_passAll_111 : decode cX5_passAll 111 = .ok (.iastore, 1) := by decide +kernel
theorem dX5_passAll_112 : decode cX5_passAll 112 = .ok (.aload_n 0, 1) := by decide +kernel
theorem dX5_passAll_113 : decode cX5_passAll 113 = .ok (.getfield 16, 3) := by decide +kernel
theorem dX5_passAll_116 : decode cX5_passAll 116 = .ok (.iload_n 1, 1) := by decide +kernel
theorem dX5_passAll_117 : decode cX5_passAll 117 = .ok (.aload_n 0, 1) := by decide +kernel
theorem dX5_passAll_118 : decode cX5_passAll 118 = .ok (.aload_n 0, 1) := by decide +kernel
theorem dX5_passAll_119 : decode cX5_passAll 119 = .ok (.getfield 16, 3) := by decide +kernel
theorem dX5_passAll_122 : decode cX5_passAll 122 = .ok (.iload_n 1, 1) := by decide +kernel
theorem dX5_passAll_123 : decode cX5_passAll 123 = .ok (.iaload, 1) := by decide +kernel
theorem dX5_passAll_124 : decode cX5_passAll 124 = .ok (.invokevirtual 212, 3) := by decide +kernel
theorem dX5_passAll_127 : decode cX5_passAll 127 = .ok (.iastore, 1) := by decide +kernel
theorem dX5_passAll_128 : decode cX5_passAll 128 = .ok (.aload_n 0, 1) := by decide +kernel
theorem dX5_passAll_129 : decode cX5_passAll 129 = .ok (.getfield 22, 3) := by decide +kernel
theorem dX5_passAll_132 : decode cX5_passAll 132 = .ok (.iload_n 1, 1) := by decide +kernel
theorem dX5_passAll_133 : decode cX5_passAll 133 = .ok (.aload_n 0, 1) := by decide +kernel
theorem dX5_passAll_134 : decode cX5_passAll 134 = .ok (.aload_n 0, 1) := by decide +kernel
theorem dX5_passAll_135 : decode cX5_passAll 135 = .ok (.getfield 22, 3) := by decide +kernel
theorem dX5_passAll_138 : decode cX5_passAll 138 = .ok (.iload_n 1, 1) := by decide +kernel
theorem dX5_passAll_139 : decode cX5_passAll 139 = .ok (.iaload, 1) := by decide +kernel
theorem dX5_passAll_140 : decode cX5_passAll 140 = .ok (.invokevirtual 212, 3) := by decide +kernel
theorem dX5_passAll_143 : decode cX5_passAll 143 = .ok (.iastore, 1) := by decide +kernel
theorem dX5_passAll_144 : decode cX5_passAll 144 = .ok (.aload_n 0, 1) := by decide +kernel
theorem dX5_passAll_145 : decode cX5_passAll 145 = .ok (.getfield 25, 3) := by decide +kernel
theorem dX5_passAll_148 : decode cX5_passAll 148 = .ok (.iload_n 1, 1) := by decide +kernel
theorem dX5_passAll_149 : decode cX5_passAll 149 = .ok (.aload_n 0, 1) := by decide +kernel
theorem dX5_passAll_150 : decode cX5_passAll 150 = .ok (.aload_n 0, 1) := by decide +kernel
theorem dX5_passAll_151 : decode cX5_passAll 151 = .ok (.getfield 25, 3) := by decide +kernel
theorem dX5_passAll_154 : decode cX5_passAll 154 = .ok (.iload_n 1, 1) := by decide +kernel
theorem dX5_passAll_155 : decode cX5_passAll 155 = .ok (.iaload, 1) := by decide +kernel
theorem dX5_passAll_156 : decode cX5_passAll 156 = .ok (.invokevirtual 212, 3) := by decide +kernel
theorem dX5_passAll_159 : decode cX5_passAll 159 = .ok (.iastore, 1) := by decide +kernel
theorem dX5_passAll_160 : decode cX5_passAll 160 = .ok (.iinc 1 1, 3) := by decide +kernel
theorem dX5_passAll_163 : decode cX5_passAll 163 = .ok (.goto (-89), 3) := by decide +kernel
theorem dX5_passAll_166 : decode cX5_passAll 166 = .ok (.iconst 0, 1) := by decide +kernel
theorem dX5_passAll_167 : decode cX5_passAll 167 = .ok (.istore_n 1, 1) := by decide +kernel
theorem dX5_passAll_168 : decode cX5_passAll 168 = .ok (.iload_n 1, 1) := by decide +kernel
theorem dX5_passAll_169 : decode cX5_passAll 169 = .ok (.bipush 10, 2) := by decide +kernel
theorem dX5_passAll_171 : decode cX5_passAll 171 = .ok (.if_icmp .ge 25, 3) := by decide +kernel
theorem dX5_passAll_174 : decode cX5_passAll 174 = .ok (.aload_n 0, 1) := by decide +kernel
theorem dX5_passAll_175 : decode cX5_passAll 175 = .ok (.getfield 19, 3) := by decide +kernel
theorem dX5_passAll_178 : decode cX5_passAll 178 = .ok (.iload_n 1, 1) := by decide +kernel
theorem dX5_passAll_179 : decode cX5_passAll 179 = .ok (.aload_n 0, 1) := by decide +kernel
theorem dX5_passAll_180 : decode cX5_passAll 180 = .ok (.aload_n 0, 1) := by decide +kernel
theorem dX5_passAll_181 : decode cX5_passAll 181 = .ok (.getfield 19, 3) := by decide +kernel
theorem dX5_passAll_184 : decode cX5_passAll 184 = .ok (.iload_n 1, 1) := by decide +kernel
theorem dX5_passAll_185 : decode cX5_passAll 185 = .ok (.iaload, 1) := by decide +kernel
theorem dX5_passAll_186 : decode cX5_passAll 186 = .ok (.invokevirtual 212, 3) := by decide +kernel
theorem dX5_passAll_189 : decode cX5_passAll 189 = .ok (.iastore, 1) := by decide +kernel
theorem dX5_passAll_190 : decode cX5_passAll 190 = .ok (.iinc 1 1, 3) := by decide +kernel
theorem dX5_passAll_193 : decode cX5_passAll 193 = .ok (.goto (-25), 3) := by decide +kernel
theorem dX5_passAll_196 : decode cX5_passAll 196 = .ok (.return_, 1) := by decide +kernel
set_option maxRecDepth 20000 in
theorem ggX5_image_X5_in : GoodIn wsX5_image wsX5_in := goodIn_r _ [7] (by decide +kernel) (by decide +kernel)
set_option maxRecDepth 20000 in
theorem gX5_image_X5_in : GoodIn wsX5_image (va_wsS RX5 53 yX5_in wsX5_in) := goodIn_app (goodIn_of _ (by decide +kernel)) ggX5_image_X5_in
set_option maxRecDepth 20000 in
theorem ggX5_image_X5_passAll : GoodIn wsX5_image wsX5_passAll := goodIn_r _ [11, 12, 13, 14, 15, 16, 17, 18, 19, 20, 21, 22, 23, 24, 25, 26, 6, 27, 2, 28, 1, 29, 30, 31, 32, 33, 34, 35, 36, 37, 38, 39, 40, 41, 42, 43, 44, 45, 46, 47, 48, 49, 50, 51, 52] (by decide +kernel) (by decide +kernel)
set_option maxRecDepth 20000 in
theorem gX5_image_X5_passAll : GoodIn wsX5_image (wsV RX5 215 RX5 yX5_passAll wsX5_passAll) := goodIn_app (goodIn_of _ (by decide +kernel)) ggX5_image_X5_passAll
theorem dX5_image_0 : decode cX5_image 0 = .ok (.iload_n 1, 1) := by decide +kernel
theorem dX5_image_1 : decode cX5_image 1 = .ok (.i2l, 1) := by decide +kernel
theorem dX5_image_2 : decode cX5_image 2 = .ok (.lconst 0, 1) := by decide +kernel
theorem dX5_image_3 : decode cX5_image 3 = .ok (.lconst 1, 1) := by decide +kernel
theorem dX5_image_4 : decode cX5_image 4 = .ok (.invokestatic 53, 3) := by decide +kernel
theorem dX5_image_7 : decode cX5_image 7 = .ok (.ifCond .ne 6, 3) := by decide +kernel
theorem dX5_image_10 : decode cX5_image 10 = .ok (.bipush (-2), 2) := by decide +kernel
theorem dX5_image_12 : decode cX5_image 12 = .ok (.ireturn, 1) := by decide +kernel
theorem dX5_image_13 : decode cX5_image 13 = .ok (.aload_n 0, 1) := by decide +kernel
theorem dX5_image_14 : decode cX5_image 14 = .ok (.bipush 80, 2) := by decide +kernel
theorem dX5_image_16 : decode cX5_image 16 = .ok (.iload_n 1, 1) := by decide +kernel
theorem dX5_image_17 : decode cX5_image 17 = .ok (.imul, 1) := by decide +kernel
theorem dX5_image_18 : decode cX5_image 18 = .ok (.putfield 209, 3) := by decide +kernel
theorem dX5_image_21 : decode cX5_image 21 = .ok (.aload_n 0, 1) := by decide +kernel
theorem dX5_image_22 : decode cX5_image 22 = .ok (.iconst 1, 1) := by decide +kernel
theorem dX5_image_23 : decode cX5_image 23 = .ok (.putfield 205, 3) := by decide +kernel
theorem dX5_image_26 : decode cX5_image 26 = .ok (.aload_n 0, 1) := by decide +kernel
theorem dX5_image_27 : decode cX5_image 27 = .ok (.invokevirtual 215, 3) := by decide +kernel
theorem dX5_image_30 : decode cX5_image 30 = .ok (.aload_n 0, 1) := by decide +kernel
theorem dX5_image_31 : decode cX5_image 31 = .ok (.getfield 40, 3) := by decide +kernel
theorem dX5_image_34 : decode cX5_image 34 = .ok (.iload_n 1, 1) := by decide +kernel
theorem dX5_image_35 : decode cX5_image 35 = .ok (.iconst 1, 1) := by decide +kernel
theorem dX5_image_36 : decode cX5_image 36 = .ok (.bastore, 1) := by decide +kernel
theorem dX5_image_37 : decode cX5_image 37 = .ok (.iconst 1, 1) := by decide +kernel
theorem dX5_image_38 : decode cX5_image 38 = .ok (.ireturn, 1) := by decide +kernel
set_option maxRecDepth 20000 in
theorem ggX5_restore_X5_in : GoodIn wsX5_restore wsX5_in := goodIn_r _ [7] (by decide +kernel) (by decide +kernel)
set_option maxRecDepth 20000 in
theorem gX5_restore_X5_in : GoodIn wsX5_restore (va_wsS RX5 53 yX5_in wsX5_in) := goodIn_app (goodIn_of _ (by decide +kernel)) ggX5_restore_X5_in
set_option maxRecDepth 20000 in
theorem ggX5_restore_X5_passAll : GoodIn wsX5_restore wsX5_passAll := goodIn_r _ [11, 12, 13, 14, 15, 16, 17, 18, 19, 20, 21, 22, 23, 24, 25, 26, 6, 27, 3, 28, 2, 29, 30, 31, 32, 33, 34, 35, 36, 37, 38, 39, 40, 41, 42, 43, 44, 45, 46, 47, 48, 49, 50, 51, 52] (by decide +kernel) (by decide +kernel)
set_option maxRecDepth 20000 in
theorem gX5_restore_X5_passAll : GoodIn wsX5_restore (wsV RX5 215 RX5 yX5_passAll wsX5_passAll) := goodIn_app (goodIn_of _ (by decide +kernel)) ggX5_restore_X5_passAll
theorem dX5_restore_0 : decode cX5_restore 0 = .ok (.iload_n 1, 1) := by decide +kernel
theorem dX5_restore_1 : decode cX5_restore 1 = .ok (.i2l, 1) := by decide +kernel
theorem dX5_restore_2 : decode cX5_restore 2 = .ok (.lconst 0, 1) := by decide +kernel
theorem dX5_restore_3 : decode cX5_restore 3 = .ok (.lconst 1, 1) := by decide +kernel
theorem dX5_restore_4 : decode cX5_restore 4 = .ok (.invokestatic 53, 3) := by decide +kernel
theorem dX5_restore_7 : decode cX5_restore 7 = .ok (.ifCond .ne 6, 3) := by decide +kernel
theorem dX5_restore_10 : decode cX5_restore 10 = .ok (.bipush (-2), 2) := by decide +kernel
theorem dX5_restore_12 : decode cX5_restore 12 = .ok (.ireturn, 1) := by decide +kernel
theorem dX5_restore_13 : decode cX5_restore 13 = .ok (.aload_n 0, 1) := by decide +kernel
theorem dX5_restore_14 : decode cX5_restore 14 = .ok (.getfield 40, 3) := by decide +kernel
theorem dX5_restore_17 : decode cX5_restore 17 = .ok (.iload_n 1, 1) := by decide +kernel
theorem dX5_restore_18 : decode cX5_restore 18 = .ok (.baload, 1) := by decide +kernel
theorem dX5_restore_19 : decode cX5_restore 19 = .ok (.ifCond .ne 6, 3) := by decide +kernel
theorem dX5_restore_22 : decode cX5_restore 22 = .ok (.bipush (-3), 2) := by decide +kernel
theorem dX5_restore_24 : decode cX5_restore 24 = .ok (.ireturn, 1) := by decide +kernel
theorem dX5_restore_25 : decode cX5_restore 25 = .ok (.aload_n 0, 1) := by decide +kernel
theorem dX5_restore_26 : decode cX5_restore 26 = .ok (.bipush 80, 2) := by decide +kernel
theorem dX5_restore_28 : decode cX5_restore 28 = .ok (.iload_n 1, 1) := by decide +kernel
theorem dX5_restore_29 : decode cX5_restore 29 = .ok (.imul, 1) := by decide +kernel
theorem dX5_restore_30 : decode cX5_restore 30 = .ok (.putfield 209, 3) := by decide +kernel
theorem dX5_restore_33 : decode cX5_restore 33 = .ok (.aload_n 0, 1) := by decide +kernel
theorem dX5_restore_34 : decode cX5_restore 34 = .ok (.iconst 0, 1) := by decide +kernel
theorem dX5_restore_35 : decode cX5_restore 35 = .ok (.putfield 205, 3) := by decide +kernel
theorem dX5_restore_38 : decode cX5_restore 38 = .ok (.aload_n 0, 1) := by decide +kernel
theorem dX5_restore_39 : decode cX5_restore 39 = .ok (.invokevirtual 215, 3) := by decide +kernel
theorem dX5_restore_42 : decode cX5_restore 42 = .ok (.iconst 1, 1) := by decide +kernel
theorem dX5_restore_43 : decode cX5_restore 43 = .ok (.ireturn, 1) := by decide +kernel
set_option maxRecDepth 20000 in
theorem ggX5_told_X5_in : GoodIn wsX5_told wsX5_in := goodIn_r _ [19] (by decide +kernel) (by decide +kernel)
set_option maxRecDepth 20000 in
theorem gX5_told_X5_in : GoodIn wsX5_told (va_wsS RX5 53 yX5_in wsX5_in) := goodIn_app (goodIn_of _ (by decide +kernel)) ggX5_told_X5_in
set_option maxRecDepth 20000 in
theorem ggX5_told_X5_isThere : GoodIn wsX5_told wsX5_isThere := goodIn_r _ [23, 11, 24, 25, 18, 26, 27, 16, 17, 19, 28, 29, 30, 31, 32, 33, 34, 35, 36, 37, 38, 39, 40, 41, 42, 43, 44, 45, 46, 47, 48, 49, 50, 51] (by decide +kernel) (by decide +kernel)
set_option maxRecDepth 20000 in
theorem gX5_told_X5_isThere : GoodIn wsX5_told (wsV RX5 76 RX5 yX5_isThere wsX5_isThere) := goodIn_app (goodIn_of _ (by decide +kernel)) ggX5_told_X5_isThere
theorem dX5_told_0 : decode cX5_told 0 = .ok (.iload_n 1, 1) := by decide +kernel
theorem dX5_told_1 : decode cX5_told 1 = .ok (.i2l, 1) := by decide +kernel
theorem dX5_told_2 : decode cX5_told 2 = .ok (.ldc2_w 218, 3) := by decide +kernel
theorem dX5_told_5 : decode cX5_told 5 = .ok (.ldc2_w 220, 3) := by decide +kernel
theorem dX5_told_8 : decode cX5_told 8 = .ok (.invokestatic 53, 3) := by decide +kernel
theorem dX5_told_11 : decode cX5_told 11 = .ok (.ifCond .eq 13, 3) := by decide +kernel
theorem dX5_told_14 : decode cX5_told 14 = .ok (.aload_n 0, 1) := by decide +kernel
theorem dX5_told_15 : decode cX5_told 15 = .ok (.getfield 19, 3) := by decide +kernel
theorem dX5_told_18 : decode cX5_told 18 = .ok (.iload_n 1, 1) := by decide +kernel
theorem dX5_told_19 : decode cX5_told 19 = .ok (.bipush 10, 2) := by decide +kernel
theorem dX5_told_21 : decode cX5_told 21 = .ok (.isub, 1) := by decide +kernel
theorem dX5_told_22 : decode cX5_told 22 = .ok (.iaload, 1) := by decide +kernel
theorem dX5_told_23 : decode cX5_told 23 = .ok (.ireturn, 1) := by decide +kernel
theorem dX5_told_24 : decode cX5_told 24 = .ok (.iload_n 1, 1) := by decide +kernel
theorem dX5_told_25 : decode cX5_told 25 = .ok (.i2l, 1) := by decide +kernel
theorem dX5_told_26 : decode cX5_told 26 = .ok (.ldc2_w 222, 3) := by decide +kernel
theorem dX5_told_29 : decode cX5_told 29 = .ok (.ldc2_w 224, 3) := by decide +kernel
theorem dX5_told_32 : decode cX5_told 32 = .ok (.invokestatic 53, 3) := by decide +kernel
theorem dX5_told_35 : decode cX5_told 35 = .ok (.ifCond .eq 95, 3) := by decide +kernel
theorem dX5_told_38 : decode cX5_told 38 = .ok (.iload_n 1, 1) := by decide +kernel
theorem dX5_told_39 : decode cX5_told 39 = .ok (.bipush 10, 2) := by decide +kernel
theorem dX5_told_41 : decode cX5_told 41 = .ok (.idiv, 1) := by decide +kernel
theorem dX5_told_42 : decode cX5_told 42 = .ok (.iconst 2, 1) := by decide +kernel
theorem dX5_told_43 : decode cX5_told 43 = .ok (.isub, 1) := by decide +kernel
theorem dX5_told_44 : decode cX5_told 44 = .ok (.istore_n 2, 1) := by decide +kernel
theorem dX5_told_45 : decode cX5_told 45 = .ok (.iload_n 1, 1) := by decide +kernel
theorem dX5_told_46 : decode cX5_told 46 = .ok (.bipush 10, 2) := by decide +kernel
theorem dX5_told_48 : decode cX5_told 48 = .ok (.irem, 1) := by decide +kernel
theorem dX5_told_49 : decode cX5_told 49 = .ok (.istore_n 3, 1) := by decide +kernel
theorem dX5_told_50 : decode cX5_told 50 = .ok (.aload_n 0, 1) := by decide +kernel
theorem dX5_told_51 : decode cX5_told 51 = .ok (.iload_n 2, 1) := by decide +kernel
theorem dX5_told_52 : decode cX5_told 52 = .ok (.invokevirtual 76, 3) := by decide +kernel
theorem dX5_told_55 : decode cX5_told 55 = .ok (.ifCond .eq 12, 3) := by decide +kernel
theorem dX5_told_58 : decode cX5_told 58 = .ok (.iload_n 3, 1) := by decide +kernel
theorem dX5_told_59 : decode cX5_told 59 = .ok (.iconst 4, 1) := by decide +kernel
theorem dX5_told_60 : decode cX5_told 60 = .ok (.if_icmp .ge 7, 3) := by decide +kernel
theorem dX5_told_63 : decode cX5_told 63 = .ok (.iconst 1, 1) := by decide +kernel
theorem dX5_told_64 : decode cX5_told 64 = .ok (.goto 4, 3) := by decide +kernel
theorem dX5_told_67 : decode cX5_told 67 = .ok (.iconst 0, 1) := by decide +kernel
theorem dX5_told_68 : decode cX5_told 68 = .ok (.istore 4, 2) := by decide +kernel
theorem dX5_told_70 : decode cX5_told 70 = .ok (.iload 4, 2) := by decide +kernel
theorem dX5_told_72 : decode cX5_told 72 = .ok (.ifCond .ne 8, 3) := by decide +kernel
theorem dX5_told_75 : decode cX5_told 75 = .ok (.bipush (-2), 2) := by decide +kernel
theorem dX5_told_77 : decode cX5_told 77 = .ok (.goto 52, 3) := by decide +kernel
theorem dX5_told_80 : decode cX5_told 80 = .ok (.iload_n 3, 1) := by decide +kernel
theorem dX5_told_81 : decode cX5_told 81 = .ok (.ifCond .ne 12, 3) := by decide +kernel
theorem dX5_told_84 : decode cX5_told 84 = .ok (.aload_n 0, 1) := by decide +kernel
theorem dX5_told_85 : decode cX5_told 85 = .ok (.getfield 7, 3) := by decide +kernel
theorem dX5_told_88 : decode cX5_told 88 = .ok (.iload_n 2, 1) := by decide +kernel
theorem dX5_told_89 : decode cX5_told 89 = .ok (.iaload, 1) := by decide +kernel
theorem dX5_told_90 : decode cX5_told 90 = .ok (.goto 39, 3) := by decide +kernel
theorem dX5_told_93 : decode cX5_told 93 = .ok (.iload_n 3, 1) := by decide +kernel
theorem dX5_told_94 : decode cX5_told 94 = .ok (.iconst 1, 1) := by decide +kernel
theorem dX5_told_95 : decode cX5_told 95 = .ok (.if_icmp .ne 12, 3) := by decide +kernel
theorem dX5_told_98 : decode cX5_told 98 = .ok (.aload_n 0, 1) := by decide +kernel
theorem dX5_told_99 : decode cX5_told 99 = .ok (.getfield 13, 3) := by decide +kernel
theorem dX5_told_102 : decode cX5_told 102 = .ok (.iload_n 2, 1) := by decide +kernel
theorem dX5_told_103 : decode cX5_told 103 = .ok (.iaload, 1) := by decide +kernel
theorem dX5_told_104 : decode cX5_told 104 = .ok (.goto 25, 3) := by decide +kernel
theorem dX5_told_107 : decode cX5_told 107 = .ok (.iload_n 3, 1) := by decide +kernel
theorem dX5_told_108 : decode cX5_told 108 = .ok (.iconst 2, 1) := by decide +kernel
theorem dX5_told_109 : decode cX5_told 109 = .ok (.if_icmp .ne 12, 3) := by decide +kernel
theorem dX5_told_112 : decode cX5_told 112 = .ok (.aload_n 0, 1) := by decide +kernel
theorem dX5_told_113 : decode cX5_told 113 = .ok (.getfield 16, 3) := by decide +kernel
theorem dX5_told_116 : decode cX5_told 116 = .ok (.iload_n 2, 1) := by decide +kernel
theorem dX5_told_117 : decode cX5_told 117 = .ok (.iaload, 1) := by decide +kernel
theorem dX5_told_118 : decode cX5_told 118 = .ok (.goto 11, 3) := by decide +kernel
theorem dX5_told_121 : decode cX5_told 121 = .ok (.aload_n 0, 1) := by decide +kernel
theorem dX5_told_122 : decode cX5_told 122 = .ok (.getfield 69, 3) := by decide +kernel
theorem dX5_told_125 : decode cX5_told 125 = .ok (.iload_n 2, 1) := by decide +kernel
theorem dX5_told_126 : decode cX5_told 126 = .ok (.ishr, 1) := by decide +kernel
theorem dX5_told_127 : decode cX5_told 127 = .ok (.iconst 1, 1) := by decide +kernel
theorem dX5_told_128 : decode cX5_told 128 = .ok (.iand, 1) := by decide +kernel
theorem dX5_told_129 : decode cX5_told 129 = .ok (.ireturn, 1) := by decide +kernel
theorem dX5_told_130 : decode cX5_told 130 = .ok (.iload_n 1, 1) := by decide +kernel
theorem dX5_told_131 : decode cX5_told 131 = .ok (.tableswitch 67 0 5 #[37, 42, 47, 52, 57, 62], 37) := by decide +kernel
theorem dX5_told_168 : decode cX5_told 168 = .ok (.aload_n 0, 1) := by decide +kernel
theorem dX5_told_169 : decode cX5_told 169 = .ok (.getfield 86, 3) := by decide +kernel
theorem dX5_told_172 : decode cX5_told 172 = .ok (.ireturn, 1) := by decide +kernel
theorem dX5_told_173 : decode cX5_told 173 = .ok (.aload_n 0, 1) := by decide +kernel
theorem dX5_told_174 : decode cX5_told 174 = .ok (.getfield 63, 3) := by decide +kernel
theorem dX5_told_177 : decode cX5_told 177 = .ok (.ireturn, 1) := by decide +kernel
theorem dX5_told_178 : decode cX5_told 178 = .ok (.aload_n 0, 1) := by decide +kernel
theorem dX5_told_179 : decode cX5_told 179 = .ok (.getfield 44, 3) := by decide +kernel
theorem dX5_told_182 : decode cX5_told 182 = .ok (.ireturn, 1) := by decide +kernel
theorem dX5_told_183 : decode cX5_told 183 = .ok (.aload_n 0, 1) := by decide +kernel
theorem dX5_told_184 : decode cX5_told 184 = .ok (.getfield 48, 3) := by decide +kernel
theorem dX5_told_187 : decode cX5_told 187 = .ok (.ireturn, 1) := by decide +kernel
theorem dX5_told_188 : decode cX5_told 188 = .ok (.aload_n 0, 1) := by decide +kernel
theorem dX5_told_189 : decode cX5_told 189 = .ok (.getfield 79, 3) := by decide +kernel
theorem dX5_told_192 : decode cX5_told 192 = .ok (.ireturn, 1) := by decide +kernel
theorem dX5_told_193 : decode cX5_told 193 = .ok (.aload_n 0, 1) := by decide +kernel
theorem dX5_told_194 : decode cX5_told 194 = .ok (.getfield 189, 3) := by decide +kernel
theorem dX5_told_197 : decode cX5_told 197 = .ok (.ireturn, 1) := by decide +kernel
theorem dX5_told_198 : decode cX5_told 198 = .ok (.bipush (-2), 2) := by decide +kernel
theorem dX5_told_200 : decode cX5_told 200 = .ok (.ireturn, 1) := by decide +kernel
theorem dJ6_bitCount_0f7a4_0 : decode cJ6_bitCount_0f7a4 0 = .ok (.iload_n 0, 1) := by decide +kernel
theorem dJ6_bitCount_0f7a4_1 : decode cJ6_bitCount_0f7a4 1 = .ok (.iload_n 0, 1) := by decide +kernel
theorem dJ6_bitCount_0f7a4_2 : decode cJ6_bitCount_0f7a4 2 = .ok (.iconst 1, 1) := by decide +kernel
theorem dJ6_bitCount_0f7a4_3 : decode cJ6_bitCount_0f7a4 3 = .ok (.iushr, 1) := by decide +kernel
theorem dJ6_bitCount_0f7a4_4 : decode cJ6_bitCount_0f7a4 4 = .ok (.ldc_w 265, 3) := by decide +kernel
theorem dJ6_bitCount_0f7a4_7 : decode cJ6_bitCount_0f7a4 7 = .ok (.iand, 1) := by decide +kernel
theorem dJ6_bitCount_0f7a4_8 : decode cJ6_bitCount_0f7a4 8 = .ok (.isub, 1) := by decide +kernel
theorem dJ6_bitCount_0f7a4_9 : decode cJ6_bitCount_0f7a4 9 = .ok (.istore_n 0, 1) := by decide +kernel
theorem dJ6_bitCount_0f7a4_10 : decode cJ6_bitCount_0f7a4 10 = .ok (.iload_n 0, 1) := by decide +kernel
theorem dJ6_bitCount_0f7a4_11 : decode cJ6_bitCount_0f7a4 11 = .ok (.ldc_w 266, 3) := by decide +kernel
theorem dJ6_bitCount_0f7a4_14 : decode cJ6_bitCount_0f7a4 14 = .ok (.iand, 1) := by decide +kernel
theorem dJ6_bitCount_0f7a4_15 : decode cJ6_bitCount_0f7a4 15 = .ok (.iload_n 0, 1) := by decide +kernel
theorem dJ6_bitCount_0f7a4_16 : decode cJ6_bitCount_0f7a4 16 = .ok (.iconst 2, 1) := by decide +kernel
theorem dJ6_bitCount_0f7a4_17 : decode cJ6_bitCount_0f7a4 17 = .ok (.iushr, 1) := by decide +kernel
theorem dJ6_bitCount_0f7a4_18 : decode cJ6_bitCount_0f7a4 18 = .ok (.ldc_w 266, 3) := by decide +kernel
theorem dJ6_bitCount_0f7a4_21 : decode cJ6_bitCount_0f7a4 21 = .ok (.iand, 1) := by decide +kernel
theorem dJ6_bitCount_0f7a4_22 : decode cJ6_bitCount_0f7a4 22 = .ok (.iadd, 1) := by decide +kernel
theorem dJ6_bitCount_0f7a4_23 : decode cJ6_bitCount_0f7a4 23 = .ok (.istore_n 0, 1) := by decide +kernel
theorem dJ6_bitCount_0f7a4_24 : decode cJ6_bitCount_0f7a4 24 = .ok (.iload_n 0, 1) := by decide +kernel
theorem dJ6_bitCount_0f7a4_25 : decode cJ6_bitCount_0f7a4 25 = .ok (.iload_n 0, 1) := by decide +kernel
theorem dJ6_bitCount_0f7a4_26 : decode cJ6_bitCount_0f7a4 26 = .ok (.iconst 4, 1) := by decide +kernel
theorem dJ6_bitCount_0f7a4_27 : decode cJ6_bitCount_0f7a4 27 = .ok (.iushr, 1) := by decide +kernel
theorem dJ6_bitCount_0f7a4_28 : decode cJ6_bitCount_0f7a4 28 = .ok (.iadd, 1) := by decide +kernel
theorem dJ6_bitCount_0f7a4_29 : decode cJ6_bitCount_0f7a4 29 = .ok (.ldc_w 267, 3) := by decide +kernel
theorem dJ6_bitCount_0f7a4_32 : decode cJ6_bitCount_0f7a4 32 = .ok (.iand, 1) := by decide +kernel
theorem dJ6_bitCount_0f7a4_33 : decode cJ6_bitCount_0f7a4 33 = .ok (.istore_n 0, 1) := by decide +kernel
theorem dJ6_bitCount_0f7a4_34 : decode cJ6_bitCount_0f7a4 34 = .ok (.iload_n 0, 1) := by decide +kernel
theorem dJ6_bitCount_0f7a4_35 : decode cJ6_bitCount_0f7a4 35 = .ok (.iload_n 0, 1) := by decide +kernel
theorem dJ6_bitCount_0f7a4_36 : decode cJ6_bitCount_0f7a4 36 = .ok (.bipush 8, 2) := by decide +kernel
theorem dJ6_bitCount_0f7a4_38 : decode cJ6_bitCount_0f7a4 38 = .ok (.iushr, 1) := by decide +kernel
theorem dJ6_bitCount_0f7a4_39 : decode cJ6_bitCount_0f7a4 39 = .ok (.iadd, 1) := by decide +kernel
theorem dJ6_bitCount_0f7a4_40 : decode cJ6_bitCount_0f7a4 40 = .ok (.istore_n 0, 1) := by decide +kernel
theorem dJ6_bitCount_0f7a4_41 : decode cJ6_bitCount_0f7a4 41 = .ok (.iload_n 0, 1) := by decide +kernel
theorem dJ6_bitCount_0f7a4_42 : decode cJ6_bitCount_0f7a4 42 = .ok (.iload_n 0, 1) := by decide +kernel
theorem dJ6_bitCount_0f7a4_43 : decode cJ6_bitCount_0f7a4 43 = .ok (.bipush 16, 2) := by decide +kernel
theorem dJ6_bitCount_0f7a4_45 : decode cJ6_bitCount_0f7a4 45 = .ok (.iushr, 1) := by decide +kernel
theorem dJ6_bitCount_0f7a4_46 : decode cJ6_bitCount_0f7a4 46 = .ok (.iadd, 1) := by decide +kernel
theorem dJ6_bitCount_0f7a4_47 : decode cJ6_bitCount_0f7a4 47 = .ok (.istore_n 0, 1) := by decide +kernel
theorem dJ6_bitCount_0f7a4_48 : decode cJ6_bitCount_0f7a4 48 = .ok (.iload_n 0, 1) := by decide +kernel
theorem dJ6_bitCount_0f7a4_49 : decode cJ6_bitCount_0f7a4 49 = .ok (.bipush 63, 2) := by decide +kernel
theorem dJ6_bitCount_0f7a4_51 : decode cJ6_bitCount_0f7a4 51 = .ok (.iand, 1) := by decide +kernel
theorem dJ6_bitCount_0f7a4_52 : decode cJ6_bitCount_0f7a4 52 = .ok (.ireturn, 1) := by decide +kernel
theorem dJ9_abs_0f7a4_0 : decode cJ9_abs_0f7a4 0 = .ok (.iload_n 0, 1) := by decide +kernel
theorem dJ9_abs_0f7a4_1 : decode cJ9_abs_0f7a4 1 = .ok (.ifCond .ge 8, 3) := by decide +kernel
theorem dJ9_abs_0f7a4_4 : decode cJ9_abs_0f7a4 4 = .ok (.iload_n 0, 1) := by decide +kernel
theorem dJ9_abs_0f7a4_5 : decode cJ9_abs_0f7a4 5 = .ok (.ineg, 1) := by decide +kernel
theorem dJ9_abs_0f7a4_6 : decode cJ9_abs_0f7a4 6 = .ok (.goto 4, 3) := by decide +kernel
theorem dJ9_abs_0f7a4_9 : decode cJ9_abs_0f7a4 9 = .ok (.iload_n 0, 1) := by decide +kernel
theorem dJ9_abs_0f7a4_10 : decode cJ9_abs_0f7a4 10 = .ok (.ireturn, 1) := by decide +kernel
theorem dJ9_max_7cf53_0 : decode cJ9_max_7cf53 0 = .ok (.iload_n 0, 1) := by decide +kernel
theorem dJ9_max_7cf53_1 : decode cJ9_max_7cf53 1 = .ok (.iload_n 1, 1) := by decide +kernel
theorem dJ9_max_7cf53_2 : decode cJ9_max_7cf53 2 = .ok (.if_icmp .lt 7, 3) := by decide +kernel
theorem dJ9_max_7cf53_5 : decode cJ9_max_7cf53 5 = .ok (.iload_n 0, 1) := by decide +kernel
theorem dJ9_max_7cf53_6 : decode cJ9_max_7cf53 6 = .ok (.goto 4, 3) := by decide +kernel
theorem dJ9_max_7cf53_9 : decode cJ9_max_7cf53 9 = .ok (.iload_n 1, 1) := by decide +kernel
theorem dJ9_max_7cf53_10 : decode cJ9_max_7cf53 10 = .ok (.ireturn, 1) := by decide +kernel
theorem dJ9_min_7cf53_0 : decode cJ9_min_7cf53 0 = .ok (.iload_n 0, 1) := by decide +kernel
theorem dJ9_min_7cf53_1 : decode cJ9_min_7cf53 1 = .ok (.iload_n 1, 1) := by decide +kernel
theorem dJ9_min_7cf53_2 : decode cJ9_min_7cf53 2 = .ok (.if_icmp .gt 7, 3) := by decide +kernel
theorem dJ9_min_7cf53_5 : decode cJ9_min_7cf53 5 = .ok (.iload_n 0, 1) := by decide +kernel
theorem dJ9_min_7cf53_6 : decode cJ9_min_7cf53 6 = .ok (.goto 4, 3) := by decide +kernel
theorem dJ9_min_7cf53_9 : decode cJ9_min_7cf53 9 = .ok (.iload_n 1, 1) := by decide +kernel
theorem dJ9_min_7cf53_10 : decode cJ9_min_7cf53 10 = .ok (.ireturn, 1) := by decide +kernel
theorem dJ7_fill_53178_0 : decode cJ7_fill_53178 0 = .ok (.iconst 0, 1) := by decide +kernel
theorem dJ7_fill_53178_1 : decode cJ7_fill_53178 1 = .ok (.istore_n 2, 1) := by decide +kernel
theorem dJ7_fill_53178_2 : decode cJ7_fill_53178 2 = .ok (.aload_n 0, 1) := by decide +kernel
theorem dJ7_fill_53178_3 : decode cJ7_fill_53178 3 = .ok (.arraylength, 1) := by decide +kernel
theorem dJ7_fill_53178_4 : decode cJ7_fill_53178 4 = .ok (.istore_n 3, 1) := by decide +kernel
theorem dJ7_fill_53178_5 : decode cJ7_fill_53178 5 = .ok (.iload_n 2, 1) := by decide +kernel
theorem dJ7_fill_53178_6 : decode cJ7_fill_53178 6 = .ok (.iload_n 3, 1) := by decide +kernel
theorem dJ7_fill_53178_7 : decode cJ7_fill_53178 7 = .ok (.if_icmp .ge 13, 3) := by decide +kernel
theorem dJ7_fill_53178_10 : decode cJ7_fill_53178 10 = .ok (.aload_n 0, 1) := by decide +kernel
theorem dJ7_fill_53178_11 : decode cJ7_fill_53178 11 = .ok (.iload_n 2, 1) := by decide +kernel
theorem dJ7_fill_53178_12 : decode cJ7_fill_53178 12 = .ok (.iload_n 1, 1) := by decide +kernel
theorem dJ7_fill_53178_13 : decode cJ7_fill_53178 13 = .ok (.iastore, 1) := by decide +kernel
theorem dJ7_fill_53178_14 : decode cJ7_fill_53178 14 = .ok (.iinc 2 1, 3) := by decide +kernel
theorem dJ7_fill_53178_17 : decode cJ7_fill_53178 17 = .ok (.goto (-12), 3) := by decide +kernel
theorem dJ7_fill_53178_20 : decode cJ7_fill_53178 20 = .ok (.return_, 1) := by decide +kernel
