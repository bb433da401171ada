theorem dX5_holds_19 : decode cX5_holds 19 = .ok (.iconst 1, 1) := by decide +kernel
theorem dX5_holds_20 : decode cX5_holds 20 = .ok (.goto 40, 3) := by decide +kernel
theorem dX5_holds_23 : decode cX5_holds 23 = .ok (.iconst 0, 1) := by decide +kernel
theorem dX5_holds_24 : decode cX5_holds 24 = .ok (.goto 36, 3) := by decide +kernel
theorem dX5_holds_27 : decode cX5_holds 27 = .ok (.iload_n 2, 1) := by decide +kernel
theorem dX5_holds_28 : decode cX5_holds 28 = .ok (.aload_n 0, 1) := by decide +kernel
theorem dX5_holds_29 : decode cX5_holds 29 = .ok (.getfield 25, 3) := by decide +kernel
theorem dX5_holds_32 : decode cX5_holds 32 = .ok (.iload_n 1, 1) := by decide +kernel
theorem dX5_holds_33 : decode cX5_holds 33 = .ok (.iaload, 1) := by decide +kernel
theorem dX5_holds_34 : decode cX5_holds 34 = .ok (.ishr, 1) := by decide +kernel
theorem dX5_holds_35 : decode cX5_holds 35 = .ok (.iconst 1, 1) := by decide +kernel
theorem dX5_holds_36 : decode cX5_holds 36 = .ok (.iand, 1) := by decide +kernel
theorem dX5_holds_37 : decode cX5_holds 37 = .ok (.aload_n 0, 1) := by decide +kernel
theorem dX5_holds_38 : decode cX5_holds 38 = .ok (.getfield 22, 3) := by decide +kernel
theorem dX5_holds_41 : decode cX5_holds 41 = .ok (.iload_n 1, 1) := by decide +kernel
theorem dX5_holds_42 : decode cX5_holds 42 = .ok (.iaload, 1) := by decide +kernel
theorem dX5_holds_43 : decode cX5_holds 43 = .ok (.iconst 1, 1) := by decide +kernel
theorem dX5_holds_44 : decode cX5_holds 44 = .ok (.if_icmp .ne 7, 3) := by decide +kernel
theorem dX5_holds_47 : decode cX5_holds 47 = .ok (.iconst 1, 1) := by decide +kernel
theorem dX5_holds_48 : decode cX5_holds 48 = .ok (.goto 4, 3) := by decide +kernel
theorem dX5_holds_51 : decode cX5_holds 51 = .ok (.iconst 0, 1) := by decide +kernel
theorem dX5_holds_52 : decode cX5_holds 52 = .ok (.if_icmp .ne 7, 3) := by decide +kernel
theorem dX5_holds_55 : decode cX5_holds 55 = .ok (.iconst 1, 1) := by decide +kernel
theorem dX5_holds_56 : decode cX5_holds 56 = .ok (.goto 4, 3) := by decide +kernel
theorem dX5_holds_59 : decode cX5_holds 59 = .ok (.iconst 0, 1) := by decide +kernel
theorem dX5_holds_60 : decode cX5_holds 60 = .ok (.ireturn, 1) := by decide +kernel
set_option maxRecDepth 20000 in
theorem ggX5_fits_X5_rulersBy : GoodIn wsX5_fits wsX5_rulersBy := goodIn_r _ [6, 7, 8, 9, 5, 10, 11, 12, 13, 14, 15, 16, 17, 18, 19, 20, 21, 22, 23, 24, 25, 26, 27, 28, 29, 30, 31, 32, 39, 40, 41, 42, 43, 44, 45, 46, 47, 48, 49, 50, 51, 52, 53, 54, 55, 56, 57, 58, 59, 60, 61, 62] (by decide +kernel) (by decide +kernel)
set_option maxRecDepth 20000 in
theorem gX5_fits_X5_rulersBy : GoodIn wsX5_fits (wsV RX5 111 RX5 yX5_rulersBy wsX5_rulersBy) := goodIn_app (goodIn_of _ (by decide +kernel)) ggX5_fits_X5_rulersBy
set_option maxRecDepth 20000 in
theorem ggX5_fits_X5_holds : GoodIn wsX5_fits wsX5_holds := goodIn_r _ [36, 37, 38, 39, 40, 41, 42, 43, 44, 45, 46, 47, 48, 49, 50, 51, 52, 53, 54, 55, 56, 57, 58, 59, 60, 61, 62] (by decide +kernel) (by decide +kernel)
set_option maxRecDepth 20000 in
theorem gX5_fits_X5_holds : GoodIn wsX5_fits (wsV RX5 192 RX5 yX5_holds wsX5_holds) := goodIn_app (goodIn_of _ (by decide +kernel)) ggX5_fits_X5_holds
theorem dX5_fits_0 : decode cX5_fits 0 = .ok (.iconst 0, 1) := by decide +kernel
theorem dX5_fits_1 : decode cX5_fits 1 = .ok (.istore_n 1, 1) := by decide +kernel
theorem dX5_fits_2 : decode cX5_fits 2 = .ok (.iconst 0, 1) := by decide +kernel
theorem dX5_fits_3 : decode cX5_fits 3 = .ok (.istore_n 2, 1) := by decide +kernel
theorem dX5_fits_4 : decode cX5_fits 4 = .ok (.iload_n 2, 1) := by decide +kernel
theorem dX5_fits_5 : decode cX5_fits 5 = .ok (.bipush 10, 2) := by decide +kernel
theorem dX5_fits_7 : decode cX5_fits 7 = .ok (.if_icmp .ge 73, 3) := by decide +kernel
theorem dX5_fits_10 : decode cX5_fits 10 = .ok (.aload_n 0, 1) := by decide +kernel
theorem dX5_fits_11 : decode cX5_fits 11 = .ok (.iload_n 2, 1) := by decide +kernel
theorem dX5_fits_12 : decode cX5_fits 12 = .ok (.invokevirtual 111, 3) := by decide +kernel
theorem dX5_fits_15 : decode cX5_fits 15 = .ok (.istore_n 3, 1) := by decide +kernel
theorem dX5_fits_16 : decode cX5_fits 16 = .ok (.iconst 1, 1) := by decide +kernel
theorem dX5_fits_17 : decode cX5_fits 17 = .ok (.istore 4, 2) := by decide +kernel
theorem dX5_fits_19 : decode cX5_fits 19 = .ok (.iconst 0, 1) := by decide +kernel
theorem dX5_fits_20 : decode cX5_fits 20 = .ok (.istore 5, 2) := by decide +kernel
theorem dX5_fits_22 : decode cX5_fits 22 = .ok (.iload 5, 2) := by decide +kernel
theorem dX5_fits_24 : decode cX5_fits 24 = .ok (.aload_n 0, 1) := by decide +kernel
theorem dX5_fits_25 : decode cX5_fits 25 = .ok (.getfield 189, 3) := by decide +kernel
theorem dX5_fits_28 : decode cX5_fits 28 = .ok (.if_icmp .ge 31, 3) := by decide +kernel
theorem dX5_fits_31 : decode cX5_fits 31 = .ok (.iload 4, 2) := by decide +kernel
theorem dX5_fits_33 : decode cX5_fits 33 = .ok (.ifCond .eq 17, 3) := by decide +kernel
theorem dX5_fits_36 : decode cX5_fits 36 = .ok (.aload_n 0, 1) := by decide +kernel
theorem dX5_fits_37 : decode cX5_fits 37 = .ok (.iload 5, 2) := by decide +kernel
theorem dX5_fits_39 : decode cX5_fits 39 = .ok (.iload_n 3, 1) := by decide +kernel
theorem dX5_fits_40 : decode cX5_fits 40 = .ok (.invokevirtual 192, 3) := by decide +kernel
theorem dX5_fits_43 : decode cX5_fits 43 = .ok (.ifCond .eq 7, 3) := by decide +kernel
theorem dX5_fits_46 : decode cX5_fits 46 = .ok (.iconst 1, 1) := by decide +kernel
theorem dX5_fits_47 : decode cX5_fits 47 = .ok (.goto 4, 3) := by decide +kernel
theorem dX5_fits_50 : decode cX5_fits 50 = .ok (.iconst 0, 1) := by decide +kernel
theorem dX5_fits_51 : decode cX5_fits 51 = .ok (.istore 4, 2) := by decide +kernel
theorem dX5_fits_53 : decode cX5_fits 53 = .ok (.iinc 5 1, 3) := by decide +kernel
theorem dX5_fits_56 : decode cX5_fits 56 = .ok (.goto (-34), 3) := by decide +kernel
theorem dX5_fits_59 : decode cX5_fits 59 = .ok (.iload_n 1, 1) := by decide +kernel
theorem dX5_fits_60 : decode cX5_fits 60 = .ok (.iload 4, 2) := by decide +kernel
theorem dX5_fits_62 : decode cX5_fits 62 = .ok (.ifCond .eq 9, 3) := by decide +kernel
theorem dX5_fits_65 : decode cX5_fits 65 = .ok (.iconst 1, 1) := by decide +kernel
theorem dX5_fits_66 : decode cX5_fits 66 = .ok (.iload_n 2, 1) := by decide +kernel
theorem dX5_fits_67 : decode cX5_fits 67 = .ok (.ishl, 1) := by decide +kernel
theorem dX5_fits_68 : decode cX5_fits 68 = .ok (.goto 4, 3) := by decide +kernel
theorem dX5_fits_71 : decode cX5_fits 71 = .ok (.iconst 0, 1) := by decide +kernel
theorem dX5_fits_72 : decode cX5_fits 72 = .ok (.ior, 1) := by decide +kernel
theorem dX5_fits_73 : decode cX5_fits 73 = .ok (.istore_n 1, 1) := by decide +kernel
theorem dX5_fits_74 : decode cX5_fits 74 = .ok (.iinc 2 1, 3) := by decide +kernel
theorem dX5_fits_77 : decode cX5_fits 77 = .ok (.goto (-73), 3) := by decide +kernel
theorem dX5_fits_80 : decode cX5_fits 80 = .ok (.iload_n 1, 1) := by decide +kernel
theorem dX5_fits_81 : decode cX5_fits 81 = .ok (.ireturn, 1) := by decide +kernel
set_option maxRecDepth 20000 in
theorem ggX5_year_X5_in : GoodIn wsX5_year wsX5_in := goodIn_r _ [12] (by decide +kernel) (by decide +kernel)
set_option maxRecDepth 20000 in
theorem gX5_year_X5_in : GoodIn wsX5_year (va_wsS RX5 53 yX5_in wsX5_in) := goodIn_app (goodIn_of _ (by decide +kernel)) ggX5_year_X5_in
set_option maxRecDepth 20000 in
theorem ggX5_year_X5_rulersBy : GoodIn wsX5_year wsX5_rulersBy := goodIn_r _ [16, 17, 18, 19, 11, 20, 21, 22, 23, 24, 25, 26, 27, 28, 29, 30, 31, 32, 33, 34, 35, 36, 37, 38, 39, 9, 10, 12, 44, 45, 46, 47, 48, 49, 50, 51, 52, 53, 54, 55, 56, 57, 58, 59, 60, 61, 62, 63, 64, 65, 66, 67] (by decide +kernel) (by decide +kernel)
set_option maxRecDepth 20000 in
theorem gX5_year_X5_rulersBy : GoodIn wsX5_year (wsV RX5 111 RX5 yX5_rulersBy wsX5_rulersBy) := goodIn_app (goodIn_of _ (by decide +kernel)) ggX5_year_X5_rulersBy
set_option maxRecDepth 20000 in
theorem ggX5_year_X5_rule : GoodIn wsX5_year wsX5_rule := goodIn_r _ [43, 4, 5, 44, 45, 46, 47, 48, 49, 50, 51, 52, 53, 54, 55, 56, 57, 58, 59, 60, 61, 62, 63, 64, 65, 66, 67] (by decide +kernel) (by decide +kernel)
set_option maxRecDepth 20000 in
theorem gX5_year_X5_rule : GoodIn wsX5_year (wsV RX5 124 RX5 yX5_rule wsX5_rule) := goodIn_app (goodIn_of _ (by decide +kernel)) ggX5_year_X5_rule
theorem dX5_year_0 : decode cX5_year 0 = .ok (.iload_n 1, 1) := by decide +kernel
theorem dX5_year_1 : decode cX5_year 1 = .ok (.i2l, 1) := by decide +kernel
theorem dX5_year_2 : decode cX5_year 2 = .ok (.lconst 0, 1) := by decide +kernel
theorem dX5_year_3 : decode cX5_year 3 = .ok (.ldc2_w 195, 3) := by decide +kernel
theorem dX5_year_6 : decode cX5_year 6 = .ok (.invokestatic 53, 3) := by decide +kernel
theorem dX5_year_9 : decode cX5_year 9 = .ok (.ifCond .eq 27, 3) := by decide +kernel
theorem dX5_year_12 : decode cX5_year 12 = .ok (.iload_n 2, 1) := by decide +kernel
theorem dX5_year_13 : decode cX5_year 13 = .ok (.i2l, 1) := by decide +kernel
theorem dX5_year_14 : decode cX5_year 14 = .ok (.lconst 1, 1) := by decide +kernel
theorem dX5_year_15 : decode cX5_year 15 = .ok (.ldc2_w 197, 3) := by decide +kernel
theorem dX5_year_18 : decode cX5_year 18 = .ok (.invokestatic 53, 3) := by decide +kernel
theorem dX5_year_21 : decode cX5_year 21 = .ok (.ifCond .eq 15, 3) := by decide +kernel
theorem dX5_year_24 : decode cX5_year 24 = .ok (.iload_n 3, 1) := by decide +kernel
theorem dX5_year_25 : decode cX5_year 25 = .ok (.i2l, 1) := by decide +kernel
theorem dX5_year_26 : decode cX5_year 26 = .ok (.lconst 0, 1) := by decide +kernel
theorem dX5_year_27 : decode cX5_year 27 = .ok (.ldc2_w 148, 3) := by decide +kernel
theorem dX5_year_30 : decode cX5_year 30 = .ok (.invokestatic 53, 3) := by decide +kernel
theorem dX5_year_33 : decode cX5_year 33 = .ok (.ifCond .ne 6, 3) := by decide +kernel
theorem dX5_year_36 : decode cX5_year 36 = .ok (.bipush (-2), 2) := by decide +kernel
theorem dX5_year_38 : decode cX5_year 38 = .ok (.ireturn, 1) := by decide +kernel
theorem dX5_year_39 : decode cX5_year 39 = .ok (.iload_n 1, 1) := by decide +kernel
theorem dX5_year_40 : decode cX5_year 40 = .ok (.istore 4, 2) := by decide +kernel
theorem dX5_year_42 : decode cX5_year 42 = .ok (.iconst 0, 1) := by decide +kernel
theorem dX5_year_43 : decode cX5_year 43 = .ok (.istore 5, 2) := by decide +kernel
theorem dX5_year_45 : decode cX5_year 45 = .ok (.aload_n 0, 1) := by decide +kernel
theorem dX5_year_46 : decode cX5_year 46 = .ok (.iconst 0, 1) := by decide +kernel
theorem dX5_year_47 : decode cX5_year 47 = .ok (.putfield 114, 3) := by decide +kernel
theorem dX5_year_50 : decode cX5_year 50 = .ok (.aload_n 0, 1) := by decide +kernel
theorem dX5_year_51 : decode cX5_year 51 = .ok (.iconst 0, 1) := by decide +kernel
theorem dX5_year_52 : decode cX5_year 52 = .ok (.putfield 117, 3) := by decide +kernel
theorem dX5_year_55 : decode cX5_year 55 = .ok (.iconst 0, 1) := by decide +kernel
theorem dX5_year_56 : decode cX5_year 56 = .ok (.istore 6, 2) := by decide +kernel
theorem dX5_year_58 : decode cX5_year 58 = .ok (.iload 6, 2) := by decide +kernel
theorem dX5_year_60 : decode cX5_year 60 = .ok (.iload_n 2, 1) := by decide +kernel
theorem dX5_year_61 : decode cX5_year 61 = .ok (.if_icmp .ge 90, 3) := by decide +kernel
theorem dX5_year_64 : decode cX5_year 64 = .ok (.ldc2_w 199, 3) := by decide +kernel
theorem dX5_year_67 : decode cX5_year 67 = .ok (.iload 4, 2) := by decide +kernel
theorem dX5_year_69 : decode cX5_year 69 = .ok (.i2l, 1) := by decide +kernel
theorem dX5_year_70 : decode cX5_year 70 = .ok (.lmul, 1) := by decide +kernel
theorem dX5_year_71 : decode cX5_year 71 = .ok (.ldc2_w 201, 3) := by decide +kernel
theorem dX5_year_74 : decode cX5_year 74 = .ok (.ladd, 1) := by decide +kernel
theorem dX5_year_75 : decode cX5_year 75 = .ok (.ldc2_w 203, 3) := by decide +kernel
theorem dX5_year_78 : decode cX5_year 78 = .ok (.lrem, 1) := by decide +kernel
theorem dX5_year_79 : decode cX5_year 79 = .ok (.l2i, 1) := by decide +kernel
theorem dX5_year_80 : decode cX5_year 80 = .ok (.istore 4, 2) := by decide +kernel
theorem dX5_year_82 : decode cX5_year 82 = .ok (.aload_n 0, 1) := by decide +kernel
theorem dX5_year_83 : decode cX5_year 83 = .ok (.iload 4, 2) := by decide +kernel
theorem dX5_year_85 : decode cX5_year 85 = .ok (.bipush 10, 2) := by decide +kernel
theorem dX5_year_87 : decode cX5_year 87 = .ok (.irem, 1) := by decide +kernel
theorem dX5_year_88 : decode cX5_year 88 = .ok (.invokevirtual 111, 3) := by decide +kernel
theorem dX5_year_91 : decode cX5_year 91 = .ok (.istore 7, 2) := by decide +kernel
theorem dX5_year_93 : decode cX5_year 93 = .ok (.aload_n 0, 1) := by decide +kernel
theorem dX5_year_94 : decode cX5_year 94 = .ok (.iload 7, 2) := by decide +kernel
theorem dX5_year_96 : decode cX5_year 96 = .ok (.ifCond .ne 10, 3) := by decide +kernel
theorem dX5_year_99 : decode cX5_year 99 = .ok (.aload_n 0, 1) := by decide +kernel
theorem dX5_year_100 : decode cX5_year 100 = .ok (.getfield 117, 3) := by decide +kernel
theorem dX5_year_103 : decode cX5_year 103 = .ok (.goto 5, 3) := by decide +kernel
theorem dX5_year_106 : decode cX5_year 106 = .ok (.iload 7, 2) := by decide +kernel
theorem dX5_year_108 : decode cX5_year 108 = .ok (.invokevirtual 124, 3) := by decide +kernel
theorem dX5_year_111 : decode cX5_year 111 = .ok (.iload 5, 2) := by decide +kernel
theorem dX5_year_113 : decode cX5_year 113 = .ok (.iload_n 3, 1) := by decide +kernel
theorem dX5_year_114 : decode cX5_year 114 = .ok (.bipush 6, 2) := by decide +kernel
theorem dX5_year_116 : decode cX5_year 116 = .ok (.if_icmp .ge 14, 3) := by decide +kernel
theorem dX5_year_119 : decode cX5_year 119 = .ok (.aload_n 0, 1) := by decide +kernel
theorem dX5_year_120 : decode cX5_year 120 = .ok (.getfield 117, 3) := by decide +kernel
theorem dX5_year_123 : decode cX5_year 123 = .ok (.iload_n 3, 1) := by decide +kernel
theorem dX5_year_124 : decode cX5_year 124 = .ok (.ishr, 1) := by decide +kernel
theorem dX5_year_125 : decode cX5_year 125 = .ok (.iconst 1, 1) := by decide +kernel
theorem dX5_year_126 : decode cX5_year 126 = .ok (.iand, 1) := by decide +kernel
theorem dX5_year_127 : decode cX5_year 127 = .ok (.goto 15, 3) := by decide +kernel
theorem dX5_year_130 : decode cX5_year 130 = .ok (.aload_n 0, 1) := by decide +kernel
theorem dX5_year_131 : decode cX5_year 131 = .ok (.getfield 117, 3) := by decide +kernel
theorem dX5_year_134 : decode cX5_year 134 = .ok (.ifCond .ne 7, 3) := by decide +kernel
theorem dX5_year_137 : decode cX5_year 137 = .ok (.iconst 1, 1) := by decide +kernel
theorem dX5_year_138 : decode cX5_year 138 = .ok (.goto 4, 3) := by decide +kernel
theorem dX5_year_141 : decode cX5_year 141 = .ok (.iconst 0, 1) := by decide +kernel
theorem dX5_year_142 : decode cX5_year 142 = .ok (.iadd, 1) := by decide +kernel
theorem dX5_year_143 : decode cX5_year 143 = .ok (.istore 5, 2) := by decide +kernel
theorem dX5_year_145 : decode cX5_year 145 = .ok (.iinc 6 1, 3) := by decide +kernel
theorem dX5_year_148 : decode cX5_year 148 = .ok (.goto (-90), 3) := by decide +kernel
theorem dX5_year_151 : decode cX5_year 151 = .ok (.iload_n 3, 1) := by decide +kernel
theorem dX5_year_152 : decode cX5_year 152 = .ok (.bipush 7, 2) := by decide +kernel
theorem dX5_year_154 : decode cX5_year 154 = .ok (.if_icmp .ne 10, 3) := by decide +kernel
theorem dX5_year_157 : decode cX5_year 157 = .ok (.aload_n 0, 1) := by decide +kernel
theorem dX5_year_158 : decode cX5_year 158 = .ok (.getfield 114, 3) := by decide +kernel
theorem dX5_year_161 : decode cX5_year 161 = .ok (.goto 5, 3) := by decide +kernel
theorem dX5_year_164 : decode cX5_year 164 = .ok (.iload 5, 2) := by decide +kernel
theorem dX5_year_166 : decode cX5_year 166 = .ok (.ireturn, 1) := by decide +kernel
theorem dX5_carry_0 : decode cX5_carry 0 = .ok (.aload_n 0, 1) := by decide +kernel
theorem dX5_carry_1 : decode cX5_carry 1 = .ok (.getfield 205, 3) := by decide +kernel
theorem dX5_carry_4 : decode cX5_carry 4 = .ok (.ifCond .eq 7, 3) := by decide +kernel
theorem dX5_carry_7 : decode cX5_carry 7 = .ok (.iload_n 1, 1) := by decide +kernel
theorem dX5_carry_8 : decode cX5_carry 8 = .ok (.goto 12, 3) := by decide +kernel
theorem dX5_carry_11 : decode cX5_carry 11 = .ok (.aload_n 0, 1) := by decide +kernel
theorem dX5_carry_12 : decode cX5_carry 12 = .ok (.getfield 37, 3) := by decide +kernel
theorem dX5_carry_15 : decode cX5_carry 15 = .ok (.aload_n 0, 1) := by decide +kernel
theorem dX5_carry_16 : decode cX5_carry 16 = .ok (.getfield 209, 3) := by decide +kernel
theorem dX5_carry_19 : decode cX5_carry 19 = .ok (.iaload, 1) := by decide +kernel
theorem dX5_carry_20 : decode cX5_carry 20 = .ok (.istore_n 2, 1) := by decide +kernel
theorem dX5_carry_21 : decode cX5_carry 21 = .ok (.aload_n 0, 1) := by decide +kernel
theorem dX5_carry_22 : decode cX5_carry 22 = .ok (.getfield 37, 3) := by decide +kernel
theorem dX5_carry_25 : decode cX5_carry 25 = .ok (.aload_n 0, 1) := by decide +kernel
theorem dX5_carry_26 : decode cX5_carry 26 = .ok (.getfield 209, 3) := by decide +kernel
theorem dX5_carry_29 : decode cX5_carry 29 = .ok (.iload_n 2, 1) := by decide +kernel
theorem dX5_carry_30 : decode cX5_carry 30 = .ok (.iastore, 1) := by decide +kernel
theorem dX5_carry_31 : decode cX5_carry 31 = .ok (.aload_n 0, 1) := by decide +kernel
theorem dX5_carry_32 : decode cX5_carry 32 = .ok (.dup, 1) := by decide +kernel
theorem dX5_carry_33 : decode cX5_carry 33 = .ok (.getfield 209, 3) := by decide +kernel
theorem dX5_carry_36 : decode cX5_carry 36 = .ok (.iconst 1, 1) := by decide +kernel
theorem dX5_carry_37 : decode cX5_carry 37 = .ok (.iadd, 1) := by decide +kernel
theorem dX5_carry_38 : decode cX5_carry 38 = .ok (.putfield 209, 3) := by decide +kernel
theorem dX5_carry_41 : decode cX5_carry 41 = .ok (.iload_n 2, 1) := by decide +kernel
theorem dX5_carry_42 : decode cX5_carry 42 = .ok (.ireturn, 1) := by decide +kernel
set_option maxRecDepth 20000 in
theorem ggX5_passAll_X5_carry : GoodIn wsX5_passAll wsX5_carry := goodIn_r _ [17, 18, 19, 20, 21, 22, 23, 24, 25, 26, 27, 28, 29, 30, 31, 32, 33, 34, 35, 36, 37, 38, 39, 40, 41, 42, 43, 44] (by decide +kernel) (by decide +kernel)
set_option maxRecDepth 20000 in
theorem gX5_passAll_X5_carry : GoodIn wsX5_passAll (wsV RX5 212 RX5 yX5_carry wsX5_carry) := goodIn_app (goodIn_of _ (by decide +kernel)) ggX5_passAll_X5_carry
theorem dX5_passAll_0 : decode cX5_passAll 0 = .ok (.aload_n 0, 1) := by decide +kernel
theorem dX5_passAll_1 : decode cX5_passAll 1 = .ok (.aload_n 0, 1) := by decide +kernel
theorem dX5_passAll_2 : decode cX5_passAll 2 = .ok (.aload_n 0, 1) := by decide +kernel
theorem dX5_passAll_3 : decode cX5_passAll 3 = .ok (.getfield 63, 3) := by decide +kernel
theorem dX5_passAll_6 : decode cX5_passAll 6 = .ok (.invokevirtual 212, 3) := by decide +kernel
theorem dX5_passAll_9 : decode cX5_passAll 9 = .ok (.putfield 63, 3) := by decide +kernel
theorem dX5_passAll_12 : decode cX5_passAll 12 = .ok (.aload_n 0, 1) := by decide +kernel
theorem dX5_passAll_13 : decode cX5_passAll 13 = .ok (.aload_n 0, 1) := by decide +kernel
theorem dX5_passAll_14 : decode cX5_passAll 14 = .ok (.aload_n 0, 1) := by decide +kernel
theorem dX5_passAll_15 : decode cX5_passAll 15 = .ok (.getfield 69, 3) := by decide +kernel
theorem dX5_passAll_18 : decode cX5_passAll 18 = .ok (.invokevirtual 212, 3) := by decide +kernel
theorem dX5_passAll_21 : decode cX5_passAll 21 = .ok (.putfield 69, 3) := by decide +kernel
theorem dX5_passAll_24 : decode cX5_passAll 24 = .ok (.aload_n 0, 1) := by decide +kernel
theorem dX5_passAll_25 : decode cX5_passAll 25 = .ok (.aload_n 0, 1) := by decide +kernel
theorem dX5_passAll_26 : decode cX5_passAll 26 = .ok (.aload_n 0, 1) := by decide +kernel
theorem dX5_passAll_27 : decode cX5_passAll 27 = .ok (.getfield 79, 3) := by decide +kernel
theorem dX5_passAll_30 : decode cX5_passAll 30 = .ok (.invokevirtual 212, 3) := by decide +kernel
theorem dX5_passAll_33 : decode cX5_passAll 33 = .ok (.putfield 79, 3) := by decide +kernel
theorem dX5_passAll_36 : decode cX5_passAll 36 = .ok (.aload_n 0, 1) := by decide +kernel
theorem dX5_passAll_37 : decode cX5_passAll 37 = .ok (.aload_n 0, 1) := by decide +kernel
theorem dX5_passAll_38 : decode cX5_passAll 38 = .ok (.aload_n 0, 1) := by decide +kernel
theorem dX5_passAll_39 : decode cX5_passAll 39 = .ok (.getfield 44, 3) := by decide +kernel
theorem dX5_passAll_42 : decode cX5_passAll 42 = .ok (.invokevirtual 212, 3) := by decide +kernel
theorem dX5_passAll_45 : decode cX5_passAll 45 = .ok (.putfield 44, 3) := by decide +kernel
theorem dX5_passAll_48 : decode cX5_passAll 48 = .ok (.aload_n 0, 1) := by decide +kernel
theorem dX5_passAll_49 : decode cX5_passAll 49 = .ok (.aload_n 0, 1) := by decide +kernel
theorem dX5_passAll_50 : decode cX5_passAll 50 = .ok (.aload_n 0, 1) := by decide +kernel
theorem dX5_passAll_51 : decode cX5_passAll 51 = .ok (.getfield 48, 3) := by decide +kernel
theorem dX5_passAll_54 : decode cX5_passAll 54 = .ok (.invokevirtual 212, 3) := by decide +kernel
theorem dX5_passAll_57 : decode cX5_passAll 57 = .ok (.putfield 48, 3) := by decide +kernel
theorem dX5_passAll_60 : decode cX5_passAll 60 = .ok (.aload_n 0, 1) := by decide +kernel
theorem dX5_passAll_61 : decode cX5_passAll 61 = .ok (.aload_n 0, 1) := by decide +kernel
theorem dX5_passAll_62 : decode cX5_passAll 62 = .ok (.aload_n 0, 1) := by decide +kernel
theorem dX5_passAll_63 : decode cX5_passAll 63 = .ok (.getfield 189, 3) := by decide +kernel
theorem dX5_passAll_66 : decode cX5_passAll 66 = .ok (.invokevirtual 212, 3) := by decide +kernel
theorem dX5_passAll_69 : decode cX5_passAll 69 = .ok (.putfield 189, 3) := by decide +kernel
theorem dX5_passAll_72 : decode cX5_passAll 72 = .ok (.iconst 0, 1) := by decide +kernel
theorem dX5_passAll_73 : decode cX5_passAll 73 = .ok (.istore_n 1, 1) := by decide +kernel
theorem dX5_passAll_74 : decode cX5_passAll 74 = .ok (.iload_n 1, 1) := by decide +kernel
theorem dX5_passAll_75 : decode cX5_passAll 75 = .ok (.bipush 6, 2) := by decide +kernel
theorem dX5_passAll_77 : decode cX5_passAll 77 = .ok (.if_icmp .ge 89, 3) := by decide +kernel
theorem dX5_passAll_80 : decode cX5_passAll 80 = .ok (.aload_n 0, 1) := by decide +kernel
theorem dX5_passAll_81 : decode cX5_passAll 81 = .ok (.getfield 7, 3) := by decide +kernel
theorem dX5_passAll_84 : decode cX5_passAll 84 = .ok (.iload_n 1, 1) := by decide +kernel
theorem dX5_passAll_85 : decode cX5_passAll 85 = .ok (.aload_n 0, 1) := by decide +kernel
theorem dX5_passAll_86 : decode cX5_passAll 86 = .ok (.aload_n 0, 1) := by decide +kernel
theorem dX5_passAll_87 : decode cX5_passAll 87 = .ok (.getfield 7, 3) := by decide +kernel
theorem dX5_passAll_90 : decode cX5_passAll 90 = .ok (.iload_n 1, 1) := by decide +kernel
theorem dX5_passAll_91 : decode cX5_passAll 91 = .ok (.iaload, 1) := by decide +kernel
theorem dX5_passAll_92 : decode cX5_passAll 92 = .ok (.invokevirtual 212, 3) := by decide +kernel
theorem dX5_passAll_95 : decode cX5_passAll 95 = .ok (.iastore, 1) := by decide +kernel
theorem dX5_passAll_96 : decode cX5_passAll 96 = .ok (.aload_n 0, 1) := by decide +kernel
theorem dX5_passAll_97 : decode cX5_passAll 97 = .ok (.getfield 13, 3) := by decide +kernel
theorem dX5_passAll_100 : decode cX5_passAll 100 = .ok (.iload_n 1, 1) := by decide +kernel
theorem dX5_passAll_101 : decode cX5_passAll 101 = .ok (.aload_n 0, 1) := by decide +kernel
theorem dX5_passAll_102 : decode cX5_passAll 102 = .ok (.aload_n 0, 1) := by decide +kernel
theorem dX5_passAll_103 : decode cX5_passAll 103 = .ok (.getfield 13, 3) := by decide +kernel
theorem dX5_passAll_106 : decode cX5_passAll 106 = .ok (.iload_n 1, 1) := by decide +kernel
theorem dX5_passAll_107 : decode cX5_passAll 107 = .ok (.iaload, 1) := by decide +kernel
theorem dX5_passAll_108 : decode cX5_passAll 108 = .ok (.invokevirtual 212, 3) := by decide +kernel
theorem dX5_passAll_111 : decode cX5_passAll 111 = .ok (.iastore, 1) := by decide +kernel
theorem dX5_passAll_112 : decode cX5_passAll 112 = .ok (.aload_n 0, 1) := by decide +kernel
theorem dX5_passAll_113 : decode cX5_passAll 113 = .ok (.getfield 16, 3) := by decide +kernel
theorem dX5_passAll_116 : decode cX5_passAll 116 = .ok (.iload_n 1, 1) := by decide +kernel
theorem dX5_passAll_117 : decode cX5_passAll 117 = .ok (.aload_n 0, 1) := by decide +kernel
theorem dX5_passAll_118 : decode cX5_passAll 118 = .ok (.aload_n 0, 1) := by decide +kernel
theorem dX5_passAll_119 : decode cX5_passAll 119 = .ok (.getfield 16, 3) := by decide +kernel
theorem dX5_passAll_122 : decode cX5_passAll 122 = .ok (.iload_n 1, 1) := by decide +kernel
theorem dX5_passAll_123 : decode cX5_passAll 123 = .ok (.iaload, 1) := by decide +kernel
theorem dX5_passAll_124 : decode cX5_passAll 124 = .ok (.invokevirtual 212, 3) := by decide +kernel
theorem dX5_passAll_127 : decode cX5_passAll 127 = .ok (.iastore, 1) := by decide +kernel
theorem dX5_passAll_128 : decode cX5_passAll 128 = .ok (.aload_n 0, 1) := by decide +kernel
theorem dX5_passAll_129 : decode cX5_passAll 129 = .ok (.getfield 22, 3) := by decide +kernel
theorem dX5_passAll_132 : decode cX5_passAll 132 = .ok (.iload_n 1, 1) := by decide +kernel
theorem dX5_passAll_133 : decode cX5_passAll 133 = .ok (.aload_n 0, 1) := by decide +kernel
theorem dX5_passAll_134 : decode cX5_passAll 134 = .ok (.aload_n 0, 1) := by decide +kernel
theorem dX5_passAll_135 : decode cX5_passAll 135 = .ok (.getfield 22, 3) := by decide +kernel
theorem dX5_passAll_138 : decode cX5_passAll 138 = .ok (.iload_n 1, 1) := by decide +kernel
theorem dX5_passAll_139 : decode cX5_passAll 139 = .ok (.iaload, 1) := by decide +kernel
theorem dX5_passAll_140 : decode cX5_passAll 140 = .ok (.invokevirtual 212, 3) := by decide +kernel
theorem dX5_passAll_143 : decode cX5_passAll 143 = .ok (.iastore, 1) := by decide +kernel
theorem dX5_passAll_144 : decode cX5_passAll 144 = .ok (.aload_n 0, 1) := by decide +kernel
theorem dX5_passAll_145 : decode cX5_passAll 145 = .ok (.getfield 25, 3) := by decide +kernel
theorem dX5_passAll_148 : decode cX5_passAll 148 = .ok (.iload_n 1, 1) := by decide +kernel
theorem dX5_passAll_149 : decode cX5_passAll 149 = .ok (.aload_n 0, 1) := by decide +kernel
theorem dX5_passAll_150 : decode cX5_passAll 150 = .ok (.aload_n 0, 1) := by decide +kernel
theorem dX5_passAll_151 : decode cX5_passAll 151 = .ok (.getfield 25, 3) := by decide +kernel
theorem dX5_passAll_154 : decode cX5_passAll 154 = .ok (.iload_n 1, 1) := by decide +kernel
theorem dX5_passAll_155 : decode cX5_passAll 155 = .ok (.iaload, 1) := by decide +kernel
theorem dX5_passAll_156 : decode cX5_passAll 156 = .ok (.invokevirtual 212, 3) := by decide +kernel
theorem dX5_passAll_159 : decode cX5_passAll 159 = .ok (.iastore, 1) := by decide +kernel
theorem dX5_passAll_160 : decode cX5_passAll 160 = .ok (.iinc 1 1, 3) := by decide +kernel
theorem dX5_passAll_163 : decode cX5_passAll 163 = .ok (.goto (-89), 3) := by decide +kernel
theorem dX5_passAll_166 : decode cX5_passAll 166 = .ok (.iconst 0, 1) := by decide +kernel
theorem dX5_passAll_167 : decode cX5_passAll 167 = .ok (.istore_n 1, 1) := by decide +kernel
theorem dX5_passAll_168 : decode cX5_passAll 168 = .ok (.iload_n 1, 1) := by decide +kernel
theorem dX5_passAll_169 : decode cX5_passAll 169 = .ok (.bipush 10, 2) := by decide +kernel
theorem dX5_passAll_171 : decode cX5_passAll 171 = .ok (.if_icmp .ge 25, 3) := by decide +kernel
theorem dX5_passAll_174 : decode cX5_passAll 174 = .ok (.aload_n 0, 1) := by decide +kernel
theorem dX5_passAll_175 : decode cX5_passAll 175 = .ok (.getfield 19, 3) := by decide +kernel
theorem dX5_passAll_178 : decode cX5_passAll 178 = .ok (.iload_n 1, 1) := by decide +kernel
theorem dX5_passAll_179 : decode cX5_passAll 179 = .ok (.aload_n 0, 1) := by decide +kernel
theorem dX5_passAll_180 : decode cX5_passAll 180 = .ok (.aload_n 0, 1) := by decide +kernel
theorem dX5_passAll_181 : decode cX5_passAll 181 = .ok (.getfield 19, 3) := by decide +kernel
theorem dX5_passAll_184 : decode cX5_passAll 184 = .ok (.iload_n 1, 1) := by decide +kernel
theorem dX5_passAll_185 : decode cX5_passAll 185 = .ok (.iaload, 1) := by decide +kernel
theorem dX5_passAll_186 : decode cX5_passAll 186 = .ok (.invokevirtual 212, 3) := by decide +kernel
theorem dX5_passAll_189 : decode cX5_passAll 189 = .ok (.iastore, 1) := by decide +kernel
theorem dX5_passAll_190 : decode cX5_passAll 190 = .ok (.iinc 1 1, 3) := by decide +kernel
theorem dX5_passAll_193 : decode cX5_passAll 193 = .ok (.goto (-25), 3) := by decide +kernel
theorem dX5_passAll_196 : decode cX5_passAll 196 = .ok (.return_, 1) := by decide +kernel
set_option maxRecDepth 20000 in
theorem ggX5_image_X5_in : GoodIn wsX5_image wsX5_in := goodIn_r _ [7] (by decide +kernel) (by decide +kernel)
set_option maxRecDepth 20000 in
theorem gX5_image_X5_in : GoodIn wsX5_image (va_wsS RX5 53 yX5_in wsX5_in) := goodIn_app (goodIn_of _ (by decide +kernel)) ggX5_image_X5_in
set_option maxRecDepth 20000 in
theorem ggX5_image_X5_passAll : GoodIn wsX5_image wsX5_passAll := goodIn_r _ [11, 12, 13, 14, 15, 16, 17, 18, 19, 20, 21, 22, 23, 24, 25, 26, 6, 27, 2, 28, 1, 29, 30, 31, 32, 33, 34, 35, 36, 37, 38, 39, 40, 41, 42, 43, 44, 45, 46, 47, 48, 49, 50, 51, 52] (by decide +kernel) (by decide +kernel)
set_option maxRecDepth 20000 in
theorem gX5_image_X5_passAll : GoodIn wsX5_image (wsV RX5 215 RX5 yX5_passAll wsX5_passAll) := goodIn_app (goodIn_of _ (by decide +kernel)) ggX5_image_X5_passAll
theorem dX5_image_0 : decode cX5_image 0 = .ok (.iload_n 1, 1) := by decide +kernel
theorem dX5_image_1 : decode cX5_image 1 = .ok (.i2l, 1) := by decide +kernel
theorem dX5_image_2 : decode cX5_image 2 = .ok (.lconst 0, 1) := by decide +kernel
theorem dX5_image_3 : decode cX5_image 3 = .ok (.lconst 1, 1) := by decide +kernel
theorem dX5_image_4 : decode cX5_image 4 = .ok (.invokestatic 53, 3) := by decide +kernel
theorem dX5_image_7 : decode cX5_image 7 = .ok (.ifCond .ne 6, 3) := by decide +kernel
theorem dX5_image_10 : decode cX5_image 10 = .ok (.bipush (-2), 2) := by decide +kernel
theorem dX5_image_12 : decode cX5_image 12 = .ok (.ireturn, 1) := by decide +kernel
theorem dX5_image_13 : decode cX5_image 13 = .ok (.aload_n 0, 1) := by decide +kernel
theorem dX5_image_14 : decode cX5_image 14 = .ok (.bipush 80, 2) := by decide +kernel
theorem dX5_image_16 : decode cX5_image 16 = .ok (.iload_n 1, 1) := by decide +kernel
theorem dX5_image_17 : decode cX5_image 17 = .ok (.imul, 1) := by decide +kernel
theorem dX5_image_18 : decode cX5_image 18 = .ok (.putfield 209, 3) := by decide +kernel
theorem dX5_image_21 : decode cX5_image 21 = .ok (.aload_n 0, 1) := by decide +kernel
theorem dX5_image_22 : decode cX5_image 22 = .ok (.iconst 1, 1) := by decide +kernel
theorem dX5_image_23 : decode cX5_image 23 = .ok (.putfield 205, 3) := by decide +kernel
theorem dX5_image_26 : decode cX5_image 26 = .ok (.aload_n 0, 1) := by decide +kernel
theorem dX5_image_27 : decode cX5_image 27 = .ok (.invokevirtual 215, 3) := by decide +kernel
theorem dX5_image_30 : decode cX5_image 30 = .ok (.aload_n 0, 1) := by decide +kernel
theorem dX5_image_31 : decode cX5_image 31 = .ok (.getfield 40, 3) := by decide +kernel
theorem dX5_image_34 : decode cX5_image 34 = .ok (.iload_n 1, 1) := by decide +kernel
theorem dX5_image_35 : decode cX5_image 35 = .ok (.iconst 1, 1) := by decide +kernel
theorem dX5_image_36 : decode cX5_image 36 = .ok (.bastore, 1) := by decide +kernel
theorem dX5_image_37 : decode cX5_image 37 = .ok (.iconst 1, 1) := by decide +kernel
theorem dX5_image_38 : decode cX5_image 38 = .ok (.ireturn, 1) := by decide +kernel
set_option maxRecDepth 20000 in
theorem ggX5_restore_X5_in : GoodIn wsX5_restore wsX5_in := goodIn_r _ [7] (by decide +kernel) (by decide +kernel)
set_option maxRecDepth 20000 in
theorem gX5_restore_X5_in : GoodIn wsX5_restore (va_wsS RX5 53 yX5_in wsX5_in) := goodIn_app (goodIn_of _ (by decide +kernel)) ggX5_restore_X5_in
set_option maxRecDepth 20000 in
theorem ggX5_restore_X5_passAll : GoodIn wsX5_restore wsX5_passAll := goodIn_r _ [11, 12, 13, 14, 15, 16, 17, 18, 19, 20, 21, 22, 23, 24, 25, 26, 6, 27, 3, 28, 2, 29, 30, 31, 32, 33, 34, 35, 36, 37, 38, 39, 40, 41, 42, 43, 44, 45, 46, 47, 48, 49, 50, 51, 52] (by decide +kernel) (by decide +kernel)
set_option maxRecDepth 20000 in
theorem gX5_restore_X5_passAll : GoodIn wsX5_restore (wsV RX5 215 RX5 yX5_passAll wsX5_passAll) := goodIn_app (goodIn_of _ (by decide +kernel)) ggX5_restore_X5_passAll
theorem dX5_restore_0 : decode cX5_restore 0 = .ok (.iload_n 1, 1) := by decide +kernel
theorem dX5_restore_1 : decode cX5_restore 1 = .ok (.i2l, 1) := by decide +kernel
theorem dX5_restore_2 : decode cX5_restore 2 = .ok (.lconst 0, 1) := by decide +kernel
theorem dX5_restore_3 : decode cX5_restore 3 = .ok (.lconst 1, 1) := by decide +kernel
theorem dX5_restore_4 : decode cX5_restore 4 = .ok (.invokestatic 53, 3) := by decide +kernel
theorem dX5_restore_7 : decode cX5_restore 7 = .ok (.ifCond .ne 6, 3) := by decide +kernel
theorem dX5_restore_10 : decode cX5_restore 10 = .ok (.bipush (-2), 2) := by decide +kernel
theorem dX5_restore_12 : decode cX5_restore 12 = .ok (.ireturn, 1) := by decide +kernel
theorem dX5_restore_13 : decode cX5_restore 13 = .ok (.aload_n 0, 1) := by decide +kernel
theorem dX5_restore_14 : decode cX5_restore 14 = .ok (.getfield 40, 3) := by decide +kernel
theorem dX5_restore_17 : decode cX5_restore 17 = .ok (.iload_n 1, 1) := by decide +kernel
theorem dX5_restore_18 : decode cX5_restore 18 = .ok (.baload, 1) := by decide +kernel
theorem dX5_restore_19 : decode cX5_restore 19 = .ok (.ifCond .ne 6, 3) := by decide +kernel
theorem dX5_restore_22 : decode cX5_restore 22 = .ok (.bipush (-3), 2) := by decide +kernel
theorem dX5_restore_24 : decode cX5_restore 24 = .ok (.ireturn, 1) := by decide +kernel
theorem dX5_restore_25 : decode cX5_restore 25 = .ok (.aload_n 0, 1) := by decide +kernel
theorem dX5_restore_26 : decode cX5_restore 26 = .ok (.bipush 80, 2) := by decide +kernel
theorem dX5_restore_28 : decode cX5_restore 28 = .ok (.iload_n 1, 1) := by decide +kernel
theorem dX5_restore_29 : decode cX5_restore 29 = .ok (.imul, 1) := by decide +kernel
theorem dX5_restore_30 : decode cX5_restore 30 = .ok (.putfield 209, 3) := by decide +kernel
theorem dX5_restore_33 : decode cX5_restore 33 = .ok (.aload_n 0, 1) := by decide +kernel
theorem dX5_restore_34 : decode cX5_restore 34 = .ok (.iconst 0, 1) := by decide +kernel
theorem dX5_restore_35 : decode cX5_restore 35 = .ok (.putfield 205, 3) := by decide +kernel
theorem dX5_restore_38 : decode cX5_restore 38 = .ok (.aload_n 0, 1) := by decide +kernel
theorem dX5_restore_39 : decode cX5_restore 39 = .ok (.invokevirtual 215, 3) := by decide +kernel
theorem dX5_restore_42 : decode cX5_restore 42 = .ok (.iconst 1, 1) := by decide +kernel
theorem dX5_restore_43 : decode cX5_restore 43 = .ok (.ireturn, 1) := by decide +kernel
set_option maxRecDepth 20000 in
theorem ggX5_told_X5_in : GoodIn wsX5_told wsX5_in := goodIn_r _ [19] (by decide +kernel) (by decide +kernel)
set_option maxRecDepth 20000 in
theorem gX5_told_X5_in : GoodIn wsX5_told (va_wsS RX5 53 yX5_in wsX5_in) := goodIn_app (goodIn_of _ (by decide +kernel)) ggX5_told_X5_in
set_option maxRecDepth 20000 in
theorem ggX5_told_X5_isThere : GoodIn wsX5_told wsX5_isThere := goodIn_r _ [23, 11, 24, 25, 18, 26, 27, 16, 17, 19, 28, 29, 30, 31, 32, 33, 34, 35, 36, 37, 38, 39, 40, 41, 42, 43, 44, 45, 46, 47, 48, 49, 50, 51] (by decide +kernel) (by decide +kernel)
set_option maxRecDepth 20000 in
theorem gX5_told_X5_isThere : GoodIn wsX5_told (wsV RX5 76 RX5 yX5_isThere wsX5_isThere) := goodIn_app (goodIn_of _ (by decide +kernel)) ggX5_told_X5_isThere
theorem dX5_told_0 : decode cX5_told 0 = .ok (.iload_n 1, 1) := by decide +kernel
theorem dX5_told_1 : decode cX5_told 1 = .ok (.i2l, 1) := by decide +kernel
theorem dX5_told_2 : decode cX5_told 2 = .ok (.ldc2_w 218, 3) := by decide +kernel
theorem dX5_told_5 : decode cX5_told 5 = .ok (.ldc2_w 220, 3) := by decide +kernel
theorem dX5_told_8 : decode cX5_told 8 = .ok (.invokestatic 53, 3) := by decide +kernel
theorem dX5_told_11 : decode cX5_told 11 = .ok (.ifCond .eq 13, 3) := by decide +kernel
theorem dX5_told_14 : decode cX5_told 14 = .ok (.aload_n 0, 1) := by decide +kernel
theorem dX5_told_15 : decode cX5_told 15 = .ok (.getfield 19, 3) := by decide +kernel
theorem dX5_told_18 : decode cX5_told 18 = .ok (.iload_n 1, 1) := by decide +kernel
theorem dX5_told_19 : decode cX5_told 19 = .ok (.bipush 10, 2) := by decide +kernel
theorem dX5_told_21 : decode cX5_told 21 = .ok (.isub, 1) := by decide +kernel
theorem dX5_told_22 : decode cX5_told 22 = .ok (.iaload, 1) := by decide +kernel
theorem dX5_told_23 : decode cX5_told 23 = .ok (.ireturn, 1) := by decide +kernel
theorem dX5_told_24 : decode cX5_told 24 = .ok (.iload_n 1, 1) := by decide +kernel
theorem dX5_told_25 : decode cX5_told 25 = .ok (.i2l, 1) := by decide +kernel
theorem dX5_told_26 : decode cX5_told 26 = .ok (.ldc2_w 222, 3) := by decide +kernel
theorem dX5_told_29 : decode cX5_told 29 = .ok (.ldc2_w 224, 3) := by decide +kernel
theorem dX5_told_32 : decode cX5_told 32 = .ok (.invokestatic 53, 3) := by decide +kernel
theorem dX5_told_35 : decode cX5_told 35 = .ok (.ifCond .eq 95, 3) := by decide +kernel
theorem dX5_told_38 : decode cX5_told 38 = .ok (.iload_n 1, 1) := by decide +kernel
theorem dX5_told_39 : decode cX5_told 39 = .ok (.bipush 10, 2) := by decide +kernel
theorem dX5_told_41 : decode cX5_told 41 = .ok (.idiv, 1) := by decide +kernel
theorem dX5_told_42 : decode cX5_told 42 = .ok (.iconst 2, 1) := by decide +kernel
theorem dX5_told_43 : decode cX5_told 43 = .ok (.isub, 1) := by decide +kernel
theorem dX5_told_44 : decode cX5_told 44 = .ok (.istore_n 2, 1) := by decide +kernel
theorem dX5_told_45 : decode cX5_told 45 = .ok (.iload_n 1, 1) := by decide +kernel
theorem dX5_told_46 : decode cX5_told 46 = .ok (.bipush 10, 2) := by decide +kernel
theorem dX5_told_48 : decode cX5_told 48 = .ok (.irem, 1) := by decide +kernel
theorem dX5_told_49 : decode cX5_told 49 = .ok (.istore_n 3, 1) := by decide +kernel
theorem dX5_told_50 : decode cX5_told 50 = .ok (.aload_n 0, 1) := by decide +kernel
theorem dX5_told_51 : decode cX5_told 51 = .ok (.iload_n 2, 1) := by decide +kernel
theorem dX5_told_52 : decode cX5_told 52 = .ok (.invokevirtual 76, 3) := by decide +kernel
theorem dX5_told_55 : decode cX5_told 55 = .ok (.ifCond .eq 12, 3) := by decide +kernel
theorem dX5_told_58 : decode cX5_told 58 = .ok (.iload_n 3, 1) := by decide +kernel
theorem dX5_told_59 : decode cX5_told 59 = .ok (.iconst 4, 1) := by decide +kernel
theorem dX5_told_60 : decode cX5_told 60 = .ok (.if_icmp .ge 7, 3) := by decide +kernel
theorem dX5_told_63 : decode cX5_told 63 = .ok (.iconst 1, 1) := by decide +kernel
theorem dX5_told_64 : decode cX5_told 64 = .ok (.goto 4, 3) := by decide +kernel
theorem dX5_told_67 : decode cX5_told 67 = .ok (.iconst 0, 1) := by decide +kernel
theorem dX5_told_68 : decode cX5_told 68 = .ok (.istore 4, 2) := by decide +kernel
theorem dX5_told_70 : decode cX5_told 70 = .ok (.iload 4, 2) := by decide +kernel
theorem dX5_told_72 : decode cX5_told 72 = .ok (.ifCond .ne 8, 3) := by decide +kernel
theorem dX5_told_75 : decode cX5_told 75 = .ok (.bipush (-2), 2) := by decide +kernel
theorem dX5_told_77 : decode cX5_told 77 = .ok (.goto 52, 3) := by decide +kernel
theorem dX5_told_80 : decode cX5_told 80 = .ok (.iload_n 3, 1) := by decide +kernel
theorem dX5_told_81 : decode cX5_told 81 = .ok (.ifCond .ne 12, 3) := by decide +kernel
theorem dX5_told_84 : decode cX5_told 84 = .ok (.aload_n 0, 1) := by decide +kernel
theorem dX5_told_85 : decode cX5_told 85 = .ok (.getfield 7, 3) := by decide +kernel
theorem dX5_told_88 : decode cX5_told 88 = .ok (.iload_n 2, 1) := by decide +kernel
theorem dX5_told_89 : decode cX5_told 89 = .ok (.iaload, 1) := by decide +kernel
theorem dX5_told_90 : decode cX5_told 90 = .ok (.goto 39, 3) := by decide +kernel
theorem dX5_told_93 : decode cX5_told 93 = .ok (.iload_n 3, 1) := by decide +kernel
theorem dX5_told_94 : decode cX5_told 94 = .ok (.iconst 1, 1) := by decide +kernel
theorem dX5_told_95 : decode cX5_told 95 = .ok (.if_icmp .ne 12, 3) := by decide +kernel
theorem dX5_told_98 : decode cX5_told 98 = .ok (.aload_n 0, 1) := by decide +kernel
theorem dX5_told_99 : decode cX5_told 99 = .ok (.getfield 13, 3) := by decide +kernel
theorem dX5_told_102 : decode cX5_told 102 = .ok (.iload_n 2, 1) := by decide +kernel
theorem dX5_told_103 : decode cX5_told 103 = .ok (.iaload, 1) := by decide +kernel
theorem dX5_told_104 : decode cX5_told 104 = .ok (.goto 25, 3) := by decide +kernel
theorem dX5_told_107 : decode cX5_told 107 = .ok (.iload_n 3, 1) := by decide +kernel
theorem dX5_told_108 : decode cX5_told 108 = .ok (.iconst 2, 1) := by decide +kernel
theorem dX5_told_109 : decode cX5_told 109 = .ok (.if_icmp .ne 12, 3) := by decide +kernel
theorem dX5_told_112 : decode cX5_told 112 = .ok (.aload_n 0, 1) := by decide +kernel
theorem dX5_told_113 : decode cX5_told 113 = .ok (.getfield 16, 3) := by decide +kernel
theorem dX5_told_116 : decode cX5_told 116 = .ok (.iload_n 2, 1) := by decide +kernel
theorem dX5_told_117 : decode cX5_told 117 = .ok (.iaload, 1) := by decide +kernel
theorem dX5_told_118 : decode cX5_told 118 = .ok (.goto 11, 3) := by decide +kernel
theorem dX5_told_121 : decode cX5_told 121 = .ok (.aload_n 0, 1) := by decide +kernel
theorem dX5_told_122 : decode cX5_told 122 = .ok (.getfield 69, 3) := by decide +kernel
theorem dX5_told_125 : decode cX5_told 125 = .ok (.iload_n 2, 1) := by decide +kernel
theorem dX5_told_126 : decode cX5_told 126 = .ok (.ishr, 1) := by decide +kernel
theorem dX5_told_127 : decode cX5_told 127 = .ok (.iconst 1, 1) := by decide +kernel
theorem dX5_told_128 : decode cX5_told 128 = .ok (.iand, 1) := by decide +kernel
theorem dX5_told_129 : decode cX5_told 129 = .ok (.ireturn, 1) := by decide +kernel
theorem dX5_told_130 : decode cX5_told 130 = .ok (.iload_n 1, 1) := by decide +kernel
theorem dX5_told_131 : decode cX5_told 131 = .ok (.tableswitch 67 0 5 #[37, 42, 47, 52, 57, 62], 37) := by decide +kernel
theorem dX5_told_168 : decode cX5_told 168 = .ok (.aload_n 0, 1) := by decide +kernel
theorem dX5_told_169 : decode cX5_told 169 = .ok (.getfield 86, 3) := by decide +kernel
theorem dX5_told_172 : decode cX5_told 172 = .ok (.ireturn, 1) := by decide +kernel
theorem dX5_told_173 : decode cX5_told 173 = .ok (.aload_n 0, 1) := by decide +kernel
theorem dX5_told_174 : decode cX5_told 174 = .ok (.getfield 63, 3) := by decide +kernel
theorem dX5_told_177 : decode cX5_told 177 = .ok (.ireturn, 1) := by decide +kernel
theorem dX5_told_178 : decode cX5_told 178 = .ok (.aload_n 0, 1) := by decide +kernel
theorem dX5_told_179 : decode cX5_told 179 = .ok (.getfield 44, 3) := by decide +kernel
theorem dX5_told_182 : decode cX5_told 182 = .ok (.ireturn, 1) := by decide +kernel
theorem dX5_told_183 : decode cX5_told 183 = .ok (.aload_n 0, 1) := by decide +kernel
theorem dX5_told_184 : decode cX5_told 184 = .ok (.getfield 48, 3) := by decide +kernel
theorem dX5_told_187 : decode cX5_told 187 = .ok (.ireturn, 1) := by decide +kernel
theorem dX5_told_188 : decode cX5_told 188 = .ok (.aload_n 0, 1) := by decide +kernel
theorem dX5_told_189 : decode cX5_told 189 = .ok (.getfield 79, 3) := by decide +kernel
theorem dX5_told_192 : decode cX5_told 192 = .ok (.ireturn, 1) := by decide +kernel
theorem dX5_told_193 : decode cX5_told 193 = .ok (.aload_n 0, 1) := by decide +kernel
theorem dX5_told_194 : decode cX5_told 194 = .ok (.getfield 189, 3) := by decide +kernel
theorem dX5_told_197 : decode cX5_told 197 = .ok (.ireturn, 1) := by decide +kernel
theorem dX5_told_198 : decode cX5_told 198 = .ok (.bipush (-2), 2) := by decide +kernel
theorem dX5_told_200 : decode cX5_told 200 = .ok (.ireturn, 1) := by decide +kernel
theorem dJ6_bitCount_0f7a4_0 : decode cJ6_bitCount_0f7a4 0 = .ok (.iload_n 0, 1) := by decide +kernel
theorem dJ6_bitCount_0f7a4_1 : decode cJ6_bitCount_0f7a4 1 = .ok (.iload_n 0, 1) := by decide +kernel
theorem dJ6_bitCount_0f7a4_2 : decode cJ6_bitCount_0f7a4 2 = .ok (.iconst 1, 1) := by decide +kernel
theorem dJ6_bitCount_0f7a4_3 : decode cJ6_bitCount_0f7a4 3 = .ok (.iushr, 1) := by decide +kernel
theorem dJ6_bitCount_0f7a4_4 : decode cJ6_bitCount_0f7a4 4 = .ok (.ldc_w 265, 3) := by decide +kernel
theorem dJ6_bitCount_0f7a4_7 : decode cJ6_bitCount_0f7a4 7 = .ok (.iand, 1) := by decide +kernel
theorem dJ6_bitCount_0f7a4_8 : decode cJ6_bitCount_0f7a4 8 = .ok (.isub, 1) := by decide +kernel
theorem dJ6_bitCount_0f7a4_9 : decode cJ6_bitCount_0f7a4 9 = .ok (.istore_n 0, 1) := by decide +kernel
theorem dJ6_bitCount_0f7a4_10 : decode cJ6_bitCount_0f7a4 10 = .ok (.iload_n 0, 1) := by decide +kernel
theorem dJ6_bitCount_0f7a4_11 : decode cJ6_bitCount_0f7a4 11 = .ok (.ldc_w 266, 3) := by decide +kernel
theorem dJ6_bitCount_0f7a4_14 : decode cJ6_bitCount_0f7a4 14 = .ok (.iand, 1) := by decide +kernel
theorem dJ6_bitCount_0f7a4_15 : decode cJ6_bitCount_0f7a4 15 = .ok (.iload_n 0, 1) := by decide +kernel
theorem dJ6_bitCount_0f7a4_16 : decode cJ6_bitCount_0f7a4 16 = .ok (.iconst 2, 1) := by decide +kernel
theorem dJ6_bitCount_0f7a4_17 : decode cJ6_bitCount_0f7a4 17 = .ok (.iushr, 1) := by decide +kernel
theorem dJ6_bitCount_0f7a4_18 : decode cJ6_bitCount_0f7a4 18 = .ok (.ldc_w 266, 3) := by decide +kernel
theorem dJ6_bitCount_0f7a4_21 : decode cJ6_bitCount_0f7a4 21 = .ok (.iand, 1) := by decide +kernel
theorem dJ6_bitCount_0f7a4_22 : decode cJ6_bitCount_0f7a4 22 = .ok (.iadd, 1) := by decide +kernel
theorem dJ6_bitCount_0f7a4_23 : decode cJ6_bitCount_0f7a4 23 = .ok (.istore_n 0, 1) := by decide +kernel
theorem dJ6_bitCount_0f7a4_24 : decode cJ6_bitCount_0f7a4 24 = .ok (.iload_n 0, 1) := by decide +kernel
theorem dJ6_bitCount_0f7a4_25 : decode cJ6_bitCount_0f7a4 25 = .ok (.iload_n 0, 1) := by decide +kernel
theorem dJ6_bitCount_0f7a4_26 : decode cJ6_bitCount_0f7a4 26 = .ok (.iconst 4, 1) := by decide +kernel
theorem dJ6_bitCount_0f7a4_27 : decode cJ6_bitCount_0f7a4 27 = .ok (.iushr, 1) := by decide +kernel
theorem dJ6_bitCount_0f7a4_28 : decode cJ6_bitCount_0f7a4 28 = .ok (.iadd, 1) := by decide +kernel
theorem dJ6_bitCount_0f7a4_29 : decode cJ6_bitCount_0f7a4 29 = .ok (.ldc_w 267, 3) := by decide +kernel
theorem dJ6_bitCount_0f7a4_32 : decode cJ6_bitCount_0f7a4 32 = .ok (.iand, 1) := by decide +kernel
theorem dJ6_bitCount_0f7a4_33 : decode cJ6_bitCount_0f7a4 33 = .ok (.istore_n 0, 1) := by decide +kernel
theorem dJ6_bitCount_0f7a4_34 : decode cJ6_bitCount_0f7a4 34 = .ok (.iload_n 0, 1) := by decide +kernel
theorem dJ6_bitCount_0f7a4_35 : decode cJ6_bitCount_0f7a4 35 = .ok (.iload_n 0, 1) := by decide +kernel
theorem dJ6_bitCount_0f7a4_36 : decode cJ6_bitCount_0f7a4 36 = .ok (.bipush 8, 2) := by decide +kernel
theorem dJ6_bitCount_0f7a4_38 : decode cJ6_bitCount_0f7a4 38 = .ok (.iushr, 1) := by decide +kernel
theorem dJ6_bitCount_0f7a4_39 : decode cJ6_bitCount_0f7a4 39 = .ok (.iadd, 1) := by decide +kernel
theorem dJ6_bitCount_0f7a4_40 : decode cJ6_bitCount_0f7a4 40 = .ok (.istore_n 0, 1) := by decide +kernel
theorem dJ6_bitCount_0f7a4_41 : decode cJ6_bitCount_0f7a4 41 = .ok (.iload_n 0, 1) := by decide +kernel
theorem dJ6_bitCount_0f7a4_42 : decode cJ6_bitCount_0f7a4 42 = .ok (.iload_n 0, 1) := by decide +kernel
theorem dJ6_bitCount_0f7a4_43 : decode cJ6_bitCount_0f7a4 43 = .ok (.bipush 16, 2) := by decide +kernel
theorem dJ6_bitCount_0f7a4_45 : decode cJ6_bitCount_0f7a4 45 = .ok (.iushr, 1) := by decide +kernel
theorem dJ6_bitCount_0f7a4_46 : decode cJ6_bitCount_0f7a4 46 = .ok (.iadd, 1) := by decide +kernel
theorem dJ6_bitCount_0f7a4_47 : decode cJ6_bitCount_0f7a4 47 = .ok (.istore_n 0, 1) := by decide +kernel
theorem dJ6_bitCount_0f7a4_48 : decode cJ6_bitCount_0f7a4 48 = .ok (.iload_n 0, 1) := by decide +kernel
theorem dJ6_bitCount_0f7a4_49 : decode cJ6_bitCount_0f7a4 49 = .ok (.bipush 63, 2) := by decide +kernel
theorem dJ6_bitCount_0f7a4_51 : decode cJ6_bitCount_0f7a4 51 = .ok (.iand, 1) := by decide +kernel
theorem dJ6_bitCount_0f7a4_52 : decode cJ6_bitCount_0f7a4 52 = .ok (.ireturn, 1) := by decide +kernel
theorem dJ9_abs_0f7a4_0 : decode cJ9_abs_0f7a4 0 = .ok (.iload_n 0, 1) := by decide +kernel
theorem dJ9_abs_0f7a4_1 : decode cJ9_abs_0f7a4 1 = .ok (.ifCond .ge 8, 3) := by decide +kernel
theorem dJ9_abs_0f7a4_4 : decode cJ9_abs_0f7a4 4 = .ok (.iload_n 0, 1) := by decide +kernel
theorem dJ9_abs_0f7a4_5 : decode cJ9_abs_0f7a4 5 = .ok (.ineg, 1) := by decide +kernel
theorem dJ9_abs_0f7a4_6 : decode cJ9_abs_0f7a4 6 = .ok (.goto 4, 3) := by decide +kernel
theorem dJ9_abs_0f7a4_9 : decode cJ9_abs_0f7a4 9 = .ok (.iload_n 0, 1) := by decide +kernel
theorem dJ9_abs_0f7a4_10 : decode cJ9_abs_0f7a4 10 = .ok (.ireturn, 1) := by decide +kernel
theorem dJ9_max_7cf53_0 : decode cJ9_max_7cf53 0 = .ok (.iload_n 0, 1) := by decide +kernel
theorem dJ9_max_7cf53_1 : decode cJ9_max_7cf53 1 = .ok (.iload_n 1, 1) := by decide +kernel
theorem dJ9_max_7cf53_2 : decode cJ9_max_7cf53 2 = .ok (.if_icmp .lt 7, 3) := by decide +kernel
theorem dJ9_max_7cf53_5 : decode cJ9_max_7cf53 5 = .ok (.iload_n 0, 1) := by decide +kernel
theorem dJ9_max_7cf53_6 : decode cJ9_max_7cf53 6 = .ok (.goto 4, 3) := by decide +kernel
theorem dJ9_max_7cf53_9 : decode cJ9_max_7cf53 9 = .ok (.iload_n 1, 1) := by decide +kernel
theorem dJ9_max_7cf53_10 : decode cJ9_max_7cf53 10 = .ok (.ireturn, 1) := by decide +kernel
theorem dJ9_min_7cf53_0 : decode cJ9_min_7cf53 0 = .ok (.iload_n 0, 1) := by decide +kernel
theorem dJ9_min_7cf53_1 : decode cJ9_min_7cf53 1 = .ok (.iload_n 1, 1) := by decide +kernel
theorem dJ9_min_7cf53_2 : decode cJ9_min_7cf53 2 = .ok (.if_icmp .gt 7, 3) := by decide +kernel
theorem dJ9_min_7cf53_5 : decode cJ9_min_7cf53 5 = .ok (.iload_n 0, 1) := by decide +kernel
theorem dJ9_min_7cf53_6 : decode cJ9_min_7cf53 6 = .ok (.goto 4, 3) := by decide +kernel
theorem dJ9_min_7cf53_9 : decode cJ9_min_7cf53 9 = .ok (.iload_n 1, 1) := by decide +kernel
theorem dJ9_min_7cf53_10 : decode cJ9_min_7cf53 10 = .ok (.ireturn, 1) := by decide +kernel
theorem dJ7_fill_53178_0 : decode cJ7_fill_53178 0 = .ok (.iconst 0, 1) := by decide +kernel
theorem dJ7_fill_53178_1 : decode cJ7_fill_53178 1 = .ok (.istore_n 2, 1) := by decide +kernel
theorem dJ7_fill_53178_2 : decode cJ7_fill_53178 2 = .ok (.aload_n 0, 1) := by decide +kernel
theorem dJ7_fill_53178_3 : decode cJ7_fill_53178 3 = .ok (.arraylength, 1) := by decide +kernel
theorem dJ7_fill_53178_4 : decode cJ7_fill_53178 4 = .ok (.istore_n 3, 1) := by decide +kernel
theorem dJ7_fill_53178_5 : decode cJ7_fill_53178 5 = .ok (.iload_n 2, 1) := by decide +kernel
theorem dJ7_fill_53178_6 : decode cJ7_fill_53178 6 = .ok (.iload_n 3, 1) := by decide +kernel
theorem dJ7_fill_53178_7 : decode cJ7_fill_53178 7 = .ok (.if_icmp .ge 13, 3) := by decide +kernel
theorem dJ7_fill_53178_10 : decode cJ7_fill_53178 10 = .ok (.aload_n 0, 1) := by decide +kernel
theorem dJ7_fill_53178_11 : decode cJ7_fill_53178 11 = .ok (.iload_n 2, 1) := by decide +kernel
theorem dJ7_fill_53178_12 : decode cJ7_fill_53178 12 = .ok (.iload_n 1, 1) := by decide +kernel
theorem dJ7_fill_53178_13 : decode cJ7_fill_53178 13 = .ok (.iastore, 1) := by decide +kernel
theorem dJ7_fill_53178_14 : decode cJ7_fill_53178 14 = .ok (.iinc 2 1, 3) := by decide +kernel
theorem dJ7_fill_53178_17 : decode cJ7_fill_53178 17 = .ok (.goto (-12), 3) := by decide +kernel
theorem dJ7_fill_53178_20 : decode cJ7_fill_53178 20 = .ok (.return_, 1) := by decide +kernel
