theorem dX3_weighRow_278 : decode cX3_weighRow 278 = .ok (.sipush 2000, 3) := by decide +kernel
theorem dX3_weighRow_281 : decode cX3_weighRow 281 = .ok (.iload_n 1, 1) := by decide +kernel
theorem dX3_weighRow_282 : decode cX3_weighRow 282 = .ok (.iadd, 1) := by decide +kernel
theorem dX3_weighRow_283 : decode cX3_weighRow 283 = .ok (.iload 10, 2) := by decide +kernel
theorem dX3_weighRow_285 : decode cX3_weighRow 285 = .ok (.iconst 2, 1) := by decide +kernel
theorem dX3_weighRow_286 : decode cX3_weighRow 286 = .ok (.iload_n 2, 1) := by decide +kernel
theorem dX3_weighRow_287 : decode cX3_weighRow 287 = .ok (.iload_n 3, 1) := by decide +kernel
theorem dX3_weighRow_288 : decode cX3_weighRow 288 = .ok (.invokestatic 69, 3) := by decide +kernel
theorem dX3_weighRow_291 : decode cX3_weighRow 291 = .ok (.invokevirtual 82, 3) := by decide +kernel
theorem dX3_weighRow_294 : decode cX3_weighRow 294 = .ok (.return_, 1) := by decide +kernel
theorem dX3_keep_0 : decode cX3_keep 0 = .ok (.aload_n 0, 1) := by decide +kernel
theorem dX3_keep_1 : decode cX3_keep 1 = .ok (.getfield 18, 3) := by decide +kernel
theorem dX3_keep_4 : decode cX3_keep 4 = .ok (.iload_n 1, 1) := by decide +kernel
theorem dX3_keep_5 : decode cX3_keep 5 = .ok (.iload_n 2, 1) := by decide +kernel
theorem dX3_keep_6 : decode cX3_keep 6 = .ok (.iastore, 1) := by decide +kernel
theorem dX3_keep_7 : decode cX3_keep 7 = .ok (.aload_n 0, 1) := by decide +kernel
theorem dX3_keep_8 : decode cX3_keep 8 = .ok (.getfield 21, 3) := by decide +kernel
theorem dX3_keep_11 : decode cX3_keep 11 = .ok (.iload_n 3, 1) := by decide +kernel
theorem dX3_keep_12 : decode cX3_keep 12 = .ok (.aload_n 0, 1) := by decide +kernel
theorem dX3_keep_13 : decode cX3_keep 13 = .ok (.getfield 21, 3) := by decide +kernel
theorem dX3_keep_16 : decode cX3_keep 16 = .ok (.iload_n 3, 1) := by decide +kernel
theorem dX3_keep_17 : decode cX3_keep 17 = .ok (.iaload, 1) := by decide +kernel
theorem dX3_keep_18 : decode cX3_keep 18 = .ok (.iload_n 2, 1) := by decide +kernel
theorem dX3_keep_19 : decode cX3_keep 19 = .ok (.invokestatic 86, 3) := by decide +kernel
theorem dX3_keep_22 : decode cX3_keep 22 = .ok (.iastore, 1) := by decide +kernel
theorem dX3_keep_23 : decode cX3_keep 23 = .ok (.return_, 1) := by decide +kernel
set_option maxRecDepth 20000 in
theorem ggX3_isRest_X3_pair : GoodIn wsX3_isRest wsX3_pair := goodIn_r _ [6] (by decide +kernel) (by decide +kernel)
set_option maxRecDepth 20000 in
theorem gX3_isRest_X3_pair : GoodIn wsX3_isRest (va_wsS RX3 69 yX3_pair wsX3_pair) := goodIn_app (goodIn_of _ (by decide +kernel)) ggX3_isRest_X3_pair
theorem dX3_isRest_0 : decode cX3_isRest 0 = .ok (.iload_n 1, 1) := by decide +kernel
theorem dX3_isRest_1 : decode cX3_isRest 1 = .ok (.bipush 100, 2) := by decide +kernel
theorem dX3_isRest_3 : decode cX3_isRest 3 = .ok (.idiv, 1) := by decide +kernel
theorem dX3_isRest_4 : decode cX3_isRest 4 = .ok (.istore_n 2, 1) := by decide +kernel
theorem dX3_isRest_5 : decode cX3_isRest 5 = .ok (.iload_n 1, 1) := by decide +kernel
theorem dX3_isRest_6 : decode cX3_isRest 6 = .ok (.bipush 10, 2) := by decide +kernel
theorem dX3_isRest_8 : decode cX3_isRest 8 = .ok (.idiv, 1) := by decide +kernel
theorem dX3_isRest_9 : decode cX3_isRest 9 = .ok (.bipush 10, 2) := by decide +kernel
theorem dX3_isRest_11 : decode cX3_isRest 11 = .ok (.irem, 1) := by decide +kernel
theorem dX3_isRest_12 : decode cX3_isRest 12 = .ok (.istore_n 3, 1) := by decide +kernel
theorem dX3_isRest_13 : decode cX3_isRest 13 = .ok (.iload_n 1, 1) := by decide +kernel
theorem dX3_isRest_14 : decode cX3_isRest 14 = .ok (.bipush 10, 2) := by decide +kernel
theorem dX3_isRest_16 : decode cX3_isRest 16 = .ok (.irem, 1) := by decide +kernel
theorem dX3_isRest_17 : decode cX3_isRest 17 = .ok (.istore 4, 2) := by decide +kernel
theorem dX3_isRest_19 : decode cX3_isRest 19 = .ok (.aload_n 0, 1) := by decide +kernel
theorem dX3_isRest_20 : decode cX3_isRest 20 = .ok (.getfield 18, 3) := by decide +kernel
theorem dX3_isRest_23 : decode cX3_isRest 23 = .ok (.iload_n 1, 1) := by decide +kernel
theorem dX3_isRest_24 : decode cX3_isRest 24 = .ok (.iaload, 1) := by decide +kernel
theorem dX3_isRest_25 : decode cX3_isRest 25 = .ok (.aload_n 0, 1) := by decide +kernel
theorem dX3_isRest_26 : decode cX3_isRest 26 = .ok (.getfield 21, 3) := by decide +kernel
theorem dX3_isRest_29 : decode cX3_isRest 29 = .ok (.iconst 0, 1) := by decide +kernel
theorem dX3_isRest_30 : decode cX3_isRest 30 = .ok (.iload_n 3, 1) := by decide +kernel
theorem dX3_isRest_31 : decode cX3_isRest 31 = .ok (.iload 4, 2) := by decide +kernel
theorem dX3_isRest_33 : decode cX3_isRest 33 = .ok (.invokestatic 69, 3) := by decide +kernel
theorem dX3_isRest_36 : decode cX3_isRest 36 = .ok (.iaload, 1) := by decide +kernel
theorem dX3_isRest_37 : decode cX3_isRest 37 = .ok (.if_icmp .ne 56, 3) := by decide +kernel
theorem dX3_isRest_40 : decode cX3_isRest 40 = .ok (.aload_n 0, 1) := by decide +kernel
theorem dX3_isRest_41 : decode cX3_isRest 41 = .ok (.getfield 18, 3) := by decide +kernel
theorem dX3_isRest_44 : decode cX3_isRest 44 = .ok (.sipush 1000, 3) := by decide +kernel
theorem dX3_isRest_47 : decode cX3_isRest 47 = .ok (.iload_n 1, 1) := by decide +kernel
theorem dX3_isRest_48 : decode cX3_isRest 48 = .ok (.iadd, 1) := by decide +kernel
theorem dX3_isRest_49 : decode cX3_isRest 49 = .ok (.iaload, 1) := by decide +kernel
theorem dX3_isRest_50 : decode cX3_isRest 50 = .ok (.aload_n 0, 1) := by decide +kernel
theorem dX3_isRest_51 : decode cX3_isRest 51 = .ok (.getfield 21, 3) := by decide +kernel
theorem dX3_isRest_54 : decode cX3_isRest 54 = .ok (.iconst 1, 1) := by decide +kernel
theorem dX3_isRest_55 : decode cX3_isRest 55 = .ok (.iload_n 2, 1) := by decide +kernel
theorem dX3_isRest_56 : decode cX3_isRest 56 = .ok (.iload 4, 2) := by decide +kernel
theorem dX3_isRest_58 : decode cX3_isRest 58 = .ok (.invokestatic 69, 3) := by decide +kernel
theorem dX3_isRest_61 : decode cX3_isRest 61 = .ok (.iaload, 1) := by decide +kernel
theorem dX3_isRest_62 : decode cX3_isRest 62 = .ok (.if_icmp .ne 31, 3) := by decide +kernel
theorem dX3_isRest_65 : decode cX3_isRest 65 = .ok (.aload_n 0, 1) := by decide +kernel
theorem dX3_isRest_66 : decode cX3_isRest 66 = .ok (.getfield 18, 3) := by decide +kernel
theorem dX3_isRest_69 : decode cX3_isRest 69 = .ok (.sipush 2000, 3) := by decide +kernel
theorem dX3_isRest_72 : decode cX3_isRest 72 = .ok (.iload_n 1, 1) := by decide +kernel
theorem dX3_isRest_73 : decode cX3_isRest 73 = .ok (.iadd, 1) := by decide +kernel
theorem dX3_isRest_74 : decode cX3_isRest 74 = .ok (.iaload, 1) := by decide +kernel
theorem dX3_isRest_75 : decode cX3_isRest 75 = .ok (.aload_n 0, 1) := by decide +kernel
theorem dX3_isRest_76 : decode cX3_isRest 76 = .ok (.getfield 21, 3) := by decide +kernel
theorem dX3_isRest_79 : decode cX3_isRest 79 = .ok (.iconst 2, 1) := by decide +kernel
theorem dX3_isRest_80 : decode cX3_isRest 80 = .ok (.iload_n 2, 1) := by decide +kernel
theorem dX3_isRest_81 : decode cX3_isRest 81 = .ok (.iload_n 3, 1) := by decide +kernel
theorem dX3_isRest_82 : decode cX3_isRest 82 = .ok (.invokestatic 69, 3) := by decide +kernel
theorem dX3_isRest_85 : decode cX3_isRest 85 = .ok (.iaload, 1) := by decide +kernel
theorem dX3_isRest_86 : decode cX3_isRest 86 = .ok (.if_icmp .ne 7, 3) := by decide +kernel
theorem dX3_isRest_89 : decode cX3_isRest 89 = .ok (.iconst 1, 1) := by decide +kernel
theorem dX3_isRest_90 : decode cX3_isRest 90 = .ok (.goto 4, 3) := by decide +kernel
theorem dX3_isRest_93 : decode cX3_isRest 93 = .ok (.iconst 0, 1) := by decide +kernel
theorem dX3_isRest_94 : decode cX3_isRest 94 = .ok (.ireturn, 1) := by decide +kernel
set_option maxRecDepth 20000 in
theorem ggX3_howMany_X3_isRest : GoodIn wsX3_howMany wsX3_isRest := goodIn_r _ [6, 7, 8, 9, 10, 5, 11, 12, 13, 14, 15, 16] (by decide +kernel) (by decide +kernel)
set_option maxRecDepth 20000 in
theorem gX3_howMany_X3_isRest : GoodIn wsX3_howMany (wsV RX3 89 RX3 yX3_isRest wsX3_isRest) := goodIn_app (goodIn_of _ (by decide +kernel)) ggX3_howMany_X3_isRest
theorem dX3_howMany_0 : decode cX3_howMany 0 = .ok (.iconst 0, 1) := by decide +kernel
theorem dX3_howMany_1 : decode cX3_howMany 1 = .ok (.istore_n 1, 1) := by decide +kernel
theorem dX3_howMany_2 : decode cX3_howMany 2 = .ok (.iconst 0, 1) := by decide +kernel
theorem dX3_howMany_3 : decode cX3_howMany 3 = .ok (.istore_n 2, 1) := by decide +kernel
theorem dX3_howMany_4 : decode cX3_howMany 4 = .ok (.iload_n 2, 1) := by decide +kernel
theorem dX3_howMany_5 : decode cX3_howMany 5 = .ok (.aload_n 0, 1) := by decide +kernel
theorem dX3_howMany_6 : decode cX3_howMany 6 = .ok (.getfield 43, 3) := by decide +kernel
theorem dX3_howMany_9 : decode cX3_howMany 9 = .ok (.if_icmp .ge 32, 3) := by decide +kernel
theorem dX3_howMany_12 : decode cX3_howMany 12 = .ok (.iload_n 2, 1) := by decide +kernel
theorem dX3_howMany_13 : decode cX3_howMany 13 = .ok (.sipush 1000, 3) := by decide +kernel
theorem dX3_howMany_16 : decode cX3_howMany 16 = .ok (.if_icmp .ge 25, 3) := by decide +kernel
theorem dX3_howMany_19 : decode cX3_howMany 19 = .ok (.iload_n 1, 1) := by decide +kernel
theorem dX3_howMany_20 : decode cX3_howMany 20 = .ok (.aload_n 0, 1) := by decide +kernel
theorem dX3_howMany_21 : decode cX3_howMany 21 = .ok (.iload_n 2, 1) := by decide +kernel
theorem dX3_howMany_22 : decode cX3_howMany 22 = .ok (.invokevirtual 89, 3) := by decide +kernel
theorem dX3_howMany_25 : decode cX3_howMany 25 = .ok (.ifCond .eq 7, 3) := by decide +kernel
theorem dX3_howMany_28 : decode cX3_howMany 28 = .ok (.iconst 1, 1) := by decide +kernel
theorem dX3_howMany_29 : decode cX3_howMany 29 = .ok (.goto 4, 3) := by decide +kernel
theorem dX3_howMany_32 : decode cX3_howMany 32 = .ok (.iconst 0, 1) := by decide +kernel
theorem dX3_howMany_33 : decode cX3_howMany 33 = .ok (.iadd, 1) := by decide +kernel
theorem dX3_howMany_34 : decode cX3_howMany 34 = .ok (.istore_n 1, 1) := by decide +kernel
theorem dX3_howMany_35 : decode cX3_howMany 35 = .ok (.iinc 2 1, 3) := by decide +kernel
theorem dX3_howMany_38 : decode cX3_howMany 38 = .ok (.goto (-34), 3) := by decide +kernel
theorem dX3_howMany_41 : decode cX3_howMany 41 = .ok (.iload_n 1, 1) := by decide +kernel
theorem dX3_howMany_42 : decode cX3_howMany 42 = .ok (.ireturn, 1) := by decide +kernel
set_option maxRecDepth 20000 in
theorem ggX3_row_X3_isRest : GoodIn wsX3_row wsX3_isRest := goodIn_r _ [6, 7, 8, 9, 10, 5, 11, 12, 13, 14, 15, 16] (by decide +kernel) (by decide +kernel)
set_option maxRecDepth 20000 in
theorem gX3_row_X3_isRest : GoodIn wsX3_row (wsV RX3 89 RX3 yX3_isRest wsX3_isRest) := goodIn_app (goodIn_of _ (by decide +kernel)) ggX3_row_X3_isRest
theorem dX3_row_0 : decode cX3_row 0 = .ok (.iconst 0, 1) := by decide +kernel
theorem dX3_row_1 : decode cX3_row 1 = .ok (.istore_n 2, 1) := by decide +kernel
theorem dX3_row_2 : decode cX3_row 2 = .ok (.iconst 0, 1) := by decide +kernel
theorem dX3_row_3 : decode cX3_row 3 = .ok (.istore_n 3, 1) := by decide +kernel
theorem dX3_row_4 : decode cX3_row 4 = .ok (.iload_n 3, 1) := by decide +kernel
theorem dX3_row_5 : decode cX3_row 5 = .ok (.aload_n 0, 1) := by decide +kernel
theorem dX3_row_6 : decode cX3_row 6 = .ok (.getfield 43, 3) := by decide +kernel
theorem dX3_row_9 : decode cX3_row 9 = .ok (.if_icmp .ge 34, 3) := by decide +kernel
theorem dX3_row_12 : decode cX3_row 12 = .ok (.iload_n 3, 1) := by decide +kernel
theorem dX3_row_13 : decode cX3_row 13 = .ok (.sipush 1000, 3) := by decide +kernel
theorem dX3_row_16 : decode cX3_row 16 = .ok (.if_icmp .ge 27, 3) := by decide +kernel
theorem dX3_row_19 : decode cX3_row 19 = .ok (.aload_n 0, 1) := by decide +kernel
theorem dX3_row_20 : decode cX3_row 20 = .ok (.iload_n 3, 1) := by decide +kernel
theorem dX3_row_21 : decode cX3_row 21 = .ok (.invokevirtual 89, 3) := by decide +kernel
theorem dX3_row_24 : decode cX3_row 24 = .ok (.ifCond .eq 13, 3) := by decide +kernel
theorem dX3_row_27 : decode cX3_row 27 = .ok (.iload_n 2, 1) := by decide +kernel
theorem dX3_row_28 : decode cX3_row 28 = .ok (.iload_n 1, 1) := by decide +kernel
theorem dX3_row_29 : decode cX3_row 29 = .ok (.if_icmp .ne 5, 3) := by decide +kernel
theorem dX3_row_32 : decode cX3_row 32 = .ok (.iload_n 3, 1) := by decide +kernel
theorem dX3_row_33 : decode cX3_row 33 = .ok (.ireturn, 1) := by decide +kernel
theorem dX3_row_34 : decode cX3_row 34 = .ok (.iinc 2 1, 3) := by decide +kernel
theorem dX3_row_37 : decode cX3_row 37 = .ok (.iinc 3 1, 3) := by decide +kernel
theorem dX3_row_40 : decode cX3_row 40 = .ok (.goto (-36), 3) := by decide +kernel
theorem dX3_row_43 : decode cX3_row 43 = .ok (.bipush (-6), 2) := by decide +kernel
theorem dX3_row_45 : decode cX3_row 45 = .ok (.ireturn, 1) := by decide +kernel
set_option maxRecDepth 20000 in
theorem ggX4_init_X0_init : GoodIn wsX4_init wsX0_init := goodIn_r _ [24, 25, 2, 3, 26, 27, 28, 29, 30, 31, 32, 33, 34, 35, 36, 37, 56, 57, 58, 59, 60, 61, 62, 63, 64, 65, 66, 67] (by decide +kernel) (by decide +kernel)
set_option maxRecDepth 20000 in
theorem gX4_init_X0_init : GoodIn wsX4_init (wsX0_init) := ggX4_init_X0_init
set_option maxRecDepth 20000 in
theorem ggX4_init_X2_init : GoodIn wsX4_init wsX2_init := goodIn_r _ [39, 40, 2, 3, 28, 41, 74, 75] (by decide +kernel) (by decide +kernel)
set_option maxRecDepth 20000 in
theorem gX4_init_X2_init_n25 : GoodIn wsX4_init (wsX2_init) := ggX4_init_X2_init
set_option maxRecDepth 20000 in
theorem ggX4_init_X1_init : GoodIn wsX4_init wsX1_init := goodIn_r _ [43, 44, 2, 3, 45, 5, 6, 46, 28, 47, 48, 23, 24, 25, 26, 27, 29, 30, 31, 32, 33, 34, 35, 36, 37, 56, 57, 58, 59, 60, 61, 62, 63, 64, 65, 66, 67, 76, 77, 78, 79] (by decide +kernel) (by decide +kernel)
set_option maxRecDepth 20000 in
theorem gX4_init_X1_init_n32 : GoodIn wsX4_init (wsX1_init) := ggX4_init_X1_init
set_option maxRecDepth 20000 in
theorem ggX4_init_X3_init : GoodIn wsX4_init wsX3_init := goodIn_r _ [50, 51, 2, 3, 28, 52, 53, 54, 55, 80, 81, 82, 83, 84] (by decide +kernel) (by decide +kernel)
set_option maxRecDepth 20000 in
theorem gX4_init_X3_init_n39 : GoodIn wsX4_init (wsX3_init) := ggX4_init_X3_init
theorem dX4_init_0 : decode cX4_init 0 = .ok (.aload_n 0, 1) := by decide +kernel
theorem dX4_init_1 : decode cX4_init 1 = .ok (.invokespecial 1, 3) := by decide +kernel
theorem dX4_init_4 : decode cX4_init 4 = .ok (.aload_n 0, 1) := by decide +kernel
theorem dX4_init_5 : decode cX4_init 5 = .ok (.new 7, 3) := by decide +kernel
theorem dX4_init_8 : decode cX4_init 8 = .ok (.dup, 1) := by decide +kernel
theorem dX4_init_9 : decode cX4_init 9 = .ok (.invokespecial 9, 3) := by decide +kernel
theorem dX4_init_12 : decode cX4_init 12 = .ok (.putfield 10, 3) := by decide +kernel
theorem dX4_init_15 : decode cX4_init 15 = .ok (.aload_n 0, 1) := by decide +kernel
theorem dX4_init_16 : decode cX4_init 16 = .ok (.new 7, 3) := by decide +kernel
theorem dX4_init_19 : decode cX4_init 19 = .ok (.dup, 1) := by decide +kernel
theorem dX4_init_20 : decode cX4_init 20 = .ok (.invokespecial 9, 3) := by decide +kernel
theorem dX4_init_23 : decode cX4_init 23 = .ok (.putfield 16, 3) := by decide +kernel
theorem dX4_init_26 : decode cX4_init 26 = .ok (.aload_n 0, 1) := by decide +kernel
theorem dX4_init_27 : decode cX4_init 27 = .ok (.iconst 2, 1) := by decide +kernel
theorem dX4_init_28 : decode cX4_init 28 = .ok (.anewarray 7, 3) := by decide +kernel
theorem dX4_init_31 : decode cX4_init 31 = .ok (.putfield 19, 3) := by decide +kernel
theorem dX4_init_34 : decode cX4_init 34 = .ok (.aload_n 0, 1) := by decide +kernel
theorem dX4_init_35 : decode cX4_init 35 = .ok (.new 23, 3) := by decide +kernel
theorem dX4_init_38 : decode cX4_init 38 = .ok (.dup, 1) := by decide +kernel
theorem dX4_init_39 : decode cX4_init 39 = .ok (.invokespecial 25, 3) := by decide +kernel
theorem dX4_init_42 : decode cX4_init 42 = .ok (.putfield 26, 3) := by decide +kernel
theorem dX4_init_45 : decode cX4_init 45 = .ok (.aload_n 0, 1) := by decide +kernel
theorem dX4_init_46 : decode cX4_init 46 = .ok (.new 30, 3) := by decide +kernel
theorem dX4_init_49 : decode cX4_init 49 = .ok (.dup, 1) := by decide +kernel
theorem dX4_init_50 : decode cX4_init 50 = .ok (.invokespecial 32, 3) := by decide +kernel
theorem dX4_init_53 : decode cX4_init 53 = .ok (.putfield 33, 3) := by decide +kernel
theorem dX4_init_56 : decode cX4_init 56 = .ok (.aload_n 0, 1) := by decide +kernel
theorem dX4_init_57 : decode cX4_init 57 = .ok (.new 37, 3) := by decide +kernel
theorem dX4_init_60 : decode cX4_init 60 = .ok (.dup, 1) := by decide +kernel
theorem dX4_init_61 : decode cX4_init 61 = .ok (.invokespecial 39, 3) := by decide +kernel
theorem dX4_init_64 : decode cX4_init 64 = .ok (.putfield 40, 3) := by decide +kernel
theorem dX4_init_67 : decode cX4_init 67 = .ok (.return_, 1) := by decide +kernel
set_option maxRecDepth 20000 in
theorem ggX4_stand_X4_within : GoodIn wsX4_stand wsX4_within := goodIn_r _ [8] (by decide +kernel) (by decide +kernel)
set_option maxRecDepth 20000 in
theorem gX4_stand_X4_within : GoodIn wsX4_stand (va_wsS RX4 44 yX4_within wsX4_within) := goodIn_app (goodIn_of _ (by decide +kernel)) ggX4_stand_X4_within
set_option maxRecDepth 20000 in
theorem ggX4_stand_X4_isPlace : GoodIn wsX4_stand wsX4_isPlace := goodIn_r _ [11, 5, 6, 7, 8] (by decide +kernel) (by decide +kernel)
set_option maxRecDepth 20000 in
theorem gX4_stand_X4_isPlace : GoodIn wsX4_stand (va_wsS RX4 48 yX4_isPlace wsX4_isPlace) := goodIn_app (goodIn_of _ (by decide +kernel)) ggX4_stand_X4_isPlace
set_option maxRecDepth 20000 in
theorem ggX4_stand_X0_put : GoodIn wsX4_stand wsX0_put := goodIn_r _ [16, 17, 18, 6, 7, 8, 35, 36, 37, 38, 39, 40, 41, 42, 43, 44, 45, 46] (by decide +kernel) (by decide +kernel)
set_option maxRecDepth 20000 in
theorem gX4_stand_X0_put : GoodIn wsX4_stand (wsV RX4 52 RX0 yX0_put wsX0_put) := goodIn_app (goodIn_of _ (by decide +kernel)) ggX4_stand_X0_put
set_option maxRecDepth 20000 in
theorem ggX4_stand_X4_withBit : GoodIn wsX4_stand wsX4_withBit := goodIn_r _ [21] (by decide +kernel) (by decide +kernel)
set_option maxRecDepth 20000 in
theorem gX4_stand_X4_withBit : GoodIn wsX4_stand (va_wsS RX4 60 yX4_withBit wsX4_withBit) := goodIn_app (goodIn_of _ (by decide +kernel)) ggX4_stand_X4_withBit
set_option maxRecDepth 20000 in
theorem ggX4_stand_J6_bitCount_0f7a4 : GoodIn wsX4_stand wsJ6_bitCount_0f7a4 := goodIn_r _ [25, 26, 27, 28] (by decide +kernel) (by decide +kernel)
set_option maxRecDepth 20000 in
theorem gX4_stand_J6_bitCount_0f7a4 : GoodIn wsX4_stand (va_wsS RX4 70 yJ6_bitCount_0f7a4 wsJ6_bitCount_0f7a4) := goodIn_app (goodIn_of _ (by decide +kernel)) ggX4_stand_J6_bitCount_0f7a4
theorem dX4_stand_0 : decode cX4_stand 0 = .ok (.iload_n 1, 1) := by decide +kernel
theorem dX4_stand_1 : decode cX4_stand 1 = .ok (.iconst 0, 1) := by decide +kernel
theorem dX4_stand_2 : decode cX4_stand 2 = .ok (.iconst 5, 1) := by decide +kernel
theorem dX4_stand_3 : decode cX4_stand 3 = .ok (.invokestatic 44, 3) := by decide +kernel
theorem dX4_stand_6 : decode cX4_stand 6 = .ok (.ifCond .eq 10, 3) := by decide +kernel
theorem dX4_stand_9 : decode cX4_stand 9 = .ok (.iload_n 2, 1) := by decide +kernel
theorem dX4_stand_10 : decode cX4_stand 10 = .ok (.invokestatic 48, 3) := by decide +kernel
theorem dX4_stand_13 : decode cX4_stand 13 = .ok (.ifCond .ne 5, 3) := by decide +kernel
theorem dX4_stand_16 : decode cX4_stand 16 = .ok (.iconst (-1), 1) := by decide +kernel
theorem dX4_stand_17 : decode cX4_stand 17 = .ok (.ireturn, 1) := by decide +kernel
theorem dX4_stand_18 : decode cX4_stand 18 = .ok (.iload_n 3, 1) := by decide +kernel
theorem dX4_stand_19 : decode cX4_stand 19 = .ok (.iconst 0, 1) := by decide +kernel
theorem dX4_stand_20 : decode cX4_stand 20 = .ok (.bipush 9, 2) := by decide +kernel
theorem dX4_stand_22 : decode cX4_stand 22 = .ok (.invokestatic 44, 3) := by decide +kernel
theorem dX4_stand_25 : decode cX4_stand 25 = .ok (.ifCond .eq 13, 3) := by decide +kernel
theorem dX4_stand_28 : decode cX4_stand 28 = .ok (.iload 4, 2) := by decide +kernel
theorem dX4_stand_30 : decode cX4_stand 30 = .ok (.iconst 0, 1) := by decide +kernel
theorem dX4_stand_31 : decode cX4_stand 31 = .ok (.iconst 1, 1) := by decide +kernel
theorem dX4_stand_32 : decode cX4_stand 32 = .ok (.invokestatic 44, 3) := by decide +kernel
theorem dX4_stand_35 : decode cX4_stand 35 = .ok (.ifCond .ne 6, 3) := by decide +kernel
theorem dX4_stand_38 : decode cX4_stand 38 = .ok (.bipush (-2), 2) := by decide +kernel
theorem dX4_stand_40 : decode cX4_stand 40 = .ok (.ireturn, 1) := by decide +kernel
theorem dX4_stand_41 : decode cX4_stand 41 = .ok (.aload_n 0, 1) := by decide +kernel
theorem dX4_stand_42 : decode cX4_stand 42 = .ok (.getfield 10, 3) := by decide +kernel
theorem dX4_stand_45 : decode cX4_stand 45 = .ok (.iload_n 1, 1) := by decide +kernel
theorem dX4_stand_46 : decode cX4_stand 46 = .ok (.iload_n 2, 1) := by decide +kernel
theorem dX4_stand_47 : decode cX4_stand 47 = .ok (.iload_n 3, 1) := by decide +kernel
theorem dX4_stand_48 : decode cX4_stand 48 = .ok (.invokevirtual 52, 3) := by decide +kernel
theorem dX4_stand_51 : decode cX4_stand 51 = .ok (.aload_n 0, 1) := by decide +kernel
theorem dX4_stand_52 : decode cX4_stand 52 = .ok (.getfield 10, 3) := by decide +kernel
theorem dX4_stand_55 : decode cX4_stand 55 = .ok (.aload_n 0, 1) := by decide +kernel
theorem dX4_stand_56 : decode cX4_stand 56 = .ok (.getfield 10, 3) := by decide +kernel
theorem dX4_stand_59 : decode cX4_stand 59 = .ok (.getfield 56, 3) := by decide +kernel
theorem dX4_stand_62 : decode cX4_stand 62 = .ok (.iload_n 1, 1) := by decide +kernel
theorem dX4_stand_63 : decode cX4_stand 63 = .ok (.iconst 1, 1) := by decide +kernel
theorem dX4_stand_64 : decode cX4_stand 64 = .ok (.invokestatic 60, 3) := by decide +kernel
theorem dX4_stand_67 : decode cX4_stand 67 = .ok (.putfield 56, 3) := by decide +kernel
theorem dX4_stand_70 : decode cX4_stand 70 = .ok (.aload_n 0, 1) := by decide +kernel
theorem dX4_stand_71 : decode cX4_stand 71 = .ok (.getfield 10, 3) := by decide +kernel
theorem dX4_stand_74 : decode cX4_stand 74 = .ok (.aload_n 0, 1) := by decide +kernel
theorem dX4_stand_75 : decode cX4_stand 75 = .ok (.getfield 10, 3) := by decide +kernel
theorem dX4_stand_78 : decode cX4_stand 78 = .ok (.getfield 64, 3) := by decide +kernel
theorem dX4_stand_81 : decode cX4_stand 81 = .ok (.iload_n 1, 1) := by decide +kernel
theorem dX4_stand_82 : decode cX4_stand 82 = .ok (.iload 4, 2) := by decide +kernel
theorem dX4_stand_84 : decode cX4_stand 84 = .ok (.iconst 1, 1) := by decide +kernel
theorem dX4_stand_85 : decode cX4_stand 85 = .ok (.if_icmp .ne 7, 3) := by decide +kernel
theorem dX4_stand_88 : decode cX4_stand 88 = .ok (.iconst 1, 1) := by decide +kernel
theorem dX4_stand_89 : decode cX4_stand 89 = .ok (.goto 4, 3) := by decide +kernel
theorem dX4_stand_92 : decode cX4_stand 92 = .ok (.iconst 0, 1) := by decide +kernel
theorem dX4_stand_93 : decode cX4_stand 93 = .ok (.invokestatic 60, 3) := by decide +kernel
theorem dX4_stand_96 : decode cX4_stand 96 = .ok (.putfield 64, 3) := by decide +kernel
theorem dX4_stand_99 : decode cX4_stand 99 = .ok (.aload_n 0, 1) := by decide +kernel
theorem dX4_stand_100 : decode cX4_stand 100 = .ok (.getfield 10, 3) := by decide +kernel
theorem dX4_stand_103 : decode cX4_stand 103 = .ok (.aload_n 0, 1) := by decide +kernel
theorem dX4_stand_104 : decode cX4_stand 104 = .ok (.getfield 10, 3) := by decide +kernel
theorem dX4_stand_107 : decode cX4_stand 107 = .ok (.getfield 67, 3) := by decide +kernel
theorem dX4_stand_110 : decode cX4_stand 110 = .ok (.iload_n 1, 1) := by decide +kernel
theorem dX4_stand_111 : decode cX4_stand 111 = .ok (.iload 5, 2) := by decide +kernel
theorem dX4_stand_113 : decode cX4_stand 113 = .ok (.invokestatic 60, 3) := by decide +kernel
theorem dX4_stand_116 : decode cX4_stand 116 = .ok (.putfield 67, 3) := by decide +kernel
theorem dX4_stand_119 : decode cX4_stand 119 = .ok (.aload_n 0, 1) := by decide +kernel
theorem dX4_stand_120 : decode cX4_stand 120 = .ok (.getfield 10, 3) := by decide +kernel
theorem dX4_stand_123 : decode cX4_stand 123 = .ok (.getfield 56, 3) := by decide +kernel
theorem dX4_stand_126 : decode cX4_stand 126 = .ok (.invokestatic 70, 3) := by decide +kernel
theorem dX4_stand_129 : decode cX4_stand 129 = .ok (.ireturn, 1) := by decide +kernel
set_option maxRecDepth 20000 in
theorem ggX4_leave_X0_isThere : GoodIn wsX4_leave wsX0_isThere := goodIn_r _ [7, 8, 9, 10, 11, 12, 13, 30, 31, 32, 33, 34, 35, 36, 37, 38, 39, 40, 41] (by decide +kernel) (by decide +kernel)
set_option maxRecDepth 20000 in
theorem gX4_leave_X0_isThere : GoodIn wsX4_leave (wsV RX4 76 RX0 yX0_isThere wsX0_isThere) := goodIn_app (goodIn_of _ (by decide +kernel)) ggX4_leave_X0_isThere
set_option maxRecDepth 20000 in
theorem ggX4_leave_X4_withBit : GoodIn wsX4_leave wsX4_withBit := goodIn_r _ [16] (by decide +kernel) (by decide +kernel)
set_option maxRecDepth 20000 in
theorem gX4_leave_X4_withBit : GoodIn wsX4_leave (va_wsS RX4 60 yX4_withBit wsX4_withBit) := goodIn_app (goodIn_of _ (by decide +kernel)) ggX4_leave_X4_withBit
set_option maxRecDepth 20000 in
theorem ggX4_leave_J6_bitCount_0f7a4 : GoodIn wsX4_leave wsJ6_bitCount_0f7a4 := goodIn_r _ [20, 21, 22, 23] (by decide +kernel) (by decide +kernel)
set_option maxRecDepth 20000 in
theorem gX4_leave_J6_bitCount_0f7a4 : GoodIn wsX4_leave (va_wsS RX4 70 yJ6_bitCount_0f7a4 wsJ6_bitCount_0f7a4) := goodIn_app (goodIn_of _ (by decide +kernel)) ggX4_leave_J6_bitCount_0f7a4
theorem dX4_leave_0 : decode cX4_leave 0 = .ok (.aload_n 0, 1) := by decide +kernel
theorem dX4_leave_1 : decode cX4_leave 1 = .ok (.getfield 10, 3) := by decide +kernel
theorem dX4_leave_4 : decode cX4_leave 4 = .ok (.iload_n 1, 1) := by decide +kernel
theorem dX4_leave_5 : decode cX4_leave 5 = .ok (.invokevirtual 76, 3) := by decide +kernel
theorem dX4_leave_8 : decode cX4_leave 8 = .ok (.ifCond .ne 5, 3) := by decide +kernel
theorem dX4_leave_11 : decode cX4_leave 11 = .ok (.iconst (-1), 1) := by decide +kernel
theorem dX4_leave_12 : decode cX4_leave 12 = .ok (.ireturn, 1) := by decide +kernel
theorem dX4_leave_13 : decode cX4_leave 13 = .ok (.aload_n 0, 1) := by decide +kernel
theorem dX4_leave_14 : decode cX4_leave 14 = .ok (.getfield 10, 3) := by decide +kernel
theorem dX4_leave_17 : decode cX4_leave 17 = .ok (.aload_n 0, 1) := by decide +kernel
theorem dX4_leave_18 : decode cX4_leave 18 = .ok (.getfield 10, 3) := by decide +kernel
theorem dX4_leave_21 : decode cX4_leave 21 = .ok (.getfield 56, 3) := by decide +kernel
theorem dX4_leave_24 : decode cX4_leave 24 = .ok (.iload_n 1, 1) := by decide +kernel
theorem dX4_leave_25 : decode cX4_leave 25 = .ok (.iconst 0, 1) := by decide +kernel
theorem dX4_leave_26 : decode cX4_leave 26 = .ok (.invokestatic 60, 3) := by decide +kernel
theorem dX4_leave_29 : decode cX4_leave 29 = .ok (.putfield 56, 3) := by decide +kernel
theorem dX4_leave_32 : decode cX4_leave 32 = .ok (.aload_n 0, 1) := by decide +kernel
theorem dX4_leave_33 : decode cX4_leave 33 = .ok (.getfield 10, 3) := by decide +kernel
theorem dX4_leave_36 : decode cX4_leave 36 = .ok (.getfield 56, 3) := by decide +kernel
theorem dX4_leave_39 : decode cX4_leave 39 = .ok (.invokestatic 70, 3) := by decide +kernel
theorem dX4_leave_42 : decode cX4_leave 42 = .ok (.ireturn, 1) := by decide +kernel
set_option maxRecDepth 20000 in
theorem ggX4_table_X4_isPlace : GoodIn wsX4_table wsX4_isPlace := goodIn_r _ [6, 7, 8, 5, 9] (by decide +kernel) (by decide +kernel)
set_option maxRecDepth 20000 in
theorem gX4_table_X4_isPlace : GoodIn wsX4_table (va_wsS RX4 48 yX4_isPlace wsX4_isPlace) := goodIn_app (goodIn_of _ (by decide +kernel)) ggX4_table_X4_isPlace
set_option maxRecDepth 20000 in
theorem ggX4_table_X4_withBit : GoodIn wsX4_table wsX4_withBit := goodIn_r _ [12] (by decide +kernel) (by decide +kernel)
set_option maxRecDepth 20000 in
theorem gX4_table_X4_withBit : GoodIn wsX4_table (va_wsS RX4 60 yX4_withBit wsX4_withBit) := goodIn_app (goodIn_of _ (by decide +kernel)) ggX4_table_X4_withBit
theorem dX4_table_0 : decode cX4_table 0 = .ok (.iload_n 1, 1) := by decide +kernel
theorem dX4_table_1 : decode cX4_table 1 = .ok (.invokestatic 48, 3) := by decide +kernel
theorem dX4_table_4 : decode cX4_table 4 = .ok (.ifCond .ne 5, 3) := by decide +kernel
theorem dX4_table_7 : decode cX4_table 7 = .ok (.iconst (-1), 1) := by decide +kernel
theorem dX4_table_8 : decode cX4_table 8 = .ok (.ireturn, 1) := by decide +kernel
theorem dX4_table_9 : decode cX4_table 9 = .ok (.aload_n 0, 1) := by decide +kernel
theorem dX4_table_10 : decode cX4_table 10 = .ok (.getfield 10, 3) := by decide +kernel
theorem dX4_table_13 : decode cX4_table 13 = .ok (.aload_n 0, 1) := by decide +kernel
theorem dX4_table_14 : decode cX4_table 14 = .ok (.getfield 10, 3) := by decide +kernel
theorem dX4_table_17 : decode cX4_table 17 = .ok (.getfield 79, 3) := by decide +kernel
theorem dX4_table_20 : decode cX4_table 20 = .ok (.iload_n 1, 1) := by decide +kernel
theorem dX4_table_21 : decode cX4_table 21 = .ok (.iload_n 2, 1) := by decide +kernel
theorem dX4_table_22 : decode cX4_table 22 = .ok (.invokestatic 60, 3) := by decide +kernel
theorem dX4_table_25 : decode cX4_table 25 = .ok (.putfield 79, 3) := by decide +kernel
theorem dX4_table_28 : decode cX4_table 28 = .ok (.iconst 1, 1) := by decide +kernel
theorem dX4_table_29 : decode cX4_table 29 = .ok (.ireturn, 1) := by decide +kernel
set_option maxRecDepth 20000 in
theorem ggX4_set_X4_within : GoodIn wsX4_set wsX4_within := goodIn_r _ [7] (by decide +kernel) (by decide +kernel)
set_option maxRecDepth 20000 in
theorem gX4_set_X4_within : GoodIn wsX4_set (va_wsS RX4 44 yX4_within wsX4_within) := goodIn_app (goodIn_of _ (by decide +kernel)) ggX4_set_X4_within
theorem dX4_set_0 : decode cX4_set 0 = .ok (.iload_n 1, 1) := by decide +kernel
theorem dX4_set_1 : decode cX4_set 1 = .ok (.ifCond .ne 31, 3) := by decide +kernel
theorem dX4_set_4 : decode cX4_set 4 = .ok (.iload_n 2, 1) := by decide +kernel
theorem dX4_set_5 : decode cX4_set 5 = .ok (.iconst 1, 1) := by decide +kernel
theorem dX4_set_6 : decode cX4_set 6 = .ok (.bipush 9, 2) := by decide +kernel
theorem dX4_set_8 : decode cX4_set 8 = .ok (.invokestatic 44, 3) := by decide +kernel
theorem dX4_set_11 : decode cX4_set 11 = .ok (.ifCond .eq 21, 3) := by decide +kernel
theorem dX4_set_14 : decode cX4_set 14 = .ok (.aload_n 0, 1) := by decide +kernel
theorem dX4_set_15 : decode cX4_set 15 = .ok (.getfield 10, 3) := by decide +kernel
theorem dX4_set_18 : decode cX4_set 18 = .ok (.getfield 82, 3) := by decide +kernel
theorem dX4_set_21 : decode cX4_set 21 = .ok (.istore_n 3, 1) := by decide +kernel
theorem dX4_set_22 : decode cX4_set 22 = .ok (.aload_n 0, 1) := by decide +kernel
theorem dX4_set_23 : decode cX4_set 23 = .ok (.getfield 10, 3) := by decide +kernel
theorem dX4_set_26 : decode cX4_set 26 = .ok (.iload_n 2, 1) := by decide +kernel
theorem dX4_set_27 : decode cX4_set 27 = .ok (.putfield 82, 3) := by decide +kernel
theorem dX4_set_30 : decode cX4_set 30 = .ok (.iload_n 3, 1) := by decide +kernel
theorem dX4_set_31 : decode cX4_set 31 = .ok (.ireturn, 1) := by decide +kernel
theorem dX4_set_32 : decode cX4_set 32 = .ok (.iload_n 1, 1) := by decide +kernel
theorem dX4_set_33 : decode cX4_set 33 = .ok (.iconst 1, 1) := by decide +kernel
theorem dX4_set_34 : decode cX4_set 34 = .ok (.if_icmp .ne 31, 3) := by decide +kernel
theorem dX4_set_37 : decode cX4_set 37 = .ok (.iload_n 2, 1) := by decide +kernel
theorem dX4_set_38 : decode cX4_set 38 = .ok (.iconst 0, 1) := by decide +kernel
theorem dX4_set_39 : decode cX4_set 39 = .ok (.bipush 9, 2) := by decide +kernel
theorem dX4_set_41 : decode cX4_set 41 = .ok (.invokestatic 44, 3) := by decide +kernel
theorem dX4_set_44 : decode cX4_set 44 = .ok (.ifCond .eq 21, 3) := by decide +kernel
theorem dX4_set_47 : decode cX4_set 47 = .ok (.aload_n 0, 1) := by decide +kernel
theorem dX4_set_48 : decode cX4_set 48 = .ok (.getfield 10, 3) := by decide +kernel
theorem dX4_set_51 : decode cX4_set 51 = .ok (.getfield 85, 3) := by decide +kernel
theorem dX4_set_54 : decode cX4_set 54 = .ok (.istore_n 3, 1) := by decide +kernel
theorem dX4_set_55 : decode cX4_set 55 = .ok (.aload_n 0, 1) := by decide +kernel
theorem dX4_set_56 : decode cX4_set 56 = .ok (.getfield 10, 3) := by decide +kernel
theorem dX4_set_59 : decode cX4_set 59 = .ok (.iload_n 2, 1) := by decide +kernel
theorem dX4_set_60 : decode cX4_set 60 = .ok (.putfield 85, 3) := by decide +kernel
theorem dX4_set_63 : decode cX4_set 63 = .ok (.iload_n 3, 1) := by decide +kernel
theorem dX4_set_64 : decode cX4_set 64 = .ok (.ireturn, 1) := by decide +kernel
theorem dX4_set_65 : decode cX4_set 65 = .ok (.bipush (-2), 2) := by decide +kernel
theorem dX4_set_67 : decode cX4_set 67 = .ok (.ireturn, 1) := by decide +kernel
set_option maxRecDepth 20000 in
theorem ggX4_say_X4_within : GoodIn wsX4_say wsX4_within := goodIn_r _ [6] (by decide +kernel) (by decide +kernel)
set_option maxRecDepth 20000 in
theorem gX4_say_X4_within : GoodIn wsX4_say (va_wsS RX4 44 yX4_within wsX4_within) := goodIn_app (goodIn_of _ (by decide +kernel)) ggX4_say_X4_within
set_option maxRecDepth 20000 in
theorem ggX4_say_X2_write : GoodIn wsX4_say wsX2_write := goodIn_r _ [11, 12, 13, 4, 5, 6, 20, 21] (by decide +kernel) (by decide +kernel)
set_option maxRecDepth 20000 in
theorem gX4_say_X2_write : GoodIn wsX4_say (wsV RX4 88 RX2 yX2_write wsX2_write) := goodIn_app (goodIn_of _ (by decide +kernel)) ggX4_say_X2_write
theorem dX4_say_0 : decode cX4_say 0 = .ok (.iload_n 1, 1) := by decide +kernel
theorem dX4_say_1 : decode cX4_say 1 = .ok (.bipush 33, 2) := by decide +kernel
theorem dX4_say_3 : decode cX4_say 3 = .ok (.bipush 126, 2) := by decide +kernel
theorem dX4_say_5 : decode cX4_say 5 = .ok (.invokestatic 44, 3) := by decide +kernel
theorem dX4_say_8 : decode cX4_say 8 = .ok (.ifCond .ne 6, 3) := by decide +kernel
theorem dX4_say_11 : decode cX4_say 11 = .ok (.bipush (-2), 2) := by decide +kernel
theorem dX4_say_13 : decode cX4_say 13 = .ok (.ireturn, 1) := by decide +kernel
theorem dX4_say_14 : decode cX4_say 14 = .ok (.aload_n 0, 1) := by decide +kernel
theorem dX4_say_15 : decode cX4_say 15 = .ok (.getfield 26, 3) := by decide +kernel
theorem dX4_say_18 : decode cX4_say 18 = .ok (.iload_n 1, 1) := by decide +kernel
theorem dX4_say_19 : decode cX4_say 19 = .ok (.invokevirtual 88, 3) := by decide +kernel
theorem dX4_say_22 : decode cX4_say 22 = .ok (.ifCond .eq 13, 3) := by decide +kernel
theorem dX4_say_25 : decode cX4_say 25 = .ok (.aload_n 0, 1) := by decide +kernel
theorem dX4_say_26 : decode cX4_say 26 = .ok (.getfield 26, 3) := by decide +kernel
theorem dX4_say_29 : decode cX4_say 29 = .ok (.getfield 91, 3) := by decide +kernel
theorem dX4_say_32 : decode cX4_say 32 = .ok (.goto 5, 3) := by decide +kernel
theorem dX4_say_35 : decode cX4_say 35 = .ok (.bipush (-4), 2) := by decide +kernel
theorem dX4_say_37 : decode cX4_say 37 = .ok (.ireturn, 1) := by decide +kernel
theorem dX4_wipe_0 : decode cX4_wipe 0 = .ok (.aload_n 0, 1) := by decide +kernel
theorem dX4_wipe_1 : decode cX4_wipe 1 = .ok (.getfield 26, 3) := by decide +kernel
theorem dX4_wipe_4 : decode cX4_wipe 4 = .ok (.getfield 91, 3) := by decide +kernel
theorem dX4_wipe_7 : decode cX4_wipe 7 = .ok (.istore_n 1, 1) := by decide +kernel
theorem dX4_wipe_8 : decode cX4_wipe 8 = .ok (.aload_n 0, 1) := by decide +kernel
theorem dX4_wipe_9 : decode cX4_wipe 9 = .ok (.getfield 26, 3) := by decide +kernel
theorem dX4_wipe_12 : decode cX4_wipe 12 = .ok (.iconst 0, 1) := by decide +kernel
theorem dX4_wipe_13 : decode cX4_wipe 13 = .ok (.putfield 91, 3) := by decide +kernel
theorem dX4_wipe_16 : decode cX4_wipe 16 = .ok (.iload_n 1, 1) := by decide +kernel
theorem dX4_wipe_17 : decode cX4_wipe 17 = .ok (.ireturn, 1) := by decide +kernel
set_option maxRecDepth 20000 in
theorem ggX4_fault_X2_firstFault : GoodIn wsX4_fault wsX2_firstFault := goodIn_r _ [6, 7, 8, 9, 10, 5, 11, 12, 13, 14, 15, 16, 17, 18, 19, 20, 21, 22, 23, 24, 31, 32] (by decide +kernel) (by decide +kernel)
set_option maxRecDepth 20000 in
theorem gX4_fault_X2_firstFault : GoodIn wsX4_fault (wsV RX4 94 RX2 yX2_firstFault wsX2_firstFault) := goodIn_app (goodIn_of _ (by decide +kernel)) ggX4_fault_X2_firstFault
theorem dX4_fault_0 : decode cX4_fault 0 = .ok (.aload_n 0, 1) := by decide +kernel
theorem dX4_fault_1 : decode cX4_fault 1 = .ok (.getfield 26, 3) := by decide +kernel
theorem dX4_fault_4 : decode cX4_fault 4 = .ok (.invokevirtual 94, 3) := by decide +kernel
theorem dX4_fault_7 : decode cX4_fault 7 = .ok (.ireturn, 1) := by decide +kernel
set_option maxRecDepth 20000 in
theorem ggX4_rules_X4_isPlace : GoodIn wsX4_rules wsX4_isPlace := goodIn_r _ [5, 6, 7, 4, 8] (by decide +kernel) (by decide +kernel)
set_option maxRecDepth 20000 in
theorem gX4_rules_X4_isPlace : GoodIn wsX4_rules (va_wsS RX4 48 yX4_isPlace wsX4_isPlace) := goodIn_app (goodIn_of _ (by decide +kernel)) ggX4_rules_X4_isPlace
set_option maxRecDepth 20000 in
theorem ggX4_rules_X4_within : GoodIn wsX4_rules wsX4_within := goodIn_r _ [8] (by decide +kernel) (by decide +kernel)
set_option maxRecDepth 20000 in
theorem gX4_rules_X4_within : GoodIn wsX4_rules (va_wsS RX4 44 yX4_within wsX4_within) := goodIn_app (goodIn_of _ (by decide +kernel)) ggX4_rules_X4_within
set_option maxRecDepth 20000 in
theorem ggX4_rules_X0_rulers : GoodIn wsX4_rules wsX0_rulers := goodIn_r _ [13, 14, 15, 16, 12, 17, 18, 19, 20, 21, 22, 23, 24, 25, 26, 27, 28, 29, 30, 4, 31, 32, 33, 34, 35, 36, 37, 38, 39, 40, 41, 56, 57, 58, 59, 60, 61, 62, 63, 64, 65, 66, 67] (by decide +kernel) (by decide +kernel)
set_option maxRecDepth 20000 in
theorem gX4_rules_X0_rulers : GoodIn wsX4_rules (wsV RX4 98 RX0 yX0_rulers wsX0_rulers) := goodIn_app (goodIn_of _ (by decide +kernel)) ggX4_rules_X0_rulers
set_option maxRecDepth 20000 in
theorem ggX4_rules_X4_firstPerson : GoodIn wsX4_rules wsX4_firstPerson := goodIn_r _ [44, 45, 30, 4, 31] (by decide +kernel) (by decide +kernel)
set_option maxRecDepth 20000 in
theorem gX4_rules_X4_firstPerson : GoodIn wsX4_rules (va_wsS RX4 101 yX4_firstPerson wsX4_firstPerson) := goodIn_app (goodIn_of _ (by decide +kernel)) ggX4_rules_X4_firstPerson
set_option maxRecDepth 20000 in
theorem ggX4_rules_X0_openTime : GoodIn wsX4_rules wsX0_openTime := goodIn_r _ [49, 24, 25, 7, 4, 8, 32, 33, 34, 12, 35, 36, 37, 38, 39, 28, 40, 41, 30, 31, 56, 57, 58, 59, 60, 61, 62, 63, 64, 65, 66, 67] (by decide +kernel) (by decide +kernel)
set_option maxRecDepth 20000 in
theorem gX4_rules_X0_openTime : GoodIn wsX4_rules (wsV RX4 104 RX0 yX0_openTime wsX0_openTime) := goodIn_app (goodIn_of _ (by decide +kernel)) ggX4_rules_X0_openTime
theorem dX4_rules_0 : decode cX4_rules 0 = .ok (.iload_n 1, 1) := by decide +kernel
theorem dX4_rules_1 : decode cX4_rules 1 = .ok (.invokestatic 48, 3) := by decide +kernel
theorem dX4_rules_4 : decode cX4_rules 4 = .ok (.ifCond .ne 5, 3) := by decide +kernel
theorem dX4_rules_7 : decode cX4_rules 7 = .ok (.iconst (-1), 1) := by decide +kernel
theorem dX4_rules_8 : decode cX4_rules 8 = .ok (.ireturn, 1) := by decide +kernel
theorem dX4_rules_9 : decode cX4_rules 9 = .ok (.iload_n 2, 1) := by decide +kernel
theorem dX4_rules_10 : decode cX4_rules 10 = .ok (.iconst 0, 1) := by decide +kernel
theorem dX4_rules_11 : decode cX4_rules 11 = .ok (.iconst 1, 1) := by decide +kernel
theorem dX4_rules_12 : decode cX4_rules 12 = .ok (.invokestatic 44, 3) := by decide +kernel
theorem dX4_rules_15 : decode cX4_rules 15 = .ok (.ifCond .ne 6, 3) := by decide +kernel
theorem dX4_rules_18 : decode cX4_rules 18 = .ok (.bipush (-2), 2) := by decide +kernel
theorem dX4_rules_20 : decode cX4_rules 20 = .ok (.ireturn, 1) := by decide +kernel
theorem dX4_rules_21 : decode cX4_rules 21 = .ok (.aload_n 0, 1) := by decide +kernel
theorem dX4_rules_22 : decode cX4_rules 22 = .ok (.getfield 10, 3) := by decide +kernel
theorem dX4_rules_25 : decode cX4_rules 25 = .ok (.iload_n 1, 1) := by decide +kernel
theorem dX4_rules_26 : decode cX4_rules 26 = .ok (.invokevirtual 98, 3) := by decide +kernel
theorem dX4_rules_29 : decode cX4_rules 29 = .ok (.istore_n 3, 1) := by decide +kernel
theorem dX4_rules_30 : decode cX4_rules 30 = .ok (.iload_n 3, 1) := by decide +kernel
theorem dX4_rules_31 : decode cX4_rules 31 = .ok (.ifCond .ne 6, 3) := by decide +kernel
theorem dX4_rules_34 : decode cX4_rules 34 = .ok (.bipush (-6), 2) := by decide +kernel
theorem dX4_rules_36 : decode cX4_rules 36 = .ok (.ireturn, 1) := by decide +kernel
theorem dX4_rules_37 : decode cX4_rules 37 = .ok (.iload_n 2, 1) := by decide +kernel
theorem dX4_rules_38 : decode cX4_rules 38 = .ok (.ifCond .ne 7, 3) := by decide +kernel
theorem dX4_rules_41 : decode cX4_rules 41 = .ok (.iload_n 3, 1) := by decide +kernel
theorem dX4_rules_42 : decode cX4_rules 42 = .ok (.goto 15, 3) := by decide +kernel
theorem dX4_rules_45 : decode cX4_rules 45 = .ok (.aload_n 0, 1) := by decide +kernel
theorem dX4_rules_46 : decode cX4_rules 46 = .ok (.getfield 10, 3) := by decide +kernel
theorem dX4_rules_49 : decode cX4_rules 49 = .ok (.iload_n 3, 1) := by decide +kernel
theorem dX4_rules_50 : decode cX4_rules 50 = .ok (.invokestatic 101, 3) := by decide +kernel
theorem dX4_rules_53 : decode cX4_rules 53 = .ok (.iload_n 1, 1) := by decide +kernel
theorem dX4_rules_54 : decode cX4_rules 54 = .ok (.invokevirtual 104, 3) := by decide +kernel
theorem dX4_rules_57 : decode cX4_rules 57 = .ok (.ireturn, 1) := by decide +kernel
set_option maxRecDepth 20000 in
theorem ggX4_opens_X0_isThere : GoodIn wsX4_opens wsX0_isThere := goodIn_r _ [7, 8, 9, 10, 11, 12, 13, 42, 43, 44, 45, 46, 47, 48, 49, 50, 51, 52, 53] (by decide +kernel) (by decide +kernel)
set_option maxRecDepth 20000 in
theorem gX4_opens_X0_isThere : GoodIn wsX4_opens (wsV RX4 76 RX0 yX0_isThere wsX0_isThere) := goodIn_app (goodIn_of _ (by decide +kernel)) ggX4_opens_X0_isThere
set_option maxRecDepth 20000 in
theorem ggX4_opens_X4_isPlace : GoodIn wsX4_opens wsX4_isPlace := goodIn_r _ [16, 17, 9, 10, 11] (by decide +kernel) (by decide +kernel)
set_option maxRecDepth 20000 in
theorem gX4_opens_X4_isPlace : GoodIn wsX4_opens (va_wsS RX4 48 yX4_isPlace wsX4_isPlace) := goodIn_app (goodIn_of _ (by decide +kernel)) ggX4_opens_X4_isPlace
set_option maxRecDepth 20000 in
theorem ggX4_opens_X4_hasBit : GoodIn wsX4_opens wsX4_hasBit := goodIn_r _ [13] (by decide +kernel) (by decide +kernel)
set_option maxRecDepth 20000 in
theorem gX4_opens_X4_hasBit : GoodIn wsX4_opens (va_wsS RX4 108 yX4_hasBit wsX4_hasBit) := goodIn_app (goodIn_of _ (by decide +kernel)) ggX4_opens_X4_hasBit
set_option maxRecDepth 20000 in
theorem ggX4_opens_X0_openTime : GoodIn wsX4_opens wsX0_openTime := goodIn_r _ [22, 23, 24, 9, 10, 11, 25, 26, 27, 6, 28, 29, 30, 31, 32, 33, 34, 35, 12, 13, 42, 43, 44, 45, 46, 47, 48, 49, 50, 51, 52, 53] (by decide +kernel) (by decide +kernel)
set_option maxRecDepth 20000 in
theorem gX4_opens_X0_openTime : GoodIn wsX4_opens (wsV RX4 104 RX0 yX0_openTime wsX0_openTime) := goodIn_app (goodIn_of _ (by decide +kernel)) ggX4_opens_X0_openTime
theorem dX4_opens_0 : decode cX4_opens 0 = .ok (.aload_n 0, 1) := by decide +kernel
theorem dX4_opens_1 : decode cX4_opens 1 = .ok (.getfield 10, 3) := by decide +kernel
theorem dX4_opens_4 : decode cX4_opens 4 = .ok (.iload_n 1, 1) := by decide +kernel
theorem dX4_opens_5 : decode cX4_opens 5 = .ok (.invokevirtual 76, 3) := by decide +kernel
theorem dX4_opens_8 : decode cX4_opens 8 = .ok (.ifCond .eq 10, 3) := by decide +kernel
theorem dX4_opens_11 : decode cX4_opens 11 = .ok (.iload_n 2, 1) := by decide +kernel
theorem dX4_opens_12 : decode cX4_opens 12 = .ok (.invokestatic 48, 3) := by decide +kernel
theorem dX4_opens_15 : decode cX4_opens 15 = .ok (.ifCond .ne 5, 3) := by decide +kernel
theorem dX4_opens_18 : decode cX4_opens 18 = .ok (.iconst (-1), 1) := by decide +kernel
theorem dX4_opens_19 : decode cX4_opens 19 = .ok (.ireturn, 1) := by decide +kernel
theorem dX4_opens_20 : decode cX4_opens 20 = .ok (.aload_n 0, 1) := by decide +kernel
theorem dX4_opens_21 : decode cX4_opens 21 = .ok (.getfield 10, 3) := by decide +kernel
theorem dX4_opens_24 : decode cX4_opens 24 = .ok (.getfield 67, 3) := by decide +kernel
theorem dX4_opens_27 : decode cX4_opens 27 = .ok (.iload_n 1, 1) := by decide +kernel
theorem dX4_opens_28 : decode cX4_opens 28 = .ok (.invokestatic 108, 3) := by decide +kernel
theorem dX4_opens_31 : decode cX4_opens 31 = .ok (.ifCond .eq 8, 3) := by decide +kernel
theorem dX4_opens_34 : decode cX4_opens 34 = .ok (.bipush (-6), 2) := by decide +kernel
theorem dX4_opens_36 : decode cX4_opens 36 = .ok (.goto 12, 3) := by decide +kernel
theorem dX4_opens_39 : decode cX4_opens 39 = .ok (.aload_n 0, 1) := by decide +kernel
theorem dX4_opens_40 : decode cX4_opens 40 = .ok (.getfield 10, 3) := by decide +kernel
theorem dX4_opens_43 : decode cX4_opens 43 = .ok (.iload_n 1, 1) := by decide +kernel
theorem dX4_opens_44 : decode cX4_opens 44 = .ok (.iload_n 2, 1) := by decide +kernel
theorem dX4_opens_45 : decode cX4_opens 45 = .ok (.invokevirtual 104, 3) := by decide +kernel
theorem dX4_opens_48 : decode cX4_opens 48 = .ok (.ireturn, 1) := by decide +kernel
set_option maxRecDepth 20000 in
theorem ggX4_never_X0_rulers : GoodIn wsX4_never wsX0_rulers := goodIn_r _ [7, 8, 9, 10, 6, 11, 12, 13, 14, 15, 16, 17, 18, 19, 20, 21, 22, 23, 24, 25, 26, 27, 28, 29, 30, 31, 32, 33, 34, 35, 36, 43, 44, 45, 46, 47, 48, 49, 50, 51, 52, 53, 54] (by decide +kernel) (by decide +kernel)
set_option maxRecDepth 20000 in
theorem gX4_never_X0_rulers : GoodIn wsX4_never (wsV RX4 98 RX0 yX0_rulers wsX0_rulers) := goodIn_app (goodIn_of _ (by decide +kernel)) ggX4_never_X0_rulers
theorem dX4_never_0 : decode cX4_never 0 = .ok (.aload_n 0, 1) := by decide +kernel
theorem dX4_never_1 : decode cX4_never 1 = .ok (.getfield 10, 3) := by decide +kernel
theorem dX4_never_4 : decode cX4_never 4 = .ok (.getfield 56, 3) := by decide +kernel
theorem dX4_never_7 : decode cX4_never 7 = .ok (.istore_n 1, 1) := by decide +kernel
theorem dX4_never_8 : decode cX4_never 8 = .ok (.iconst 0, 1) := by decide +kernel
theorem dX4_never_9 : decode cX4_never 9 = .ok (.istore_n 2, 1) := by decide +kernel
theorem dX4_never_10 : decode cX4_never 10 = .ok (.iload_n 2, 1) := by decide +kernel
theorem dX4_never_11 : decode cX4_never 11 = .ok (.bipush 10, 2) := by decide +kernel
theorem dX4_never_13 : decode cX4_never 13 = .ok (.if_icmp .ge 22, 3) := by decide +kernel
theorem dX4_never_16 : decode cX4_never 16 = .ok (.iload_n 1, 1) := by decide +kernel
theorem dX4_never_17 : decode cX4_never 17 = .ok (.aload_n 0, 1) := by decide +kernel
theorem dX4_never_18 : decode cX4_never 18 = .ok (.getfield 10, 3) := by decide +kernel
theorem dX4_never_21 : decode cX4_never 21 = .ok (.iload_n 2, 1) := by decide +kernel
theorem dX4_never_22 : decode cX4_never 22 = .ok (.invokevirtual 98, 3) := by decide +kernel
theorem dX4_never_25 : decode cX4_never 25 = .ok (.iconst (-1), 1) := by decide +kernel
theorem dX4_never_26 : decode cX4_never 26 = .ok (.ixor, 1) := by decide +kernel
theorem dX4_never_27 : decode cX4_never 27 = .ok (.iand, 1) := by decide +kernel
theorem dX4_never_28 : decode cX4_never 28 = .ok (.istore_n 1, 1) := by decide +kernel
theorem dX4_never_29 : decode cX4_never 29 = .ok (.iinc 2 1, 3) := by decide +kernel
theorem dX4_never_32 : decode cX4_never 32 = .ok (.goto (-22), 3) := by decide +kernel
theorem dX4_never_35 : decode cX4_never 35 = .ok (.iload_n 1, 1) := by decide +kernel
theorem dX4_never_36 : decode cX4_never 36 = .ok (.ireturn, 1) := by decide +kernel
set_option maxRecDepth 20000 in
theorem ggX4_reign_X2_firstFault : GoodIn wsX4_reign wsX2_firstFault := goodIn_r _ [9, 10, 11, 12, 13, 8, 14, 15, 16, 17, 18, 19, 20, 21, 22, 23, 24, 25, 26, 27, 139, 140] (by decide +kernel) (by decide +kernel)
set_option maxRecDepth 20000 in
theorem gX4_reign_X2_firstFault : GoodIn wsX4_reign (wsV RX4 94 RX2 yX2_firstFault wsX2_firstFault) := goodIn_app (goodIn_of _ (by decide +kernel)) ggX4_reign_X2_firstFault
set_option maxRecDepth 20000 in
theorem ggX4_reign_X2_parts : GoodIn wsX4_reign wsX2_parts := goodIn_r _ [31, 10, 11, 12, 13, 8, 14, 15, 16, 17, 18, 22, 23, 24, 139, 140] (by decide +kernel) (by decide +kernel)
set_option maxRecDepth 20000 in
theorem gX4_reign_X2_parts : GoodIn wsX4_reign (wsV RX4 112 RX2 yX2_parts wsX2_parts) := goodIn_app (goodIn_of _ (by decide +kernel)) ggX4_reign_X2_parts
set_option maxRecDepth 20000 in
theorem ggX4_reign_X4_within : GoodIn wsX4_reign wsX4_within := goodIn_r _ [18] (by decide +kernel) (by decide +kernel)
set_option maxRecDepth 20000 in
theorem gX4_reign_X4_within : GoodIn wsX4_reign (va_wsS RX4 44 yX4_within wsX4_within) := goodIn_app (goodIn_of _ (by decide +kernel)) ggX4_reign_X4_within
set_option maxRecDepth 20000 in
theorem ggX4_reign_X1_play : GoodIn wsX4_reign wsX1_play := goodIn_r _ [37, 38, 39, 40, 41, 36, 42, 43, 44, 45, 46, 47, 48, 49, 50, 51, 52, 53, 54, 55, 56, 57, 58, 59, 60, 61, 62, 63, 64, 65, 66, 67, 68, 69, 70, 71, 72, 12, 13, 8, 14, 15, 16, 17, 18, 73, 23, 24, 74, 75, 76, 77, 78, 79, 80, 81, 82, 83, 84, 85, 86, 87, 88, 89, 90, 91, 92, 93, 94, 95, 96, 97, 98, 99, 100, 101, 102, 103, 104, 105, 106, 107, 108, 109, 110, 111, 112, 113, 114, 115, 116, 117, 118, 119, 120, 121, 122, 123, 124, 125, 126, 127, 128, 139, 140, 135, 136, 137, 138, 141, 142, 143, 144, 145, 146, 147, 148, 149, 150, 151, 152] (by decide +kernel) (by decide +kernel)
set_option maxRecDepth 20000 in
theorem gX4_reign_X1_play : GoodIn wsX4_reign (wsV RX4 115 RX1 yX1_play wsX1_play) := goodIn_app (goodIn_of _ (by decide +kernel)) ggX4_reign_X1_play
theorem dX4_reign_0 : decode cX4_reign 0 = .ok (.aload_n 0, 1) := by decide +kernel
theorem dX4_reign_1 : decode cX4_reign 1 = .ok (.getfield 26, 3) := by decide +kernel
theorem dX4_reign_4 : decode cX4_reign 4 = .ok (.invokevirtual 94, 3) := by decide +kernel
theorem dX4_reign_7 : decode cX4_reign 7 = .ok (.bipush (-6), 2) := by decide +kernel
theorem dX4_reign_9 : decode cX4_reign 9 = .ok (.if_icmp .eq 6, 3) := by decide +kernel
theorem dX4_reign_12 : decode cX4_reign 12 = .ok (.bipush (-5), 2) := by decide +kernel
theorem dX4_reign_14 : decode cX4_reign 14 = .ok (.ireturn, 1) := by decide +kernel
theorem dX4_reign_15 : decode cX4_reign 15 = .ok (.aload_n 0, 1) := by decide +kernel
theorem dX4_reign_16 : decode cX4_reign 16 = .ok (.getfield 26, 3) := by decide +kernel
theorem dX4_reign_19 : decode cX4_reign 19 = .ok (.invokevirtual 112, 3) := by decide +kernel
theorem dX4_reign_22 : decode cX4_reign 22 = .ok (.istore_n 2, 1) := by decide +kernel
theorem dX4_reign_23 : decode cX4_reign 23 = .ok (.iload_n 1, 1) := by decide +kernel
theorem dX4_reign_24 : decode cX4_reign 24 = .ok (.iconst (-1), 1) := by decide +kernel
theorem dX4_reign_25 : decode cX4_reign 25 = .ok (.iload_n 2, 1) := by decide +kernel
theorem dX4_reign_26 : decode cX4_reign 26 = .ok (.invokestatic 44, 3) := by decide +kernel
theorem dX4_reign_29 : decode cX4_reign 29 = .ok (.ifCond .ne 6, 3) := by decide +kernel
theorem dX4_reign_32 : decode cX4_reign 32 = .ok (.bipush (-2), 2) := by decide +kernel
theorem dX4_reign_34 : decode cX4_reign 34 = .ok (.ireturn, 1) := by decide +kernel
theorem dX4_reign_35 : decode cX4_reign 35 = .ok (.aload_n 0, 1) := by decide +kernel
theorem dX4_reign_36 : decode cX4_reign 36 = .ok (.getfield 33, 3) := by decide +kernel
theorem dX4_reign_39 : decode cX4_reign 39 = .ok (.aload_n 0, 1) := by decide +kernel
theorem dX4_reign_40 : decode cX4_reign 40 = .ok (.getfield 10, 3) := by decide +kernel
theorem dX4_reign_43 : decode cX4_reign 43 = .ok (.aload_n 0, 1) := by decide +kernel
theorem dX4_reign_44 : decode cX4_reign 44 = .ok (.getfield 26, 3) := by decide +kernel
theorem dX4_reign_47 : decode cX4_reign 47 = .ok (.iload_n 1, 1) := by decide +kernel
theorem dX4_reign_48 : decode cX4_reign 48 = .ok (.iconst (-1), 1) := by decide +kernel
theorem dX4_reign_49 : decode cX4_reign 49 = .ok (.if_icmp .ne 7, 3) := by decide +kernel
theorem dX4_reign_52 : decode cX4_reign 52 = .ok (.iload_n 2, 1) := by decide +kernel
theorem dX4_reign_53 : decode cX4_reign 53 = .ok (.goto 4, 3) := by decide +kernel
theorem dX4_reign_56 : decode cX4_reign 56 = .ok (.iload_n 1, 1) := by decide +kernel
theorem dX4_reign_57 : decode cX4_reign 57 = .ok (.invokevirtual 115, 3) := by decide +kernel
theorem dX4_reign_60 : decode cX4_reign 60 = .ok (.aload_n 0, 1) := by decide +kernel
theorem dX4_reign_61 : decode cX4_reign 61 = .ok (.getfield 33, 3) := by decide +kernel
theorem dX4_reign_64 : decode cX4_reign 64 = .ok (.getfield 119, 3) := by decide +kernel
theorem dX4_reign_67 : decode cX4_reign 67 = .ok (.ifCond .ne 8, 3) := by decide +kernel
theorem dX4_reign_70 : decode cX4_reign 70 = .ok (.bipush (-6), 2) := by decide +kernel
theorem dX4_reign_72 : decode cX4_reign 72 = .ok (.goto 10, 3) := by decide +kernel
theorem dX4_reign_75 : decode cX4_reign 75 = .ok (.aload_n 0, 1) := by decide +kernel
theorem dX4_reign_76 : decode cX4_reign 76 = .ok (.getfield 33, 3) := by decide +kernel
theorem dX4_reign_79 : decode cX4_reign 79 = .ok (.getfield 119, 3) := by decide +kernel
theorem dX4_reign_82 : decode cX4_reign 82 = .ok (.ireturn, 1) := by decide +kernel
set_option maxRecDepth 20000 in
theorem ggX4_years_X2_firstFault : GoodIn wsX4_years wsX2_firstFault := goodIn_r _ [9, 10, 11, 12, 13, 8, 14, 15, 16, 17, 18, 19, 20, 21, 22, 23, 24, 25, 26, 27, 143, 144] (by decide +kernel) (by decide +kernel)
set_option maxRecDepth 20000 in
theorem gX4_years_X2_firstFault : GoodIn wsX4_years (wsV RX4 94 RX2 yX2_firstFault wsX2_firstFault) := goodIn_app (goodIn_of _ (by decide +kernel)) ggX4_years_X2_firstFault
set_option maxRecDepth 20000 in
theorem ggX4_years_X4_within : GoodIn wsX4_years wsX4_within := goodIn_r _ [18] (by decide +kernel) (by decide +kernel)
set_option maxRecDepth 20000 in
theorem gX4_years_X4_within : GoodIn wsX4_years (va_wsS RX4 44 yX4_within wsX4_within) := goodIn_app (goodIn_of _ (by decide +kernel)) ggX4_years_X4_within
set_option maxRecDepth 20000 in
theorem ggX4_years_X2_parts : GoodIn wsX4_years wsX2_parts := goodIn_r _ [32, 10, 11, 12, 13, 8, 14, 15, 16, 17, 18, 22, 23, 24, 143, 144] (by decide +kernel) (by decide +kernel)
set_option maxRecDepth 20000 in
theorem gX4_years_X2_parts : GoodIn wsX4_years (wsV RX4 112 RX2 yX2_parts wsX2_parts) := goodIn_app (goodIn_of _ (by decide +kernel)) ggX4_years_X2_parts
set_option maxRecDepth 20000 in
theorem ggX4_years_X1_play : GoodIn wsX4_years wsX1_play := goodIn_r _ [37, 38, 39, 40, 41, 36, 42, 43, 44, 45, 46, 47, 48, 49, 50, 51, 52, 53, 54, 55, 56, 57, 58, 59, 60, 61, 62, 63, 64, 65, 66, 67, 68, 69, 70, 71, 72, 12, 13, 8, 14, 15, 16, 17, 18, 73, 23, 24, 74, 75, 76, 77, 78, 79, 80, 81, 82, 83, 84, 85, 86, 87, 88, 89, 90, 91, 92, 93, 94, 95, 96, 97, 98, 99, 100, 101, 102, 103, 104, 105, 106, 107, 108, 109, 110, 111, 112, 113, 114, 115, 116, 117, 118, 119, 120, 121, 122, 123, 124, 125, 126, 127, 128, 143, 144, 139, 140, 141, 142, 145, 146, 147, 148, 149, 150, 151, 152, 153, 154, 155, 156] (by decide +kernel) (by decide +kernel)
set_option maxRecDepth 20000 in
theorem gX4_years_X1_play : GoodIn wsX4_years (wsV RX4 115 RX1 yX1_play wsX1_play) := goodIn_app (goodIn_of _ (by decide +kernel)) ggX4_years_X1_play
set_option maxRecDepth 20000 in
theorem ggX4_years_X1_yearsOf : GoodIn wsX4_years wsX1_yearsOf := goodIn_r _ [132, 46, 16, 17, 18, 139, 140, 141, 142] (by decide +kernel) (by decide +kernel)
set_option maxRecDepth 20000 in
theorem gX4_years_X1_yearsOf : GoodIn wsX4_years (wsV RX4 125 RX1 yX1_yearsOf wsX1_yearsOf) := goodIn_app (goodIn_of _ (by decide +kernel)) ggX4_years_X1_yearsOf
theorem dX4_years_0 : decode cX4_years 0 = .ok (.aload_n 0, 1) := by decide +kernel
theorem dX4_years_1 : decode cX4_years 1 = .ok (.getfield 26, 3) := by decide +kernel
theorem dX4_years_4 : decode cX4_years 4 = .ok (.invokevirtual 94, 3) := by decide +kernel
theorem dX4_years_7 : decode cX4_years 7 = .ok (.bipush (-6), 2) := by decide +kernel
theorem dX4_years_9 : decode cX4_years 9 = .ok (.if_icmp .eq 6, 3) := by decide +kernel
theorem dX4_years_12 : decode cX4_years 12 = .ok (.bipush (-5), 2) := by decide +kernel
theorem dX4_years_14 : decode cX4_years 14 = .ok (.ireturn, 1) := by decide +kernel
theorem dX4_years_15 : decode cX4_years 15 = .ok (.iload_n 1, 1) := by decide +kernel
theorem dX4_years_16 : decode cX4_years 16 = .ok (.iconst 0, 1) := by decide +kernel
theorem dX4_years_17 : decode cX4_years 17 = .ok (.bipush 9, 2) := by decide +kernel
theorem dX4_years_19 : decode cX4_years 19 = .ok (.invokestatic 44, 3) := by decide +kernel
theorem dX4_years_22 : decode cX4_years 22 = .ok (.ifCond .ne 6, 3) := by decide +kernel
theorem dX4_years_25 : decode cX4_years 25 = .ok (.bipush (-2), 2) := by decide +kernel
theorem dX4_years_27 : decode cX4_years 27 = .ok (.ireturn, 1) := by decide +kernel
theorem dX4_years_28 : decode cX4_years 28 = .ok (.aload_n 0, 1) := by decide +kernel
theorem dX4_years_29 : decode cX4_years 29 = .ok (.getfield 33, 3) := by decide +kernel
theorem dX4_years_32 : decode cX4_years 32 = .ok (.aload_n 0, 1) := by decide +kernel
theorem dX4_years_33 : decode cX4_years 33 = .ok (.getfield 10, 3) := by decide +kernel
theorem dX4_years_36 : decode cX4_years 36 = .ok (.aload_n 0, 1) := by decide +kernel
theorem dX4_years_37 : decode cX4_years 37 = .ok (.getfield 26, 3) := by decide +kernel
theorem dX4_years_40 : decode cX4_years 40 = .ok (.aload_n 0, 1) := by decide +kernel
theorem dX4_years_41 : decode cX4_years 41 = .ok (.getfield 26, 3) := by decide +kernel
theorem dX4_years_44 : decode cX4_years 44 = .ok (.invokevirtual 112, 3) := by decide +kernel
theorem dX4_years_47 : decode cX4_years 47 = .ok (.invokevirtual 115, 3) := by decide +kernel
theorem dX4_years_50 : decode cX4_years 50 = .ok (.iload_n 1, 1) := by decide +kernel
theorem dX4_years_51 : decode cX4_years 51 = .ok (.bipush 9, 2) := by decide +kernel
theorem dX4_years_53 : decode cX4_years 53 = .ok (.if_icmp .ne 13, 3) := by decide +kernel
theorem dX4_years_56 : decode cX4_years 56 = .ok (.aload_n 0, 1) := by decide +kernel
theorem dX4_years_57 : decode cX4_years 57 = .ok (.getfield 33, 3) := by decide +kernel
theorem dX4_years_60 : decode cX4_years 60 = .ok (.getfield 122, 3) := by decide +kernel
theorem dX4_years_63 : decode cX4_years 63 = .ok (.goto 11, 3) := by decide +kernel
theorem dX4_years_66 : decode cX4_years 66 = .ok (.aload_n 0, 1) := by decide +kernel
theorem dX4_years_67 : decode cX4_years 67 = .ok (.getfield 33, 3) := by decide +kernel
theorem dX4_years_70 : decode cX4_years 70 = .ok (.iload_n 1, 1) := by decide +kernel
theorem dX4_years_71 : decode cX4_years 71 = .ok (.invokevirtual 125, 3) := by decide +kernel
theorem dX4_years_74 : decode cX4_years 74 = .ok (.ireturn, 1) := by decide +kernel
set_option maxRecDepth 20000 in
theorem ggX4_weight_X4_isPlace : GoodIn wsX4_weight wsX4_isPlace := goodIn_r _ [6, 7, 8, 5, 9] (by decide +kernel) (by decide +kernel)
set_option maxRecDepth 20000 in
theorem gX4_weight_X4_isPlace : GoodIn wsX4_weight (va_wsS RX4 48 yX4_isPlace wsX4_isPlace) := goodIn_app (goodIn_of _ (by decide +kernel)) ggX4_weight_X4_isPlace
set_option maxRecDepth 20000 in
theorem ggX4_weight_X4_within : GoodIn wsX4_weight wsX4_within := goodIn_r _ [9] (by decide +kernel) (by decide +kernel)
set_option maxRecDepth 20000 in
theorem gX4_weight_X4_within : GoodIn wsX4_weight (va_wsS RX4 44 yX4_within wsX4_within) := goodIn_app (goodIn_of _ (by decide +kernel)) ggX4_weight_X4_within
set_option maxRecDepth 20000 in
theorem ggX4_weight_X0_allWeights : GoodIn wsX4_weight wsX0_allWeights := goodIn_r _ [14, 15, 22, 23, 24, 25, 26, 27, 28, 29, 30, 31, 32, 33] (by decide +kernel) (by decide +kernel)
set_option maxRecDepth 20000 in
theorem gX4_weight_X0_allWeights : GoodIn wsX4_weight (wsV RX4 132 RX0 yX0_allWeights wsX0_allWeights) := goodIn_app (goodIn_of _ (by decide +kernel)) ggX4_weight_X0_allWeights
theorem dX4_weight_0 : decode cX4_weight 0 = .ok (.iload_n 1, 1) := by decide +kernel
theorem dX4_weight_1 : decode cX4_weight 1 = .ok (.invokestatic 48, 3) := by decide +kernel
theorem dX4_weight_4 : decode cX4_weight 4 = .ok (.ifCond .ne 5, 3) := by decide +kernel
theorem dX4_weight_7 : decode cX4_weight 7 = .ok (.iconst (-1), 1) := by decide +kernel
theorem dX4_weight_8 : decode cX4_weight 8 = .ok (.ireturn, 1) := by decide +kernel
theorem dX4_weight_9 : decode cX4_weight 9 = .ok (.aload_n 0, 1) := by decide +kernel
theorem dX4_weight_10 : decode cX4_weight 10 = .ok (.getfield 10, 3) := by decide +kernel
theorem dX4_weight_13 : decode cX4_weight 13 = .ok (.getfield 128, 3) := by decide +kernel
theorem dX4_weight_16 : decode cX4_weight 16 = .ok (.iload_n 1, 1) := by decide +kernel
theorem dX4_weight_17 : decode cX4_weight 17 = .ok (.iaload, 1) := by decide +kernel
theorem dX4_weight_18 : decode cX4_weight 18 = .ok (.istore_n 3, 1) := by decide +kernel
theorem dX4_weight_19 : decode cX4_weight 19 = .ok (.iload_n 2, 1) := by decide +kernel
theorem dX4_weight_20 : decode cX4_weight 20 = .ok (.iconst 0, 1) := by decide +kernel
theorem dX4_weight_21 : decode cX4_weight 21 = .ok (.bipush 9, 2) := by decide +kernel
theorem dX4_weight_23 : decode cX4_weight 23 = .ok (.invokestatic 44, 3) := by decide +kernel
theorem dX4_weight_26 : decode cX4_weight 26 = .ok (.ifCond .eq 18, 3) := by decide +kernel
theorem dX4_weight_29 : decode cX4_weight 29 = .ok (.aload_n 0, 1) := by decide +kernel
theorem dX4_weight_30 : decode cX4_weight 30 = .ok (.getfield 10, 3) := by decide +kernel
theorem dX4_weight_33 : decode cX4_weight 33 = .ok (.invokevirtual 132, 3) := by decide +kernel
theorem dX4_weight_36 : decode cX4_weight 36 = .ok (.iload_n 3, 1) := by decide +kernel
theorem dX4_weight_37 : decode cX4_weight 37 = .ok (.isub, 1) := by decide +kernel
theorem dX4_weight_38 : decode cX4_weight 38 = .ok (.iload_n 2, 1) := by decide +kernel
theorem dX4_weight_39 : decode cX4_weight 39 = .ok (.iadd, 1) := by decide +kernel
theorem dX4_weight_40 : decode cX4_weight 40 = .ok (.iconst 1, 1) := by decide +kernel
theorem dX4_weight_41 : decode cX4_weight 41 = .ok (.if_icmp .ge 6, 3) := by decide +kernel
theorem dX4_weight_44 : decode cX4_weight 44 = .ok (.bipush (-2), 2) := by decide +kernel
theorem dX4_weight_46 : decode cX4_weight 46 = .ok (.ireturn, 1) := by decide +kernel
theorem dX4_weight_47 : decode cX4_weight 47 = .ok (.aload_n 0, 1) := by decide +kernel
theorem dX4_weight_48 : decode cX4_weight 48 = .ok (.getfield 10, 3) := by decide +kernel
theorem dX4_weight_51 : decode cX4_weight 51 = .ok (.getfield 128, 3) := by decide +kernel
theorem dX4_weight_54 : decode cX4_weight 54 = .ok (.iload_n 1, 1) := by decide +kernel
theorem dX4_weight_55 : decode cX4_weight 55 = .ok (.iload_n 2, 1) := by decide +kernel
theorem dX4_weight_56 : decode cX4_weight 56 = .ok (.iastore, 1) := by decide +kernel
theorem dX4_weight_57 : decode cX4_weight 57 = .ok (.iload_n 3, 1) := by decide +kernel
theorem dX4_weight_58 : decode cX4_weight 58 = .ok (.ireturn, 1) := by decide +kernel
set_option maxRecDepth 20000 in
theorem ggX4_chance_X0_isThere : GoodIn wsX4_chance wsX0_isThere := goodIn_r _ [9, 10, 11, 12, 13, 14, 15, 74, 75, 76, 77, 78, 79, 80, 81, 82, 83, 84, 85] (by decide +kernel) (by decide +kernel)
set_option maxRecDepth 20000 in
theorem gX4_chance_X0_isThere : GoodIn wsX4_chance (wsV RX4 76 RX0 yX0_isThere wsX0_isThere) := goodIn_app (goodIn_of _ (by decide +kernel)) ggX4_chance_X0_isThere
set_option maxRecDepth 20000 in
theorem ggX4_chance_X4_within : GoodIn wsX4_chance wsX4_within := goodIn_r _ [13] (by decide +kernel) (by decide +kernel)
set_option maxRecDepth 20000 in
theorem gX4_chance_X4_within : GoodIn wsX4_chance (va_wsS RX4 44 yX4_within wsX4_within) := goodIn_app (goodIn_of _ (by decide +kernel)) ggX4_chance_X4_within
set_option maxRecDepth 20000 in
theorem ggX4_chance_X0_shareOf : GoodIn wsX4_chance wsX0_shareOf := goodIn_r _ [20, 21, 22, 23, 24, 8, 25, 10, 26, 27, 28, 29, 30, 31, 32, 33, 34, 35, 36, 14, 12, 15, 37, 38, 39, 40, 41, 42, 43, 44, 45, 46, 47, 48, 49, 50, 51, 52, 53, 74, 75, 76, 77, 78, 79, 80, 81, 82, 83, 84, 85] (by decide +kernel) (by decide +kernel)
set_option maxRecDepth 20000 in
theorem gX4_chance_X0_shareOf : GoodIn wsX4_chance (wsV RX4 139 RX0 yX0_shareOf wsX0_shareOf) := goodIn_app (goodIn_of _ (by decide +kernel)) ggX4_chance_X0_shareOf
set_option maxRecDepth 20000 in
theorem ggX4_chance_X0_allShares : GoodIn wsX4_chance wsX0_allShares := goodIn_r _ [57, 58, 59, 60, 8, 61, 21, 74, 75, 76, 77, 78, 79, 80, 81, 82, 83, 84, 85] (by decide +kernel) (by decide +kernel)
set_option maxRecDepth 20000 in
theorem gX4_chance_X0_allShares : GoodIn wsX4_chance (wsV RX4 142 RX0 yX0_allShares wsX0_allShares) := goodIn_app (goodIn_of _ (by decide +kernel)) ggX4_chance_X0_allShares
set_option maxRecDepth 20000 in
theorem ggX4_chance_X4_fraction : GoodIn wsX4_chance wsX4_fraction := goodIn_r _ [64, 65, 66, 12, 67] (by decide +kernel) (by decide +kernel)
set_option maxRecDepth 20000 in
theorem gX4_chance_X4_fraction : GoodIn wsX4_chance (va_wsS RX4 145 yX4_fraction wsX4_fraction) := goodIn_app (goodIn_of _ (by decide +kernel)) ggX4_chance_X4_fraction
theorem dX4_chance_0 : decode cX4_chance 0 = .ok (.iload_n 1, 1) := by decide +kernel
theorem dX4_chance_1 : decode cX4_chance 1 = .ok (.bipush 6, 2) := by decide +kernel
theorem dX4_chance_3 : decode cX4_chance 3 = .ok (.if_icmp .eq 24, 3) := by decide +kernel
theorem dX4_chance_6 : decode cX4_chance 6 = .ok (.iload_n 1, 1) := by decide +kernel
theorem dX4_chance_7 : decode cX4_chance 7 = .ok (.bipush 7, 2) := by decide +kernel
theorem dX4_chance_9 : decode cX4_chance 9 = .ok (.if_icmp .eq 18, 3) := by decide +kernel
theorem dX4_chance_12 : decode cX4_chance 12 = .ok (.aload_n 0, 1) := by decide +kernel
theorem dX4_chance_13 : decode cX4_chance 13 = .ok (.getfield 10, 3) := by decide +kernel
theorem dX4_chance_16 : decode cX4_chance 16 = .ok (.iload_n 1, 1) := by decide +kernel
theorem dX4_chance_17 : decode cX4_chance 17 = .ok (.invokevirtual 76, 3) := by decide +kernel
theorem dX4_chance_20 : decode cX4_chance 20 = .ok (.ifCond .ne 7, 3) := by decide +kernel
theorem dX4_chance_23 : decode cX4_chance 23 = .ok (.ldc2_w 135, 3) := by decide +kernel
theorem dX4_chance_26 : decode cX4_chance 26 = .ok (.lreturn, 1) := by decide +kernel
theorem dX4_chance_27 : decode cX4_chance 27 = .ok (.iload_n 2, 1) := by decide +kernel
theorem dX4_chance_28 : decode cX4_chance 28 = .ok (.iconst 0, 1) := by decide +kernel
theorem dX4_chance_29 : decode cX4_chance 29 = .ok (.iconst 1, 1) := by decide +kernel
theorem dX4_chance_30 : decode cX4_chance 30 = .ok (.invokestatic 44, 3) := by decide +kernel
theorem dX4_chance_33 : decode cX4_chance 33 = .ok (.ifCond .ne 7, 3) := by decide +kernel
theorem dX4_chance_36 : decode cX4_chance 36 = .ok (.ldc2_w 137, 3) := by decide +kernel
theorem dX4_chance_39 : decode cX4_chance 39 = .ok (.lreturn, 1) := by decide +kernel
theorem dX4_chance_40 : decode cX4_chance 40 = .ok (.iload_n 1, 1) := by decide +kernel
theorem dX4_chance_41 : decode cX4_chance 41 = .ok (.bipush 6, 2) := by decide +kernel
theorem dX4_chance_43 : decode cX4_chance 43 = .ok (.if_icmp .ne 15, 3) := by decide +kernel
theorem dX4_chance_46 : decode cX4_chance 46 = .ok (.aload_n 0, 1) := by decide +kernel
theorem dX4_chance_47 : decode cX4_chance 47 = .ok (.getfield 10, 3) := by decide +kernel
theorem dX4_chance_50 : decode cX4_chance 50 = .ok (.getfield 64, 3) := by decide +kernel
theorem dX4_chance_53 : decode cX4_chance 53 = .ok (.iconst (-1), 1) := by decide +kernel
theorem dX4_chance_54 : decode cX4_chance 54 = .ok (.ixor, 1) := by decide +kernel
theorem dX4_chance_55 : decode cX4_chance 55 = .ok (.goto 22, 3) := by decide +kernel
theorem dX4_chance_58 : decode cX4_chance 58 = .ok (.iload_n 1, 1) := by decide +kernel
theorem dX4_chance_59 : decode cX4_chance 59 = .ok (.bipush 7, 2) := by decide +kernel
theorem dX4_chance_61 : decode cX4_chance 61 = .ok (.if_icmp .ne 13, 3) := by decide +kernel
theorem dX4_chance_64 : decode cX4_chance 64 = .ok (.aload_n 0, 1) := by decide +kernel
theorem dX4_chance_65 : decode cX4_chance 65 = .ok (.getfield 10, 3) := by decide +kernel
theorem dX4_chance_68 : decode cX4_chance 68 = .ok (.getfield 64, 3) := by decide +kernel
theorem dX4_chance_71 : decode cX4_chance 71 = .ok (.goto 6, 3) := by decide +kernel
theorem dX4_chance_74 : decode cX4_chance 74 = .ok (.iconst 1, 1) := by decide +kernel
theorem dX4_chance_75 : decode cX4_chance 75 = .ok (.iload_n 1, 1) := by decide +kernel
theorem dX4_chance_76 : decode cX4_chance 76 = .ok (.ishl, 1) := by decide +kernel
theorem dX4_chance_77 : decode cX4_chance 77 = .ok (.istore_n 3, 1) := by decide +kernel
theorem dX4_chance_78 : decode cX4_chance 78 = .ok (.aload_n 0, 1) := by decide +kernel
theorem dX4_chance_79 : decode cX4_chance 79 = .ok (.getfield 10, 3) := by decide +kernel
theorem dX4_chance_82 : decode cX4_chance 82 = .ok (.iload_n 3, 1) := by decide +kernel
theorem dX4_chance_83 : decode cX4_chance 83 = .ok (.invokevirtual 139, 3) := by decide +kernel
theorem dX4_chance_86 : decode cX4_chance 86 = .ok (.aload_n 0, 1) := by decide +kernel
theorem dX4_chance_87 : decode cX4_chance 87 = .ok (.getfield 10, 3) := by decide +kernel
theorem dX4_chance_90 : decode cX4_chance 90 = .ok (.invokevirtual 142, 3) := by decide +kernel
theorem dX4_chance_93 : decode cX4_chance 93 = .ok (.iload_n 2, 1) := by decide +kernel
theorem dX4_chance_94 : decode cX4_chance 94 = .ok (.invokestatic 145, 3) := by decide +kernel
theorem dX4_chance_97 : decode cX4_chance 97 = .ok (.lreturn, 1) := by decide +kernel
set_option maxRecDepth 20000 in
theorem ggX4_best_X0_isThere : GoodIn wsX4_best wsX0_isThere := goodIn_r _ [6, 7, 8, 9, 10, 11, 12, 82, 83, 84, 85, 86, 87, 88, 89, 90, 91, 92, 93] (by decide +kernel) (by decide +kernel)
set_option maxRecDepth 20000 in
theorem gX4_best_X0_isThere : GoodIn wsX4_best (wsV RX4 76 RX0 yX0_isThere wsX0_isThere) := goodIn_app (goodIn_of _ (by decide +kernel)) ggX4_best_X0_isThere
set_option maxRecDepth 20000 in
theorem ggX4_best_X4_bestPlace : GoodIn wsX4_best wsX4_bestPlace := goodIn_r _ [16, 1, 17, 18, 19, 20, 9, 21, 22, 23, 24, 25, 5, 26, 27, 28, 7, 29, 30, 31, 32, 33, 34, 35, 36, 37, 38, 39, 40, 41, 42, 43, 44, 45, 8, 10, 46, 47, 48, 49, 50, 51, 52, 53, 54, 55, 56, 57, 58, 59, 60, 61, 11, 12, 62, 63, 64, 65, 66, 67, 68, 69, 70, 71, 72, 73, 74, 75, 76, 77, 78, 79, 80, 81, 82, 83, 84, 85, 86, 87, 88, 89, 90, 91, 92, 93] (by decide +kernel) (by decide +kernel)
set_option maxRecDepth 20000 in
theorem gX4_best_X4_bestPlace : GoodIn wsX4_best (wsV RX4 149 RX4 yX4_bestPlace wsX4_bestPlace) := goodIn_app (goodIn_of _ (by decide +kernel)) ggX4_best_X4_bestPlace
theorem dX4_best_0 : decode cX4_best 0 = .ok (.aload_n 0, 1) := by decide +kernel
theorem dX4_best_1 : decode cX4_best 1 = .ok (.getfield 10, 3) := by decide +kernel
theorem dX4_best_4 : decode cX4_best 4 = .ok (.iload_n 1, 1) := by decide +kernel
theorem dX4_best_5 : decode cX4_best 5 = .ok (.invokevirtual 76, 3) := by decide +kernel
theorem dX4_best_8 : decode cX4_best 8 = .ok (.ifCond .ne 5, 3) := by decide +kernel
theorem dX4_best_11 : decode cX4_best 11 = .ok (.iconst (-1), 1) := by decide +kernel
theorem dX4_best_12 : decode cX4_best 12 = .ok (.ireturn, 1) := by decide +kernel
theorem dX4_best_13 : decode cX4_best 13 = .ok (.aload_n 0, 1) := by decide +kernel
theorem dX4_best_14 : decode cX4_best 14 = .ok (.iload_n 1, 1) := by decide +kernel
theorem dX4_best_15 : decode cX4_best 15 = .ok (.invokevirtual 149, 3) := by decide +kernel
theorem dX4_best_18 : decode cX4_best 18 = .ok (.ireturn, 1) := by decide +kernel
set_option maxRecDepth 20000 in
theorem ggX4_bestChance_X0_isThere : GoodIn wsX4_bestChance wsX0_isThere := goodIn_r _ [9, 10, 11, 12, 13, 14, 15, 99, 100, 101, 102, 103, 104, 105, 106, 107, 108, 109, 110] (by decide +kernel) (by decide +kernel)
set_option maxRecDepth 20000 in
theorem gX4_bestChance_X0_isThere : GoodIn wsX4_bestChance (wsV RX4 76 RX0 yX0_isThere wsX0_isThere) := goodIn_app (goodIn_of _ (by decide +kernel)) ggX4_bestChance_X0_isThere
set_option maxRecDepth 20000 in
theorem ggX4_bestChance_X4_within : GoodIn wsX4_bestChance wsX4_within := goodIn_r _ [13] (by decide +kernel) (by decide +kernel)
set_option maxRecDepth 20000 in
theorem gX4_bestChance_X4_within : GoodIn wsX4_bestChance (va_wsS RX4 44 yX4_within wsX4_within) := goodIn_app (goodIn_of _ (by decide +kernel)) ggX4_bestChance_X4_within
set_option maxRecDepth 20000 in
theorem ggX4_bestChance_X4_bestPlace : GoodIn wsX4_bestChance wsX4_bestPlace := goodIn_r _ [20, 1, 4, 21, 22, 23, 12, 24, 25, 26, 27, 28, 8, 29, 30, 31, 10, 32, 33, 34, 35, 36, 37, 38, 39, 40, 41, 42, 43, 44, 45, 46, 47, 48, 11, 13, 49, 50, 51, 52, 53, 54, 55, 56, 57, 58, 59, 60, 61, 62, 63, 64, 14, 15, 65, 66, 67, 68, 69, 70, 71, 72, 73, 74, 75, 76, 77, 78, 93, 94, 95, 96, 97, 98, 99, 100, 101, 102, 103, 104, 105, 106, 107, 108, 109, 110] (by decide +kernel) (by decide +kernel)
set_option maxRecDepth 20000 in
theorem gX4_bestChance_X4_bestPlace : GoodIn wsX4_bestChance (wsV RX4 149 RX4 yX4_bestPlace wsX4_bestPlace) := goodIn_app (goodIn_of _ (by decide +kernel)) ggX4_bestChance_X4_bestPlace
set_option maxRecDepth 20000 in
theorem ggX4_bestChance_X4_trialShare : GoodIn wsX4_bestChance wsX4_trialShare := goodIn_r _ [24, 25, 1, 26, 27, 28, 8, 29, 30, 31, 10, 32, 33, 34, 35, 36, 37, 38, 39, 40, 41, 42, 43, 44, 45, 46, 47, 48, 11, 12, 13, 49, 50, 51, 52, 53, 54, 55, 56, 57, 58, 59, 60, 61, 62, 63, 64, 14, 15, 65, 66, 67, 68, 69, 70, 71, 72, 73, 74, 75, 76, 77, 78, 93, 94, 95, 96, 97, 98, 99, 100, 101, 102, 103, 104, 105, 106, 107, 108, 109, 110] (by decide +kernel) (by decide +kernel)
set_option maxRecDepth 20000 in
theorem gX4_bestChance_X4_trialShare : GoodIn wsX4_bestChance (wsV RX4 155 RX4 yX4_trialShare wsX4_trialShare) := goodIn_app (goodIn_of _ (by decide +kernel)) ggX4_bestChance_X4_trialShare
set_option maxRecDepth 20000 in
theorem ggX4_bestChance_X0_allShares : GoodIn wsX4_bestChance wsX0_allShares := goodIn_r _ [82, 83, 84, 85, 8, 86, 42, 99, 100, 101, 102, 103, 104, 105, 106, 107, 108, 109, 110] (by decide +kernel) (by decide +kernel)
set_option maxRecDepth 20000 in
theorem gX4_bestChance_X0_allShares : GoodIn wsX4_bestChance (wsV RX4 142 RX0 yX0_allShares wsX0_allShares) := goodIn_app (goodIn_of _ (by decide +kernel)) ggX4_bestChance_X0_allShares
set_option maxRecDepth 20000 in
theorem ggX4_bestChance_X4_fraction : GoodIn wsX4_bestChance wsX4_fraction := goodIn_r _ [89, 90, 91, 12, 92] (by decide +kernel) (by decide +kernel)
set_option maxRecDepth 20000 in
theorem gX4_bestChance_X4_fraction : GoodIn wsX4_bestChance (va_wsS RX4 145 yX4_fraction wsX4_fraction) := goodIn_app (goodIn_of _ (by decide +kernel)) ggX4_bestChance_X4_fraction
theorem dX4_bestChance_0 : decode cX4_bestChance 0 = .ok (.aload_n 0, 1) := by decide +kernel
theorem dX4_bestChance_1 : decode cX4_bestChance 1 = .ok (.getfield 10, 3) := by decide +kernel
theorem dX4_bestChance_4 : decode cX4_bestChance 4 = .ok (.iload_n 1, 1) := by decide +kernel
theorem dX4_bestChance_5 : decode cX4_bestChance 5 = .ok (.invokevirtual 76, 3) := by decide +kernel
theorem dX4_bestChance_8 : decode cX4_bestChance 8 = .ok (.ifCond .ne 7, 3) := by decide +kernel
theorem dX4_bestChance_11 : decode cX4_bestChance 11 = .ok (.ldc2_w 135, 3) := by decide +kernel
theorem dX4_bestChance_14 : decode cX4_bestChance 14 = .ok (.lreturn, 1) := by decide +kernel
theorem dX4_bestChance_15 : decode cX4_bestChance 15 = .ok (.iload_n 2, 1) := by decide +kernel
theorem dX4_bestChance_16 : decode cX4_bestChance 16 = .ok (.iconst 0, 1) := by decide +kernel
theorem dX4_bestChance_17 : decode cX4_bestChance 17 = .ok (.iconst 1, 1) := by decide +kernel
theorem dX4_bestChance_18 : decode cX4_bestChance 18 = .ok (.invokestatic 44, 3) := by decide +kernel
theorem dX4_bestChance_21 : decode cX4_bestChance 21 = .ok (.ifCond .ne 7, 3) := by decide +kernel
theorem dX4_bestChance_24 : decode cX4_bestChance 24 = .ok (.ldc2_w 137, 3) := by decide +kernel
theorem dX4_bestChance_27 : decode cX4_bestChance 27 = .ok (.lreturn, 1) := by decide +kernel
theorem dX4_bestChance_28 : decode cX4_bestChance 28 = .ok (.aload_n 0, 1) := by decide +kernel
theorem dX4_bestChance_29 : decode cX4_bestChance 29 = .ok (.iload_n 1, 1) := by decide +kernel
theorem dX4_bestChance_30 : decode cX4_bestChance 30 = .ok (.aload_n 0, 1) := by decide +kernel
theorem dX4_bestChance_31 : decode cX4_bestChance 31 = .ok (.iload_n 1, 1) := by decide +kernel
theorem dX4_bestChance_32 : decode cX4_bestChance 32 = .ok (.invokevirtual 149, 3) := by decide +kernel
theorem dX4_bestChance_35 : decode cX4_bestChance 35 = .ok (.aload_n 0, 1) := by decide +kernel
theorem dX4_bestChance_36 : decode cX4_bestChance 36 = .ok (.getfield 10, 3) := by decide +kernel
theorem dX4_bestChance_39 : decode cX4_bestChance 39 = .ok (.getfield 152, 3) := by decide +kernel
theorem dX4_bestChance_42 : decode cX4_bestChance 42 = .ok (.iload_n 1, 1) := by decide +kernel
theorem dX4_bestChance_43 : decode cX4_bestChance 43 = .ok (.iaload, 1) := by decide +kernel
theorem dX4_bestChance_44 : decode cX4_bestChance 44 = .ok (.invokevirtual 155, 3) := by decide +kernel
theorem dX4_bestChance_47 : decode cX4_bestChance 47 = .ok (.istore_n 3, 1) := by decide +kernel
theorem dX4_bestChance_48 : decode cX4_bestChance 48 = .ok (.iload_n 3, 1) := by decide +kernel
theorem dX4_bestChance_49 : decode cX4_bestChance 49 = .ok (.aload_n 0, 1) := by decide +kernel
theorem dX4_bestChance_50 : decode cX4_bestChance 50 = .ok (.getfield 10, 3) := by decide +kernel
theorem dX4_bestChance_53 : decode cX4_bestChance 53 = .ok (.invokevirtual 142, 3) := by decide +kernel
theorem dX4_bestChance_56 : decode cX4_bestChance 56 = .ok (.iload_n 2, 1) := by decide +kernel
theorem dX4_bestChance_57 : decode cX4_bestChance 57 = .ok (.invokestatic 145, 3) := by decide +kernel
theorem dX4_bestChance_60 : decode cX4_bestChance 60 = .ok (.lreturn, 1) := by decide +kernel
set_option maxRecDepth 20000 in
theorem ggX4_rests_J6_bitCount_0f7a4 : GoodIn wsX4_rests wsJ6_bitCount_0f7a4 := goodIn_r _ [7, 8, 9, 10] (by decide +kernel) (by decide +kernel)
set_option maxRecDepth 20000 in
theorem gX4_rests_J6_bitCount_0f7a4 : GoodIn wsX4_rests (va_wsS RX4 70 yJ6_bitCount_0f7a4 wsJ6_bitCount_0f7a4) := goodIn_app (goodIn_of _ (by decide +kernel)) ggX4_rests_J6_bitCount_0f7a4
set_option maxRecDepth 20000 in
theorem ggX4_rests_X3_weigh : GoodIn wsX4_rests wsX3_weigh := goodIn_r _ [15, 16, 17, 18, 19, 20, 21, 22, 23, 24, 25, 26, 27, 28, 29, 30, 14, 31, 32, 33, 34, 35, 36, 37, 38, 39, 40, 41, 42, 43, 44, 45, 46, 47, 48, 49, 50, 51, 52, 53, 54, 55, 56, 57, 58, 59, 60, 61, 62, 63, 64, 65, 66, 67, 68, 69, 70, 71, 72, 73, 74, 75, 76, 77, 78, 97, 98, 99, 100, 101, 102, 103, 104, 105, 106, 107, 108, 109, 110, 111, 112, 113] (by decide +kernel) (by decide +kernel)
set_option maxRecDepth 20000 in
theorem gX4_rests_X3_weigh : GoodIn wsX4_rests (wsV RX4 159 RX3 yX3_weigh wsX3_weigh) := goodIn_app (goodIn_of _ (by decide +kernel)) ggX4_rests_X3_weigh
set_option maxRecDepth 20000 in
theorem ggX4_rests_X3_howMany : GoodIn wsX4_rests wsX3_howMany := goodIn_r _ [82, 23, 83, 84, 85, 14, 86, 75, 22, 50, 51, 52, 109, 110, 111, 112, 113] (by decide +kernel) (by decide +kernel)
set_option maxRecDepth 20000 in
theorem gX4_rests_X3_howMany : GoodIn wsX4_rests (wsV RX4 163 RX3 yX3_howMany wsX3_howMany) := goodIn_app (goodIn_of _ (by decide +kernel)) ggX4_rests_X3_howMany
set_option maxRecDepth 20000 in
theorem ggX4_rests_X3_row : GoodIn wsX4_rests wsX3_row := goodIn_r _ [90, 23, 83, 84, 85, 14, 86, 75, 22, 50, 51, 52, 109, 110, 111, 112, 113] (by decide +kernel) (by decide +kernel)
set_option maxRecDepth 20000 in
theorem gX4_rests_X3_row : GoodIn wsX4_rests (wsV RX4 166 RX3 yX3_row wsX3_row) := goodIn_app (goodIn_of _ (by decide +kernel)) ggX4_rests_X3_row
theorem dX4_rests_0 : decode cX4_rests 0 = .ok (.aload_n 0, 1) := by decide +kernel
theorem dX4_rests_1 : decode cX4_rests 1 = .ok (.getfield 10, 3) := by decide +kernel
theorem dX4_rests_4 : decode cX4_rests 4 = .ok (.getfield 56, 3) := by decide +kernel
theorem dX4_rests_7 : decode cX4_rests 7 = .ok (.invokestatic 70, 3) := by decide +kernel
theorem dX4_rests_10 : decode cX4_rests 10 = .ok (.iconst 3, 1) := by decide +kernel
theorem dX4_rests_11 : decode cX4_rests 11 = .ok (.if_icmp .le 6, 3) := by decide +kernel
theorem dX4_rests_14 : decode cX4_rests 14 = .ok (.bipush (-4), 2) := by decide +kernel
theorem dX4_rests_16 : decode cX4_rests 16 = .ok (.ireturn, 1) := by decide +kernel
theorem dX4_rests_17 : decode cX4_rests 17 = .ok (.aload_n 0, 1) := by decide +kernel
theorem dX4_rests_18 : decode cX4_rests 18 = .ok (.getfield 40, 3) := by decide +kernel
theorem dX4_rests_21 : decode cX4_rests 21 = .ok (.aload_n 0, 1) := by decide +kernel
theorem dX4_rests_22 : decode cX4_rests 22 = .ok (.getfield 10, 3) := by decide +kernel
theorem dX4_rests_25 : decode cX4_rests 25 = .ok (.invokevirtual 159, 3) := by decide +kernel
theorem dX4_rests_28 : decode cX4_rests 28 = .ok (.iload_n 1, 1) := by decide +kernel
theorem dX4_rests_29 : decode cX4_rests 29 = .ok (.iconst (-1), 1) := by decide +kernel
theorem dX4_rests_30 : decode cX4_rests 30 = .ok (.if_icmp .ne 13, 3) := by decide +kernel
theorem dX4_rests_33 : decode cX4_rests 33 = .ok (.aload_n 0, 1) := by decide +kernel
theorem dX4_rests_34 : decode cX4_rests 34 = .ok (.getfield 40, 3) := by decide +kernel
theorem dX4_rests_37 : decode cX4_rests 37 = .ok (.invokevirtual 163, 3) := by decide +kernel
theorem dX4_rests_40 : decode cX4_rests 40 = .ok (.goto 11, 3) := by decide +kernel
theorem dX4_rests_43 : decode cX4_rests 43 = .ok (.aload_n 0, 1) := by decide +kernel
theorem dX4_rests_44 : decode cX4_rests 44 = .ok (.getfield 40, 3) := by decide +kernel
theorem dX4_rests_47 : decode cX4_rests 47 = .ok (.iload_n 1, 1) := by decide +kernel
theorem dX4_rests_48 : decode cX4_rests 48 = .ok (.invokevirtual 166, 3) := by decide +kernel
theorem dX4_rests_51 : decode cX4_rests 51 = .ok (.ireturn, 1) := by decide +kernel
set_option maxRecDepth 20000 in
theorem ggX4_coup_X0_isThere : GoodIn wsX4_coup wsX0_isThere := goodIn_r _ [7, 8, 9, 10, 11, 12, 13, 51, 52, 53, 54, 55, 56, 57, 58, 59, 60, 61, 62] (by decide +kernel) (by decide +kernel)
set_option maxRecDepth 20000 in
theorem gX4_coup_X0_isThere : GoodIn wsX4_coup (wsV RX4 76 RX0 yX0_isThere wsX0_isThere) := goodIn_app (goodIn_of _ (by decide +kernel)) ggX4_coup_X0_isThere
set_option maxRecDepth 20000 in
theorem ggX4_coup_X0_sprinkled : GoodIn wsX4_coup wsX0_sprinkled := goodIn_r _ [17, 18, 19, 20, 21, 6, 22, 8, 23, 24, 10, 25, 26, 27, 28, 29, 30, 31, 32, 33, 34, 12, 13, 35, 36, 37, 38, 39, 40, 41, 42, 43, 44, 51, 52, 53, 54, 55, 56, 57, 58, 59, 60, 61, 62] (by decide +kernel) (by decide +kernel)
set_option maxRecDepth 20000 in
theorem gX4_coup_X0_sprinkled : GoodIn wsX4_coup (wsV RX4 172 RX0 yX0_sprinkled wsX0_sprinkled) := goodIn_app (goodIn_of _ (by decide +kernel)) ggX4_coup_X0_sprinkled
theorem dX4_coup_0 : decode cX4_coup 0 = .ok (.aload_n 0, 1) := by decide +kernel
theorem dX4_coup_1 : decode cX4_coup 1 = .ok (.getfield 10, 3) := by decide +kernel
theorem dX4_coup_4 : decode cX4_coup 4 = .ok (.iload_n 1, 1) := by decide +kernel
theorem dX4_coup_5 : decode cX4_coup 5 = .ok (.invokevirtual 76, 3) := by decide +kernel
theorem dX4_coup_8 : decode cX4_coup 8 = .ok (.ifCond .ne 5, 3) := by decide +kernel
theorem dX4_coup_11 : decode cX4_coup 11 = .ok (.iconst (-1), 1) := by decide +kernel
theorem dX4_coup_12 : decode cX4_coup 12 = .ok (.ireturn, 1) := by decide +kernel
theorem dX4_coup_13 : decode cX4_coup 13 = .ok (.aload_n 0, 1) := by decide +kernel
theorem dX4_coup_14 : decode cX4_coup 14 = .ok (.getfield 10, 3) := by decide +kernel
theorem dX4_coup_17 : decode cX4_coup 17 = .ok (.getfield 169, 3) := by decide +kernel
theorem dX4_coup_20 : decode cX4_coup 20 = .ok (.iload_n 1, 1) := by decide +kernel
theorem dX4_coup_21 : decode cX4_coup 21 = .ok (.iaload, 1) := by decide +kernel
theorem dX4_coup_22 : decode cX4_coup 22 = .ok (.istore_n 2, 1) := by decide +kernel
theorem dX4_coup_23 : decode cX4_coup 23 = .ok (.aload_n 0, 1) := by decide +kernel
theorem dX4_coup_24 : decode cX4_coup 24 = .ok (.getfield 10, 3) := by decide +kernel
theorem dX4_coup_27 : decode cX4_coup 27 = .ok (.iload_n 2, 1) := by decide +kernel
theorem dX4_coup_28 : decode cX4_coup 28 = .ok (.invokevirtual 172, 3) := by decide +kernel
theorem dX4_coup_31 : decode cX4_coup 31 = .ok (.iconst 1, 1) := by decide +kernel
theorem dX4_coup_32 : decode cX4_coup 32 = .ok (.iload_n 1, 1) := by decide +kernel
theorem dX4_coup_33 : decode cX4_coup 33 = .ok (.ishl, 1) := by decide +kernel
theorem dX4_coup_34 : decode cX4_coup 34 = .ok (.if_icmp .ne 7, 3) := by decide +kernel
theorem dX4_coup_37 : decode cX4_coup 37 = .ok (.iload_n 2, 1) := by decide +kernel
theorem dX4_coup_38 : decode cX4_coup 38 = .ok (.goto 5, 3) := by decide +kernel
theorem dX4_coup_41 : decode cX4_coup 41 = .ok (.bipush (-6), 2) := by decide +kernel
theorem dX4_coup_43 : decode cX4_coup 43 = .ok (.ireturn, 1) := by decide +kernel
set_option maxRecDepth 20000 in
theorem ggX4_quick_X0_isThere : GoodIn wsX4_quick wsX0_isThere := goodIn_r _ [7, 8, 9, 10, 11, 12, 13, 87, 88, 89, 90, 91, 92, 93, 94, 95, 96, 97, 98] (by decide +kernel) (by decide +kernel)
set_option maxRecDepth 20000 in
theorem gX4_quick_X0_isThere : GoodIn wsX4_quick (wsV RX4 76 RX0 yX0_isThere wsX0_isThere) := goodIn_app (goodIn_of _ (by decide +kernel)) ggX4_quick_X0_isThere
set_option maxRecDepth 20000 in
theorem ggX4_quick_X4_within : GoodIn wsX4_quick wsX4_within := goodIn_r _ [11] (by decide +kernel) (by decide +kernel)
set_option maxRecDepth 20000 in
theorem gX4_quick_X4_within : GoodIn wsX4_quick (va_wsS RX4 44 yX4_within wsX4_within) := goodIn_app (goodIn_of _ (by decide +kernel)) ggX4_quick_X4_within
set_option maxRecDepth 20000 in
theorem ggX4_quick_X0_allShares : GoodIn wsX4_quick wsX0_allShares := goodIn_r _ [18, 19, 20, 21, 6, 22, 23, 87, 88, 89, 90, 91, 92, 93, 94, 95, 96, 97, 98] (by decide +kernel) (by decide +kernel)
set_option maxRecDepth 20000 in
theorem gX4_quick_X0_allShares : GoodIn wsX4_quick (wsV RX4 142 RX0 yX0_allShares wsX0_allShares) := goodIn_app (goodIn_of _ (by decide +kernel)) ggX4_quick_X0_allShares
set_option maxRecDepth 20000 in
theorem ggX4_quick_X4_trialShare : GoodIn wsX4_quick wsX4_trialShare := goodIn_r _ [27, 28, 1, 29, 30, 31, 6, 32, 33, 34, 8, 35, 36, 37, 38, 39, 40, 41, 42, 43, 44, 23, 45, 46, 47, 48, 49, 50, 9, 10, 11, 51, 52, 53, 54, 55, 56, 57, 58, 59, 60, 61, 62, 63, 64, 65, 66, 12, 13, 67, 68, 69, 70, 71, 72, 73, 74, 75, 76, 77, 78, 79, 80, 81, 82, 83, 84, 85, 86, 87, 88, 89, 90, 91, 92, 93, 94, 95, 96, 97, 98] (by decide +kernel) (by decide +kernel)
set_option maxRecDepth 20000 in
theorem gX4_quick_X4_trialShare : GoodIn wsX4_quick (wsV RX4 155 RX4 yX4_trialShare wsX4_trialShare) := goodIn_app (goodIn_of _ (by decide +kernel)) ggX4_quick_X4_trialShare
theorem dX4_quick_0 : decode cX4_quick 0 = .ok (.aload_n 0, 1) := by decide +kernel
theorem dX4_quick_1 : decode cX4_quick 1 = .ok (.getfield 10, 3) := by decide +kernel
theorem dX4_quick_4 : decode cX4_quick 4 = .ok (.iload_n 1, 1) := by decide +kernel
theorem dX4_quick_5 : decode cX4_quick 5 = .ok (.invokevirtual 76, 3) := by decide +kernel
theorem dX4_quick_8 : decode cX4_quick 8 = .ok (.ifCond .ne 5, 3) := by decide +kernel
theorem dX4_quick_11 : decode cX4_quick 11 = .ok (.iconst (-1), 1) := by decide +kernel
theorem dX4_quick_12 : decode cX4_quick 12 = .ok (.ireturn, 1) := by decide +kernel
theorem dX4_quick_13 : decode cX4_quick 13 = .ok (.iload_n 3, 1) := by decide +kernel
theorem dX4_quick_14 : decode cX4_quick 14 = .ok (.iconst 1, 1) := by decide +kernel
theorem dX4_quick_15 : decode cX4_quick 15 = .ok (.bipush 100, 2) := by decide +kernel
theorem dX4_quick_17 : decode cX4_quick 17 = .ok (.invokestatic 44, 3) := by decide +kernel
theorem dX4_quick_20 : decode cX4_quick 20 = .ok (.ifCond .eq 12, 3) := by decide +kernel
theorem dX4_quick_23 : decode cX4_quick 23 = .ok (.iload_n 2, 1) := by decide +kernel
theorem dX4_quick_24 : decode cX4_quick 24 = .ok (.iconst 0, 1) := by decide +kernel
theorem dX4_quick_25 : decode cX4_quick 25 = .ok (.iload_n 3, 1) := by decide +kernel
theorem dX4_quick_26 : decode cX4_quick 26 = .ok (.invokestatic 44, 3) := by decide +kernel
theorem dX4_quick_29 : decode cX4_quick 29 = .ok (.ifCond .ne 6, 3) := by decide +kernel
theorem dX4_quick_32 : decode cX4_quick 32 = .ok (.bipush (-2), 2) := by decide +kernel
theorem dX4_quick_34 : decode cX4_quick 34 = .ok (.ireturn, 1) := by decide +kernel
theorem dX4_quick_35 : decode cX4_quick 35 = .ok (.iload_n 2, 1) := by decide +kernel
theorem dX4_quick_36 : decode cX4_quick 36 = .ok (.aload_n 0, 1) := by decide +kernel
theorem dX4_quick_37 : decode cX4_quick 37 = .ok (.getfield 10, 3) := by decide +kernel
theorem dX4_quick_40 : decode cX4_quick 40 = .ok (.invokevirtual 142, 3) := by decide +kernel
theorem dX4_quick_43 : decode cX4_quick 43 = .ok (.imul, 1) := by decide +kernel
theorem dX4_quick_44 : decode cX4_quick 44 = .ok (.istore 4, 2) := by decide +kernel
theorem dX4_quick_46 : decode cX4_quick 46 = .ok (.bipush 9, 2) := by decide +kernel
theorem dX4_quick_48 : decode cX4_quick 48 = .ok (.istore 5, 2) := by decide +kernel
theorem dX4_quick_50 : decode cX4_quick 50 = .ok (.iload 5, 2) := by decide +kernel
theorem dX4_quick_52 : decode cX4_quick 52 = .ok (.ifCond .lt 35, 3) := by decide +kernel
theorem dX4_quick_55 : decode cX4_quick 55 = .ok (.aload_n 0, 1) := by decide +kernel
theorem dX4_quick_56 : decode cX4_quick 56 = .ok (.iload_n 1, 1) := by decide +kernel
theorem dX4_quick_57 : decode cX4_quick 57 = .ok (.aload_n 0, 1) := by decide +kernel
theorem dX4_quick_58 : decode cX4_quick 58 = .ok (.getfield 10, 3) := by decide +kernel
theorem dX4_quick_61 : decode cX4_quick 61 = .ok (.getfield 169, 3) := by decide +kernel
theorem dX4_quick_64 : decode cX4_quick 64 = .ok (.iload_n 1, 1) := by decide +kernel
theorem dX4_quick_65 : decode cX4_quick 65 = .ok (.iaload, 1) := by decide +kernel
theorem dX4_quick_66 : decode cX4_quick 66 = .ok (.iload 5, 2) := by decide +kernel
theorem dX4_quick_68 : decode cX4_quick 68 = .ok (.invokevirtual 155, 3) := by decide +kernel
theorem dX4_quick_71 : decode cX4_quick 71 = .ok (.iload_n 3, 1) := by decide +kernel
theorem dX4_quick_72 : decode cX4_quick 72 = .ok (.imul, 1) := by decide +kernel
theorem dX4_quick_73 : decode cX4_quick 73 = .ok (.iload 4, 2) := by decide +kernel
theorem dX4_quick_75 : decode cX4_quick 75 = .ok (.if_icmp .lt 6, 3) := by decide +kernel
theorem dX4_quick_78 : decode cX4_quick 78 = .ok (.iload 5, 2) := by decide +kernel
theorem dX4_quick_80 : decode cX4_quick 80 = .ok (.ireturn, 1) := by decide +kernel
theorem dX4_quick_81 : decode cX4_quick 81 = .ok (.iinc 5 (-1), 3) := by decide +kernel
theorem dX4_quick_84 : decode cX4_quick 84 = .ok (.goto (-34), 3) := by decide +kernel
theorem dX4_quick_87 : decode cX4_quick 87 = .ok (.bipush (-6), 2) := by decide +kernel
theorem dX4_quick_89 : decode cX4_quick 89 = .ok (.ireturn, 1) := by decide +kernel
set_option maxRecDepth 20000 in
theorem ggX4_bestPlace_X4_trialShare : GoodIn wsX4_bestPlace wsX4_trialShare := goodIn_r _ [7, 8, 1, 9, 10, 11, 12, 13, 14, 15, 16, 17, 18, 19, 20, 21, 22, 23, 24, 25, 26, 27, 28, 29, 30, 31, 32, 33, 34, 6, 35, 36, 37, 38, 39, 40, 41, 42, 43, 44, 45, 46, 47, 48, 49, 50, 51, 52, 53, 54, 55, 56, 57, 58, 59, 60, 61, 62, 63, 64, 65, 66, 67, 68, 69, 70, 71, 72, 73, 74, 75, 76, 77, 78, 79, 80, 81, 82, 83, 84, 85] (by decide +kernel) (by decide +kernel)
set_option maxRecDepth 20000 in
theorem gX4_bestPlace_X4_trialShare : GoodIn wsX4_bestPlace (wsV RX4 155 RX4 yX4_trialShare wsX4_trialShare) := goodIn_app (goodIn_of _ (by decide +kernel)) ggX4_bestPlace_X4_trialShare
theorem dX4_bestPlace_0 : decode cX4_bestPlace 0 = .ok (.iconst 0, 1) := by decide +kernel
theorem dX4_bestPlace_1 : decode cX4_bestPlace 1 = .ok (.istore_n 2, 1) := by decide +kernel
theorem dX4_bestPlace_2 : decode cX4_bestPlace 2 = .ok (.iconst (-1), 1) := by decide +kernel
theorem dX4_bestPlace_3 : decode cX4_bestPlace 3 = .ok (.istore_n 3, 1) := by decide +kernel
theorem dX4_bestPlace_4 : decode cX4_bestPlace 4 = .ok (.iconst 0, 1) := by decide +kernel
theorem dX4_bestPlace_5 : decode cX4_bestPlace 5 = .ok (.istore 4, 2) := by decide +kernel
theorem dX4_bestPlace_7 : decode cX4_bestPlace 7 = .ok (.iload 4, 2) := by decide +kernel
theorem dX4_bestPlace_9 : decode cX4_bestPlace 9 = .ok (.bipush 10, 2) := by decide +kernel
theorem dX4_bestPlace_11 : decode cX4_bestPlace 11 = .ok (.if_icmp .ge 39, 3) := by decide +kernel
theorem dX4_bestPlace_14 : decode cX4_bestPlace 14 = .ok (.aload_n 0, 1) := by decide +kernel
theorem dX4_bestPlace_15 : decode cX4_bestPlace 15 = .ok (.iload_n 1, 1) := by decide +kernel
theorem dX4_bestPlace_16 : decode cX4_bestPlace 16 = .ok (.iload 4, 2) := by decide +kernel
theorem dX4_bestPlace_18 : decode cX4_bestPlace 18 = .ok (.aload_n 0, 1) := by decide +kernel
theorem dX4_bestPlace_19 : decode cX4_bestPlace 19 = .ok (.getfield 10, 3) := by decide +kernel
theorem dX4_bestPlace_22 : decode cX4_bestPlace 22 = .ok (.getfield 152, 3) := by decide +kernel
theorem dX4_bestPlace_25 : decode cX4_bestPlace 25 = .ok (.iload_n 1, 1) := by decide +kernel
theorem dX4_bestPlace_26 : decode cX4_bestPlace 26 = .ok (.iaload, 1) := by decide +kernel
theorem dX4_bestPlace_27 : decode cX4_bestPlace 27 = .ok (.invokevirtual 155, 3) := by decide +kernel
theorem dX4_bestPlace_30 : decode cX4_bestPlace 30 = .ok (.istore 5, 2) := by decide +kernel
theorem dX4_bestPlace_32 : decode cX4_bestPlace 32 = .ok (.iload 5, 2) := by decide +kernel
theorem dX4_bestPlace_34 : decode cX4_bestPlace 34 = .ok (.iload_n 3, 1) := by decide +kernel
theorem dX4_bestPlace_35 : decode cX4_bestPlace 35 = .ok (.if_icmp .le 9, 3) := by decide +kernel
theorem dX4_bestPlace_38 : decode cX4_bestPlace 38 = .ok (.iload 5, 2) := by decide +kernel
theorem dX4_bestPlace_40 : decode cX4_bestPlace 40 = .ok (.istore_n 3, 1) := by decide +kernel
theorem dX4_bestPlace_41 : decode cX4_bestPlace 41 = .ok (.iload 4, 2) := by decide +kernel
theorem dX4_bestPlace_43 : decode cX4_bestPlace 43 = .ok (.istore_n 2, 1) := by decide +kernel
theorem dX4_bestPlace_44 : decode cX4_bestPlace 44 = .ok (.iinc 4 1, 3) := by decide +kernel
theorem dX4_bestPlace_47 : decode cX4_bestPlace 47 = .ok (.goto (-40), 3) := by decide +kernel
theorem dX4_bestPlace_50 : decode cX4_bestPlace 50 = .ok (.iload_n 2, 1) := by decide +kernel
theorem dX4_bestPlace_51 : decode cX4_bestPlace 51 = .ok (.ireturn, 1) := by decide +kernel
set_option maxRecDepth 20000 in
theorem ggX4_trialShare_X0_copyFrom : GoodIn wsX4_trialShare wsX0_copyFrom := goodIn_r _ [7, 8, 9, 10, 11, 12, 13, 14, 15, 16, 17, 18, 19, 20, 21, 22, 23, 69, 70, 71, 72, 73, 74, 75, 76, 77, 78, 79, 80] (by decide +kernel) (by decide +kernel)
set_option maxRecDepth 20000 in
theorem gX4_trialShare_X0_copyFrom : GoodIn wsX4_trialShare (wsV RX4 175 RX0 yX0_copyFrom wsX0_copyFrom) := goodIn_app (goodIn_of _ (by decide +kernel)) ggX4_trialShare_X0_copyFrom
set_option maxRecDepth 20000 in
theorem ggX4_trialShare_X0_put : GoodIn wsX4_trialShare wsX0_put := goodIn_r _ [27, 15, 20, 28, 29, 30, 69, 70, 71, 72, 73, 74, 75, 76, 77, 78, 79, 80] (by decide +kernel) (by decide +kernel)
set_option maxRecDepth 20000 in
theorem gX4_trialShare_X0_put : GoodIn wsX4_trialShare (wsV RX4 52 RX0 yX0_put wsX0_put) := goodIn_app (goodIn_of _ (by decide +kernel)) ggX4_trialShare_X0_put
set_option maxRecDepth 20000 in
theorem ggX4_trialShare_X0_shareOf : GoodIn wsX4_trialShare wsX0_shareOf := goodIn_r _ [34, 21, 35, 36, 37, 6, 38, 10, 11, 39, 40, 41, 42, 15, 20, 43, 44, 45, 46, 47, 29, 48, 49, 50, 51, 52, 13, 9, 53, 54, 55, 8, 56, 57, 58, 59, 60, 61, 62, 69, 70, 71, 72, 73, 74, 75, 76, 77, 78, 79, 80] (by decide +kernel) (by decide +kernel)
set_option maxRecDepth 20000 in
theorem gX4_trialShare_X0_shareOf : GoodIn wsX4_trialShare (wsV RX4 139 RX0 yX0_shareOf wsX0_shareOf) := goodIn_app (goodIn_of _ (by decide +kernel)) ggX4_trialShare_X0_shareOf
theorem dX4_trialShare_0 : decode cX4_trialShare 0 = .ok (.aload_n 0, 1) := by decide +kernel
theorem dX4_trialShare_1 : decode cX4_trialShare 1 = .ok (.getfield 16, 3) := by decide +kernel
theorem dX4_trialShare_4 : decode cX4_trialShare 4 = .ok (.aload_n 0, 1) := by decide +kernel
theorem dX4_trialShare_5 : decode cX4_trialShare 5 = .ok (.getfield 10, 3) := by decide +kernel
theorem dX4_trialShare_8 : decode cX4_trialShare 8 = .ok (.invokevirtual 175, 3) := by decide +kernel
theorem dX4_trialShare_11 : decode cX4_trialShare 11 = .ok (.aload_n 0, 1) := by decide +kernel
theorem dX4_trialShare_12 : decode cX4_trialShare 12 = .ok (.getfield 16, 3) := by decide +kernel
theorem dX4_trialShare_15 : decode cX4_trialShare 15 = .ok (.iload_n 1, 1) := by decide +kernel
theorem dX4_trialShare_16 : decode cX4_trialShare 16 = .ok (.iload_n 2, 1) := by decide +kernel
theorem dX4_trialShare_17 : decode cX4_trialShare 17 = .ok (.iload_n 3, 1) := by decide +kernel
theorem dX4_trialShare_18 : decode cX4_trialShare 18 = .ok (.invokevirtual 52, 3) := by decide +kernel
theorem dX4_trialShare_21 : decode cX4_trialShare 21 = .ok (.aload_n 0, 1) := by decide +kernel
theorem dX4_trialShare_22 : decode cX4_trialShare 22 = .ok (.getfield 16, 3) := by decide +kernel
theorem dX4_trialShare_25 : decode cX4_trialShare 25 = .ok (.iconst 1, 1) := by decide +kernel
theorem dX4_trialShare_26 : decode cX4_trialShare 26 = .ok (.iload_n 1, 1) := by decide +kernel
theorem dX4_trialShare_27 : decode cX4_trialShare 27 = .ok (.ishl, 1) := by decide +kernel
theorem dX4_trialShare_28 : decode cX4_trialShare 28 = .ok (.invokevirtual 139, 3) := by decide +kernel
theorem dX4_trialShare_31 : decode cX4_trialShare 31 = .ok (.ireturn, 1) := by decide +kernel
set_option maxRecDepth 20000 in
theorem ggX4_seen_X4_within : GoodIn wsX4_seen wsX4_within := goodIn_r _ [6] (by decide +kernel) (by decide +kernel)
set_option maxRecDepth 20000 in
theorem gX4_seen_X4_within : GoodIn wsX4_seen (va_wsS RX4 44 yX4_within wsX4_within) := goodIn_app (goodIn_of _ (by decide +kernel)) ggX4_seen_X4_within
set_option maxRecDepth 20000 in
theorem ggX4_seen_X0_addSight : GoodIn wsX4_seen wsX0_addSight := goodIn_r _ [11, 12, 13, 14, 4, 5, 6, 21, 22, 23, 24, 25, 26, 27, 28, 29, 30, 31, 32] (by decide +kernel) (by decide +kernel)
set_option maxRecDepth 20000 in
theorem gX4_seen_X0_addSight : GoodIn wsX4_seen (wsV RX4 178 RX0 yX0_addSight wsX0_addSight) := goodIn_app (goodIn_of _ (by decide +kernel)) ggX4_seen_X0_addSight
theorem dX4_seen_0 : decode cX4_seen 0 = .ok (.iload_n 1, 1) := by decide +kernel
theorem dX4_seen_1 : decode cX4_seen 1 = .ok (.iconst 1, 1) := by decide +kernel
theorem dX4_seen_2 : decode cX4_seen 2 = .ok (.iconst 2, 1) := by decide +kernel
theorem dX4_seen_3 : decode cX4_seen 3 = .ok (.invokestatic 44, 3) := by decide +kernel
theorem dX4_seen_6 : decode cX4_seen 6 = .ok (.ifCond .eq 14, 3) := by decide +kernel
theorem dX4_seen_9 : decode cX4_seen 9 = .ok (.iload_n 2, 1) := by decide +kernel
theorem dX4_seen_10 : decode cX4_seen 10 = .ok (.iconst 0, 1) := by decide +kernel
theorem dX4_seen_11 : decode cX4_seen 11 = .ok (.iconst 5, 1) := by decide +kernel
theorem dX4_seen_12 : decode cX4_seen 12 = .ok (.invokestatic 44, 3) := by decide +kernel
theorem dX4_seen_15 : decode cX4_seen 15 = .ok (.ifCond .ne 5, 3) := by decide +kernel
theorem dX4_seen_18 : decode cX4_seen 18 = .ok (.iconst (-1), 1) := by decide +kernel
theorem dX4_seen_19 : decode cX4_seen 19 = .ok (.ireturn, 1) := by decide +kernel
theorem dX4_seen_20 : decode cX4_seen 20 = .ok (.iload_n 1, 1) := by decide +kernel
theorem dX4_seen_21 : decode cX4_seen 21 = .ok (.iconst 0, 1) := by decide +kernel
theorem dX4_seen_22 : decode cX4_seen 22 = .ok (.iconst 2, 1) := by decide +kernel
theorem dX4_seen_23 : decode cX4_seen 23 = .ok (.invokestatic 44, 3) := by decide +kernel
theorem dX4_seen_26 : decode cX4_seen 26 = .ok (.ifCond .eq 17, 3) := by decide +kernel
theorem dX4_seen_29 : decode cX4_seen 29 = .ok (.iload_n 1, 1) := by decide +kernel
theorem dX4_seen_30 : decode cX4_seen 30 = .ok (.ifCond .ne 16, 3) := by decide +kernel
theorem dX4_seen_33 : decode cX4_seen 33 = .ok (.iload_n 2, 1) := by decide +kernel
theorem dX4_seen_34 : decode cX4_seen 34 = .ok (.iconst 0, 1) := by decide +kernel
theorem dX4_seen_35 : decode cX4_seen 35 = .ok (.bipush 63, 2) := by decide +kernel
theorem dX4_seen_37 : decode cX4_seen 37 = .ok (.invokestatic 44, 3) := by decide +kernel
theorem dX4_seen_40 : decode cX4_seen 40 = .ok (.ifCond .ne 6, 3) := by decide +kernel
theorem dX4_seen_43 : decode cX4_seen 43 = .ok (.bipush (-2), 2) := by decide +kernel
theorem dX4_seen_45 : decode cX4_seen 45 = .ok (.ireturn, 1) := by decide +kernel
theorem dX4_seen_46 : decode cX4_seen 46 = .ok (.aload_n 0, 1) := by decide +kernel
theorem dX4_seen_47 : decode cX4_seen 47 = .ok (.getfield 10, 3) := by decide +kernel
theorem dX4_seen_50 : decode cX4_seen 50 = .ok (.iload_n 1, 1) := by decide +kernel
theorem dX4_seen_51 : decode cX4_seen 51 = .ok (.iload_n 2, 1) := by decide +kernel
theorem dX4_seen_52 : decode cX4_seen 52 = .ok (.invokevirtual 178, 3) := by decide +kernel
theorem dX4_seen_55 : decode cX4_seen 55 = .ok (.ifCond .eq 13, 3) := by decide +kernel
theorem dX4_seen_58 : decode cX4_seen 58 = .ok (.aload_n 0, 1) := by decide +kernel
theorem dX4_seen_59 : decode cX4_seen 59 = .ok (.getfield 10, 3) := by decide +kernel
theorem dX4_seen_62 : decode cX4_seen 62 = .ok (.getfield 181, 3) := by decide +kernel
theorem dX4_seen_65 : decode cX4_seen 65 = .ok (.goto 5, 3) := by decide +kernel
theorem dX4_seen_68 : decode cX4_seen 68 = .ok (.bipush (-4), 2) := by decide +kernel
theorem dX4_seen_70 : decode cX4_seen 70 = .ok (.ireturn, 1) := by decide +kernel
theorem dX4_forget_0 : decode cX4_forget 0 = .ok (.aload_n 0, 1) := by decide +kernel
theorem dX4_forget_1 : decode cX4_forget 1 = .ok (.getfield 10, 3) := by decide +kernel
theorem dX4_forget_4 : decode cX4_forget 4 = .ok (.getfield 181, 3) := by decide +kernel
theorem dX4_forget_7 : decode cX4_forget 7 = .ok (.istore_n 1, 1) := by decide +kernel
theorem dX4_forget_8 : decode cX4_forget 8 = .ok (.aload_n 0, 1) := by decide +kernel
theorem dX4_forget_9 : decode cX4_forget 9 = .ok (.getfield 10, 3) := by decide +kernel
theorem dX4_forget_12 : decode cX4_forget 12 = .ok (.iconst 0, 1) := by decide +kernel
theorem dX4_forget_13 : decode cX4_forget 13 = .ok (.putfield 181, 3) := by decide +kernel
theorem dX4_forget_16 : decode cX4_forget 16 = .ok (.iload_n 1, 1) := by decide +kernel
theorem dX4_forget_17 : decode cX4_forget 17 = .ok (.ireturn, 1) := by decide +kernel
set_option maxRecDepth 20000 in
theorem ggX4_fits_X0_rulers : GoodIn wsX4_fits wsX0_rulers := goodIn_r _ [6, 7, 8, 9, 5, 10, 11, 12, 13, 14, 15, 16, 17, 18, 19, 20, 21, 22, 23, 24, 25, 26, 27, 28, 29, 30, 31, 32, 33, 34, 35, 52, 53, 54, 55, 56, 57, 58, 59, 60, 61, 62, 63] (by decide +kernel) (by decide +kernel)
set_option maxRecDepth 20000 in
theorem gX4_fits_X0_rulers : GoodIn wsX4_fits (wsV RX4 98 RX0 yX0_rulers wsX0_rulers) := goodIn_app (goodIn_of _ (by decide +kernel)) ggX4_fits_X0_rulers
set_option maxRecDepth 20000 in
theorem ggX4_fits_X0_fitsSights : GoodIn wsX4_fits wsX0_fitsSights := goodIn_r _ [39, 40, 41, 42, 23, 24, 25, 52, 53, 54, 55, 56, 57, 58, 59, 60, 61, 62, 63] (by decide +kernel) (by decide +kernel)
set_option maxRecDepth 20000 in
theorem gX4_fits_X0_fitsSights : GoodIn wsX4_fits (wsV RX4 184 RX0 yX0_fitsSights wsX0_fitsSights) := goodIn_app (goodIn_of _ (by decide +kernel)) ggX4_fits_X0_fitsSights
set_option maxRecDepth 20000 in
theorem ggX4_fits_X4_withBit : GoodIn wsX4_fits wsX4_withBit := goodIn_r _ [45] (by decide +kernel) (by decide +kernel)
set_option maxRecDepth 20000 in
theorem gX4_fits_X4_withBit : GoodIn wsX4_fits (va_wsS RX4 60 yX4_withBit wsX4_withBit) := goodIn_app (goodIn_of _ (by decide +kernel)) ggX4_fits_X4_withBit
theorem dX4_fits_0 : decode cX4_fits 0 = .ok (.iconst 0, 1) := by decide +kernel
theorem dX4_fits_1 : decode cX4_fits 1 = .ok (.istore_n 1, 1) := by decide +kernel
theorem dX4_fits_2 : decode cX4_fits 2 = .ok (.iconst 0, 1) := by decide +kernel
theorem dX4_fits_3 : decode cX4_fits 3 = .ok (.istore_n 2, 1) := by decide +kernel
theorem dX4_fits_4 : decode cX4_fits 4 = .ok (.iload_n 2, 1) := by decide +kernel
theorem dX4_fits_5 : decode cX4_fits 5 = .ok (.bipush 10, 2) := by decide +kernel
theorem dX4_fits_7 : decode cX4_fits 7 = .ok (.if_icmp .ge 30, 3) := by decide +kernel
theorem dX4_fits_10 : decode cX4_fits 10 = .ok (.iload_n 1, 1) := by decide +kernel
theorem dX4_fits_11 : decode cX4_fits 11 = .ok (.iload_n 2, 1) := by decide +kernel
theorem dX4_fits_12 : decode cX4_fits 12 = .ok (.aload_n 0, 1) := by decide +kernel
theorem dX4_fits_13 : decode cX4_fits 13 = .ok (.getfield 10, 3) := by decide +kernel
theorem dX4_fits_16 : decode cX4_fits 16 = .ok (.aload_n 0, 1) := by decide +kernel
theorem dX4_fits_17 : decode cX4_fits 17 = .ok (.getfield 10, 3) := by decide +kernel
theorem dX4_fits_20 : decode cX4_fits 20 = .ok (.iload_n 2, 1) := by decide +kernel
theorem dX4_fits_21 : decode cX4_fits 21 = .ok (.invokevirtual 98, 3) := by decide +kernel
theorem dX4_fits_24 : decode cX4_fits 24 = .ok (.invokevirtual 184, 3) := by decide +kernel
theorem dX4_fits_27 : decode cX4_fits 27 = .ok (.invokestatic 60, 3) := by decide +kernel
theorem dX4_fits_30 : decode cX4_fits 30 = .ok (.istore_n 1, 1) := by decide +kernel
theorem dX4_fits_31 : decode cX4_fits 31 = .ok (.iinc 2 1, 3) := by decide +kernel
theorem dX4_fits_34 : decode cX4_fits 34 = .ok (.goto (-30), 3) := by decide +kernel
theorem dX4_fits_37 : decode cX4_fits 37 = .ok (.iload_n 1, 1) := by decide +kernel
theorem dX4_fits_38 : decode cX4_fits 38 = .ok (.ireturn, 1) := by decide +kernel
set_option maxRecDepth 20000 in
theorem ggX4_year_X4_within : GoodIn wsX4_year wsX4_within := goodIn_r _ [8] (by decide +kernel) (by decide +kernel)
set_option maxRecDepth 20000 in
theorem gX4_year_X4_within : GoodIn wsX4_year (va_wsS RX4 44 yX4_within wsX4_within) := goodIn_app (goodIn_of _ (by decide +kernel)) ggX4_year_X4_within
set_option maxRecDepth 20000 in
theorem ggX4_year_X1_begin : GoodIn wsX4_year wsX1_begin := goodIn_r _ [13, 14, 15, 16, 17, 18, 19, 20, 21, 22, 23, 24, 25, 26, 27, 28, 29, 30, 31, 32, 33, 34, 35, 36, 37, 38, 39, 40, 41, 42, 91, 92, 93, 94, 95, 96, 97, 98, 99, 100, 101, 102, 103, 104, 105, 106] (by decide +kernel) (by decide +kernel)
set_option maxRecDepth 20000 in
theorem gX4_year_X1_begin : GoodIn wsX4_year (wsV RX4 187 RX1 yX1_begin wsX1_begin) := goodIn_app (goodIn_of _ (by decide +kernel)) ggX4_year_X1_begin
set_option maxRecDepth 20000 in
theorem ggX4_year_X1_rain : GoodIn wsX4_year wsX1_rain := goodIn_r _ [46, 14, 47, 48, 49, 21, 50, 25, 26, 51, 52, 53, 54, 30, 35, 55, 56, 57, 58, 59, 7, 60, 61, 62, 63, 64, 28, 24, 65, 66, 67, 23, 68, 69, 70, 12, 71, 72, 73, 74, 75, 15, 16, 91, 92, 93, 94, 95, 96, 97, 98, 99, 100, 101, 102, 103, 104, 105, 106] (by decide +kernel) (by decide +kernel)
set_option maxRecDepth 20000 in
theorem gX4_year_X1_rain : GoodIn wsX4_year (wsV RX4 191 RX1 yX1_rain wsX1_rain) := goodIn_app (goodIn_of _ (by decide +kernel)) ggX4_year_X1_rain
set_option maxRecDepth 20000 in
theorem ggX4_year_X1_pass : GoodIn wsX4_year wsX1_pass := goodIn_r _ [79, 17, 15, 14, 80, 59, 7, 60, 91, 92, 93, 94, 95, 96, 97, 98, 99, 100, 101, 102, 103, 104, 105, 106] (by decide +kernel) (by decide +kernel)
set_option maxRecDepth 20000 in
theorem gX4_year_X1_pass : GoodIn wsX4_year (wsV RX4 195 RX1 yX1_pass wsX1_pass) := goodIn_app (goodIn_of _ (by decide +kernel)) ggX4_year_X1_pass
set_option maxRecDepth 20000 in
theorem ggX4_year_X1_yearsOf : GoodIn wsX4_year wsX1_yearsOf := goodIn_r _ [84, 17, 6, 7, 8, 91, 92, 93, 94] (by decide +kernel) (by decide +kernel)
set_option maxRecDepth 20000 in
theorem gX4_year_X1_yearsOf : GoodIn wsX4_year (wsV RX4 125 RX1 yX1_yearsOf wsX1_yearsOf) := goodIn_app (goodIn_of _ (by decide +kernel)) ggX4_year_X1_yearsOf
theorem dX4_year_0 : decode cX4_year 0 = .ok (.iload_n 1, 1) := by decide +kernel
theorem dX4_year_1 : decode cX4_year 1 = .ok (.iconst 0, 1) := by decide +kernel
theorem dX4_year_2 : decode cX4_year 2 = .ok (.sipush 9999, 3) := by decide +kernel
theorem dX4_year_5 : decode cX4_year 5 = .ok (.invokestatic 44, 3) := by decide +kernel
theorem dX4_year_8 : decode cX4_year 8 = .ok (.ifCond .eq 23, 3) := by decide +kernel
theorem dX4_year_11 : decode cX4_year 11 = .ok (.iload_n 2, 1) := by decide +kernel
theorem dX4_year_12 : decode cX4_year 12 = .ok (.iconst 1, 1) := by decide +kernel
theorem dX4_year_13 : decode cX4_year 13 = .ok (.bipush 99, 2) := by decide +kernel
theorem dX4_year_15 : decode cX4_year 15 = .ok (.invokestatic 44, 3) := by decide +kernel
theorem dX4_year_18 : decode cX4_year 18 = .ok (.ifCond .eq 13, 3) := by decide +kernel
theorem dX4_year_21 : decode cX4_year 21 = .ok (.iload_n 3, 1) := by decide +kernel
theorem dX4_year_22 : decode cX4_year 22 = .ok (.iconst 0, 1) := by decide +kernel
theorem dX4_year_23 : decode cX4_year 23 = .ok (.bipush 7, 2) := by decide +kernel
theorem dX4_year_25 : decode cX4_year 25 = .ok (.invokestatic 44, 3) := by decide +kernel
theorem dX4_year_28 : decode cX4_year 28 = .ok (.ifCond .ne 6, 3) := by decide +kernel
theorem dX4_year_31 : decode cX4_year 31 = .ok (.bipush (-2), 2) := by decide +kernel
theorem dX4_year_33 : decode cX4_year 33 = .ok (.ireturn, 1) := by decide +kernel
theorem dX4_year_34 : decode cX4_year 34 = .ok (.aload_n 0, 1) := by decide +kernel
theorem dX4_year_35 : decode cX4_year 35 = .ok (.getfield 33, 3) := by decide +kernel
theorem dX4_year_38 : decode cX4_year 38 = .ok (.aload_n 0, 1) := by decide +kernel
theorem dX4_year_39 : decode cX4_year 39 = .ok (.getfield 10, 3) := by decide +kernel
theorem dX4_year_42 : decode cX4_year 42 = .ok (.invokevirtual 187, 3) := by decide +kernel
theorem dX4_year_45 : decode cX4_year 45 = .ok (.iload_n 1, 1) := by decide +kernel
theorem dX4_year_46 : decode cX4_year 46 = .ok (.istore 4, 2) := by decide +kernel
theorem dX4_year_48 : decode cX4_year 48 = .ok (.iconst 0, 1) := by decide +kernel
theorem dX4_year_49 : decode cX4_year 49 = .ok (.istore 5, 2) := by decide +kernel
theorem dX4_year_51 : decode cX4_year 51 = .ok (.iload 5, 2) := by decide +kernel
theorem dX4_year_53 : decode cX4_year 53 = .ok (.iload_n 2, 1) := by decide +kernel
theorem dX4_year_54 : decode cX4_year 54 = .ok (.if_icmp .ge 42, 3) := by decide +kernel
theorem dX4_year_57 : decode cX4_year 57 = .ok (.bipush 75, 2) := by decide +kernel
theorem dX4_year_59 : decode cX4_year 59 = .ok (.iload 4, 2) := by decide +kernel
theorem dX4_year_61 : decode cX4_year 61 = .ok (.imul, 1) := by decide +kernel
theorem dX4_year_62 : decode cX4_year 62 = .ok (.bipush 74, 2) := by decide +kernel
theorem dX4_year_64 : decode cX4_year 64 = .ok (.iadd, 1) := by decide +kernel
theorem dX4_year_65 : decode cX4_year 65 = .ok (.ldc 190, 2) := by decide +kernel
theorem dX4_year_67 : decode cX4_year 67 = .ok (.irem, 1) := by decide +kernel
theorem dX4_year_68 : decode cX4_year 68 = .ok (.istore 4, 2) := by decide +kernel
theorem dX4_year_70 : decode cX4_year 70 = .ok (.aload_n 0, 1) := by decide +kernel
theorem dX4_year_71 : decode cX4_year 71 = .ok (.getfield 33, 3) := by decide +kernel
theorem dX4_year_74 : decode cX4_year 74 = .ok (.iload 4, 2) := by decide +kernel
theorem dX4_year_76 : decode cX4_year 76 = .ok (.bipush 10, 2) := by decide +kernel
theorem dX4_year_78 : decode cX4_year 78 = .ok (.irem, 1) := by decide +kernel
theorem dX4_year_79 : decode cX4_year 79 = .ok (.invokevirtual 191, 3) := by decide +kernel
theorem dX4_year_82 : decode cX4_year 82 = .ok (.aload_n 0, 1) := by decide +kernel
theorem dX4_year_83 : decode cX4_year 83 = .ok (.getfield 33, 3) := by decide +kernel
theorem dX4_year_86 : decode cX4_year 86 = .ok (.iconst 1, 1) := by decide +kernel
theorem dX4_year_87 : decode cX4_year 87 = .ok (.invokevirtual 195, 3) := by decide +kernel
theorem dX4_year_90 : decode cX4_year 90 = .ok (.iinc 5 1, 3) := by decide +kernel
theorem dX4_year_93 : decode cX4_year 93 = .ok (.goto (-42), 3) := by decide +kernel
theorem dX4_year_96 : decode cX4_year 96 = .ok (.iload_n 3, 1) := by decide +kernel
theorem dX4_year_97 : decode cX4_year 97 = .ok (.bipush 7, 2) := by decide +kernel
theorem dX4_year_99 : decode cX4_year 99 = .ok (.if_icmp .ne 11, 3) := by decide +kernel
theorem dX4_year_102 : decode cX4_year 102 = .ok (.aload_n 0, 1) := by decide +kernel
theorem dX4_year_103 : decode cX4_year 103 = .ok (.getfield 33, 3) := by decide +kernel
theorem dX4_year_106 : decode cX4_year 106 = .ok (.getfield 122, 3) := by decide +kernel
theorem dX4_year_109 : decode cX4_year 109 = .ok (.ireturn, 1) := by decide +kernel
theorem dX4_year_110 : decode cX4_year 110 = .ok (.aload_n 0, 1) := by decide +kernel
theorem dX4_year_111 : decode cX4_year 111 = .ok (.getfield 33, 3) := by decide +kernel
theorem dX4_year_114 : decode cX4_year 114 = .ok (.iload_n 3, 1) := by decide +kernel
theorem dX4_year_115 : decode cX4_year 115 = .ok (.bipush 6, 2) := by decide +kernel
theorem dX4_year_117 : decode cX4_year 117 = .ok (.if_icmp .ne 8, 3) := by decide +kernel
theorem dX4_year_120 : decode cX4_year 120 = .ok (.bipush 8, 2) := by decide +kernel
theorem dX4_year_122 : decode cX4_year 122 = .ok (.goto 4, 3) := by decide +kernel
theorem dX4_year_125 : decode cX4_year 125 = .ok (.iload_n 3, 1) := by decide +kernel
theorem dX4_year_126 : decode cX4_year 126 = .ok (.invokevirtual 125, 3) := by decide +kernel
theorem dX4_year_129 : decode cX4_year 129 = .ok (.ireturn, 1) := by decide +kernel
set_option maxRecDepth 20000 in
theorem ggX4_image_X4_within : GoodIn wsX4_image wsX4_within := goodIn_r _ [9] (by decide +kernel) (by decide +kernel)
set_option maxRecDepth 20000 in
theorem gX4_image_X4_within : GoodIn wsX4_image (va_wsS RX4 44 yX4_within wsX4_within) := goodIn_app (goodIn_of _ (by decide +kernel)) ggX4_image_X4_within
set_option maxRecDepth 20000 in
theorem ggX4_image_X0_init : GoodIn wsX4_image wsX0_init := goodIn_r _ [12, 13, 14, 15, 16, 17, 18, 19, 20, 21, 22, 23, 24, 25, 26, 27, 47, 48, 49, 50, 51, 52, 53, 54, 55, 56, 57, 58] (by decide +kernel) (by decide +kernel)
set_option maxRecDepth 20000 in
theorem gX4_image_X0_init : GoodIn wsX4_image (wsX0_init) := ggX4_image_X0_init
set_option maxRecDepth 20000 in
theorem ggX4_image_X0_copyFrom : GoodIn wsX4_image wsX0_copyFrom := goodIn_r _ [31, 16, 17, 32, 33, 34, 35, 36, 19, 37, 38, 39, 40, 20, 21, 22, 23, 47, 48, 49, 50, 51, 52, 53, 54, 55, 56, 57, 58] (by decide +kernel) (by decide +kernel)
set_option maxRecDepth 20000 in
theorem gX4_image_X0_copyFrom : GoodIn wsX4_image (wsV RX4 175 RX0 yX0_copyFrom wsX0_copyFrom) := goodIn_app (goodIn_of _ (by decide +kernel)) ggX4_image_X0_copyFrom
theorem dX4_image_0 : decode cX4_image 0 = .ok (.iload_n 1, 1) := by decide +kernel
theorem dX4_image_1 : decode cX4_image 1 = .ok (.iconst 0, 1) := by decide +kernel
theorem dX4_image_2 : decode cX4_image 2 = .ok (.iconst 1, 1) := by decide +kernel
theorem dX4_image_3 : decode cX4_image 3 = .ok (.invokestatic 44, 3) := by decide +kernel
theorem dX4_image_6 : decode cX4_image 6 = .ok (.ifCond .ne 6, 3) := by decide +kernel
theorem dX4_image_9 : decode cX4_image 9 = .ok (.bipush (-2), 2) := by decide +kernel
theorem dX4_image_11 : decode cX4_image 11 = .ok (.ireturn, 1) := by decide +kernel
theorem dX4_image_12 : decode cX4_image 12 = .ok (.aload_n 0, 1) := by decide +kernel
theorem dX4_image_13 : decode cX4_image 13 = .ok (.getfield 19, 3) := by decide +kernel
theorem dX4_image_16 : decode cX4_image 16 = .ok (.iload_n 1, 1) := by decide +kernel
theorem dX4_image_17 : decode cX4_image 17 = .ok (.aaload, 1) := by decide +kernel
theorem dX4_image_18 : decode cX4_image 18 = .ok (.astore_n 2, 1) := by decide +kernel
theorem dX4_image_19 : decode cX4_image 19 = .ok (.aload_n 2, 1) := by decide +kernel
theorem dX4_image_20 : decode cX4_image 20 = .ok (.ifnonnull 18, 3) := by decide +kernel
theorem dX4_image_23 : decode cX4_image 23 = .ok (.new 7, 3) := by decide +kernel
theorem dX4_image_26 : decode cX4_image 26 = .ok (.dup, 1) := by decide +kernel
theorem dX4_image_27 : decode cX4_image 27 = .ok (.invokespecial 9, 3) := by decide +kernel
theorem dX4_image_30 : decode cX4_image 30 = .ok (.astore_n 2, 1) := by decide +kernel
theorem dX4_image_31 : decode cX4_image 31 = .ok (.aload_n 0, 1) := by decide +kernel
theorem dX4_image_32 : decode cX4_image 32 = .ok (.getfield 19, 3) := by decide +kernel
theorem dX4_image_35 : decode cX4_image 35 = .ok (.iload_n 1, 1) := by decide +kernel
theorem dX4_image_36 : decode cX4_image 36 = .ok (.aload_n 2, 1) := by decide +kernel
theorem dX4_image_37 : decode cX4_image 37 = .ok (.aastore, 1) := by decide +kernel
theorem dX4_image_38 : decode cX4_image 38 = .ok (.aload_n 2, 1) := by decide +kernel
theorem dX4_image_39 : decode cX4_image 39 = .ok (.aload_n 0, 1) := by decide +kernel
theorem dX4_image_40 : decode cX4_image 40 = .ok (.getfield 10, 3) := by decide +kernel
theorem dX4_image_43 : decode cX4_image 43 = .ok (.invokevirtual 175, 3) := by decide +kernel
theorem dX4_image_46 : decode cX4_image 46 = .ok (.iconst 1, 1) := by decide +kernel
theorem dX4_image_47 : decode cX4_image 47 = .ok (.ireturn, 1) := by decide +kernel
set_option maxRecDepth 20000 in
theorem ggX4_restore_X4_within : GoodIn wsX4_restore wsX4_within := goodIn_r _ [6] (by decide +kernel) (by decide +kernel)
set_option maxRecDepth 20000 in
theorem gX4_restore_X4_within : GoodIn wsX4_restore (va_wsS RX4 44 yX4_within wsX4_within) := goodIn_app (goodIn_of _ (by decide +kernel)) ggX4_restore_X4_within
set_option maxRecDepth 20000 in
theorem ggX4_restore_X0_copyFrom : GoodIn wsX4_restore wsX0_copyFrom := goodIn_r _ [11, 12, 13, 14, 15, 16, 17, 18, 19, 20, 21, 22, 23, 24, 25, 26, 27, 34, 35, 36, 37, 38, 39, 40, 41, 42, 43, 44, 45] (by decide +kernel) (by decide +kernel)
set_option maxRecDepth 20000 in
theorem gX4_restore_X0_copyFrom : GoodIn wsX4_restore (wsV RX4 175 RX0 yX0_copyFrom wsX0_copyFrom) := goodIn_app (goodIn_of _ (by decide +kernel)) ggX4_restore_X0_copyFrom
theorem dX4_restore_0 : decode cX4_restore 0 = .ok (.iload_n 1, 1) := by decide +kernel
theorem dX4_restore_1 : decode cX4_restore 1 = .ok (.iconst 0, 1) := by decide +kernel
theorem dX4_restore_2 : decode cX4_restore 2 = .ok (.iconst 1, 1) := by decide +kernel
theorem dX4_restore_3 : decode cX4_restore 3 = .ok (.invokestatic 44, 3) := by decide +kernel
theorem dX4_restore_6 : decode cX4_restore 6 = .ok (.ifCond .ne 6, 3) := by decide +kernel
theorem dX4_restore_9 : decode cX4_restore 9 = .ok (.bipush (-2), 2) := by decide +kernel
theorem dX4_restore_11 : decode cX4_restore 11 = .ok (.ireturn, 1) := by decide +kernel
theorem dX4_restore_12 : decode cX4_restore 12 = .ok (.aload_n 0, 1) := by decide +kernel
theorem dX4_restore_13 : decode cX4_restore 13 = .ok (.getfield 19, 3) := by decide +kernel
theorem dX4_restore_16 : decode cX4_restore 16 = .ok (.iload_n 1, 1) := by decide +kernel
theorem dX4_restore_17 : decode cX4_restore 17 = .ok (.aaload, 1) := by decide +kernel
theorem dX4_restore_18 : decode cX4_restore 18 = .ok (.astore_n 2, 1) := by decide +kernel
theorem dX4_restore_19 : decode cX4_restore 19 = .ok (.aload_n 2, 1) := by decide +kernel
theorem dX4_restore_20 : decode cX4_restore 20 = .ok (.ifnonnull 6, 3) := by decide +kernel
theorem dX4_restore_23 : decode cX4_restore 23 = .ok (.bipush (-3), 2) := by decide +kernel
theorem dX4_restore_25 : decode cX4_restore 25 = .ok (.ireturn, 1) := by decide +kernel
theorem dX4_restore_26 : decode cX4_restore 26 = .ok (.aload_n 0, 1) := by decide +kernel
theorem dX4_restore_27 : decode cX4_restore 27 = .ok (.getfield 10, 3) := by decide +kernel
theorem dX4_restore_30 : decode cX4_restore 30 = .ok (.aload_n 2, 1) := by decide +kernel
theorem dX4_restore_31 : decode cX4_restore 31 = .ok (.invokevirtual 175, 3) := by decide +kernel
theorem dX4_restore_34 : decode cX4_restore 34 = .ok (.iconst 1, 1) := by decide +kernel
theorem dX4_restore_35 : decode cX4_restore 35 = .ok (.ireturn, 1) := by decide +kernel
set_option maxRecDepth 20000 in
theorem ggX4_told_X4_within : GoodIn wsX4_told wsX4_within := goodIn_r _ [13] (by decide +kernel) (by decide +kernel)
set_option maxRecDepth 20000 in
theorem gX4_told_X4_within : GoodIn wsX4_told (va_wsS RX4 44 yX4_within wsX4_within) := goodIn_app (goodIn_of _ (by decide +kernel)) ggX4_told_X4_within
set_option maxRecDepth 20000 in
theorem ggX4_told_X4_toldOfPerson : GoodIn wsX4_told wsX4_toldOfPerson := goodIn_r _ [17, 3, 18, 19, 20, 21, 22, 23, 24, 25, 26, 27, 11, 12, 13, 28, 29, 30, 31, 32, 33, 34, 35, 36, 39, 40, 41, 42, 43, 44, 45, 46, 47, 48, 49, 50] (by decide +kernel) (by decide +kernel)
set_option maxRecDepth 20000 in
theorem gX4_told_X4_toldOfPerson : GoodIn wsX4_told (wsV RX4 198 RX4 yX4_toldOfPerson wsX4_toldOfPerson) := goodIn_app (goodIn_of _ (by decide +kernel)) ggX4_told_X4_toldOfPerson
theorem dX4_told_0 : decode cX4_told 0 = .ok (.iload_n 1, 1) := by decide +kernel
theorem dX4_told_1 : decode cX4_told 1 = .ok (.tableswitch 87 0 5 #[39, 47, 55, 63, 71, 79], 39) := by decide +kernel
theorem dX4_told_40 : decode cX4_told 40 = .ok (.aload_n 0, 1) := by decide +kernel
theorem dX4_told_41 : decode cX4_told 41 = .ok (.getfield 26, 3) := by decide +kernel
theorem dX4_told_44 : decode cX4_told 44 = .ok (.getfield 91, 3) := by decide +kernel
theorem dX4_told_47 : decode cX4_told 47 = .ok (.ireturn, 1) := by decide +kernel
theorem dX4_told_48 : decode cX4_told 48 = .ok (.aload_n 0, 1) := by decide +kernel
theorem dX4_told_49 : decode cX4_told 49 = .ok (.getfield 10, 3) := by decide +kernel
theorem dX4_told_52 : decode cX4_told 52 = .ok (.getfield 56, 3) := by decide +kernel
theorem dX4_told_55 : decode cX4_told 55 = .ok (.ireturn, 1) := by decide +kernel
theorem dX4_told_56 : decode cX4_told 56 = .ok (.aload_n 0, 1) := by decide +kernel
theorem dX4_told_57 : decode cX4_told 57 = .ok (.getfield 10, 3) := by decide +kernel
theorem dX4_told_60 : decode cX4_told 60 = .ok (.getfield 82, 3) := by decide +kernel
theorem dX4_told_63 : decode cX4_told 63 = .ok (.ireturn, 1) := by decide +kernel
theorem dX4_told_64 : decode cX4_told 64 = .ok (.aload_n 0, 1) := by decide +kernel
theorem dX4_told_65 : decode cX4_told 65 = .ok (.getfield 10, 3) := by decide +kernel
theorem dX4_told_68 : decode cX4_told 68 = .ok (.getfield 85, 3) := by decide +kernel
theorem dX4_told_71 : decode cX4_told 71 = .ok (.ireturn, 1) := by decide +kernel
theorem dX4_told_72 : decode cX4_told 72 = .ok (.aload_n 0, 1) := by decide +kernel
theorem dX4_told_73 : decode cX4_told 73 = .ok (.getfield 10, 3) := by decide +kernel
theorem dX4_told_76 : decode cX4_told 76 = .ok (.getfield 79, 3) := by decide +kernel
theorem dX4_told_79 : decode cX4_told 79 = .ok (.ireturn, 1) := by decide +kernel
theorem dX4_told_80 : decode cX4_told 80 = .ok (.aload_n 0, 1) := by decide +kernel
theorem dX4_told_81 : decode cX4_told 81 = .ok (.getfield 10, 3) := by decide +kernel
theorem dX4_told_84 : decode cX4_told 84 = .ok (.getfield 181, 3) := by decide +kernel
theorem dX4_told_87 : decode cX4_told 87 = .ok (.ireturn, 1) := by decide +kernel
theorem dX4_told_88 : decode cX4_told 88 = .ok (.iload_n 1, 1) := by decide +kernel
theorem dX4_told_89 : decode cX4_told 89 = .ok (.bipush 10, 2) := by decide +kernel
theorem dX4_told_91 : decode cX4_told 91 = .ok (.bipush 19, 2) := by decide +kernel
theorem dX4_told_93 : decode cX4_told 93 = .ok (.invokestatic 44, 3) := by decide +kernel
theorem dX4_told_96 : decode cX4_told 96 = .ok (.ifCond .eq 16, 3) := by decide +kernel
theorem dX4_told_99 : decode cX4_told 99 = .ok (.aload_n 0, 1) := by decide +kernel
theorem dX4_told_100 : decode cX4_told 100 = .ok (.getfield 10, 3) := by decide +kernel
theorem dX4_told_103 : decode cX4_told 103 = .ok (.getfield 128, 3) := by decide +kernel
theorem dX4_told_106 : decode cX4_told 106 = .ok (.iload_n 1, 1) := by decide +kernel
theorem dX4_told_107 : decode cX4_told 107 = .ok (.bipush 10, 2) := by decide +kernel
theorem dX4_told_109 : decode cX4_told 109 = .ok (.isub, 1) := by decide +kernel
theorem dX4_told_110 : decode cX4_told 110 = .ok (.iaload, 1) := by decide +kernel
theorem dX4_told_111 : decode cX4_told 111 = .ok (.ireturn, 1) := by decide +kernel
theorem dX4_told_112 : decode cX4_told 112 = .ok (.iload_n 1, 1) := by decide +kernel
theorem dX4_told_113 : decode cX4_told 113 = .ok (.bipush 20, 2) := by decide +kernel
theorem dX4_told_115 : decode cX4_told 115 = .ok (.if_icmp .ge 8, 3) := by decide +kernel
theorem dX4_told_118 : decode cX4_told 118 = .ok (.bipush (-2), 2) := by decide +kernel
theorem dX4_told_120 : decode cX4_told 120 = .ok (.goto 21, 3) := by decide +kernel
theorem dX4_told_123 : decode cX4_told 123 = .ok (.aload_n 0, 1) := by decide +kernel
theorem dX4_told_124 : decode cX4_told 124 = .ok (.iload_n 1, 1) := by decide +kernel
theorem dX4_told_125 : decode cX4_told 125 = .ok (.bipush 20, 2) := by decide +kernel
theorem dX4_told_127 : decode cX4_told 127 = .ok (.isub, 1) := by decide +kernel
theorem dX4_told_128 : decode cX4_told 128 = .ok (.bipush 10, 2) := by decide +kernel
theorem dX4_told_130 : decode cX4_told 130 = .ok (.idiv, 1) := by decide +kernel
theorem dX4_told_131 : decode cX4_told 131 = .ok (.iload_n 1, 1) := by decide +kernel
theorem dX4_told_132 : decode cX4_told 132 = .ok (.bipush 20, 2) := by decide +kernel
theorem dX4_told_134 : decode cX4_told 134 = .ok (.isub, 1) := by decide +kernel
theorem dX4_told_135 : decode cX4_told 135 = .ok (.bipush 10, 2) := by decide +kernel
theorem dX4_told_137 : decode cX4_told 137 = .ok (.irem, 1) := by decide +kernel
theorem dX4_told_138 : decode cX4_told 138 = .ok (.invokevirtual 198, 3) := by decide +kernel
theorem dX4_told_141 : decode cX4_told 141 = .ok (.ireturn, 1) := by decide +kernel
set_option maxRecDepth 20000 in
theorem ggX4_toldOfPerson_X0_isThere : GoodIn wsX4_toldOfPerson wsX0_isThere := goodIn_r _ [10, 11, 12, 13, 14, 15, 16, 24, 25, 26, 27, 28, 29, 30, 31, 32, 33, 34, 35] (by decide +kernel) (by decide +kernel)
set_option maxRecDepth 20000 in
theorem gX4_toldOfPerson_X0_isThere : GoodIn wsX4_toldOfPerson (wsV RX4 76 RX0 yX0_isThere wsX0_isThere) := goodIn_app (goodIn_of _ (by decide +kernel)) ggX4_toldOfPerson_X0_isThere
set_option maxRecDepth 20000 in
theorem ggX4_toldOfPerson_X4_hasBit : GoodIn wsX4_toldOfPerson wsX4_hasBit := goodIn_r _ [16] (by decide +kernel) (by decide +kernel)
set_option maxRecDepth 20000 in
theorem gX4_toldOfPerson_X4_hasBit : GoodIn wsX4_toldOfPerson (va_wsS RX4 108 yX4_hasBit wsX4_hasBit) := goodIn_app (goodIn_of _ (by decide +kernel)) ggX4_toldOfPerson_X4_hasBit
theorem dX4_toldOfPerson_0 : decode cX4_toldOfPerson 0 = .ok (.aload_n 0, 1) := by decide +kernel
theorem dX4_toldOfPerson_1 : decode cX4_toldOfPerson 1 = .ok (.getfield 10, 3) := by decide +kernel
theorem dX4_toldOfPerson_4 : decode cX4_toldOfPerson 4 = .ok (.iload_n 1, 1) := by decide +kernel
theorem dX4_toldOfPerson_5 : decode cX4_toldOfPerson 5 = .ok (.invokevirtual 76, 3) := by decide +kernel
theorem dX4_toldOfPerson_8 : decode cX4_toldOfPerson 8 = .ok (.ifCond .ne 6, 3) := by decide +kernel
theorem dX4_toldOfPerson_11 : decode cX4_toldOfPerson 11 = .ok (.bipush (-2), 2) := by decide +kernel
theorem dX4_toldOfPerson_13 : decode cX4_toldOfPerson 13 = .ok (.ireturn, 1) := by decide +kernel
theorem dX4_toldOfPerson_14 : decode cX4_toldOfPerson 14 = .ok (.iload_n 2, 1) := by decide +kernel
theorem dX4_toldOfPerson_15 : decode cX4_toldOfPerson 15 = .ok (.tableswitch 89 0 3 #[29, 39, 49, 69], 29) := by decide +kernel
theorem dX4_toldOfPerson_44 : decode cX4_toldOfPerson 44 = .ok (.aload_n 0, 1) := by decide +kernel
theorem dX4_toldOfPerson_45 : decode cX4_toldOfPerson 45 = .ok (.getfield 10, 3) := by decide +kernel
