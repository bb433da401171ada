theorem dX0_init_0 : decode cX0_init 0 = .ok (.aload_n 0, 1) := by decide +kernel
theorem dX0_init_1 : decode cX0_init 1 = .ok (.invokespecial 3, 3) := by decide +kernel
theorem dX0_init_4 : decode cX0_init 4 = .ok (.aload_n 0, 1) := by decide +kernel
theorem dX0_init_5 : decode cX0_init 5 = .ok (.iconst 2, 1) := by decide +kernel
theorem dX0_init_6 : decode cX0_init 6 = .ok (.putfield 9, 3) := by decide +kernel
theorem dX0_init_9 : decode cX0_init 9 = .ok (.aload_n 0, 1) := by decide +kernel
theorem dX0_init_10 : decode cX0_init 10 = .ok (.iconst 5, 1) := by decide +kernel
theorem dX0_init_11 : decode cX0_init 11 = .ok (.putfield 15, 3) := by decide +kernel
theorem dX0_init_14 : decode cX0_init 14 = .ok (.aload_n 0, 1) := by decide +kernel
theorem dX0_init_15 : decode cX0_init 15 = .ok (.bipush 6, 2) := by decide +kernel
theorem dX0_init_17 : decode cX0_init 17 = .ok (.newarray .int, 2) := by decide +kernel
theorem dX0_init_19 : decode cX0_init 19 = .ok (.putfield 18, 3) := by decide +kernel
theorem dX0_init_22 : decode cX0_init 22 = .ok (.aload_n 0, 1) := by decide +kernel
theorem dX0_init_23 : decode cX0_init 23 = .ok (.bipush 6, 2) := by decide +kernel
theorem dX0_init_25 : decode cX0_init 25 = .ok (.newarray .int, 2) := by decide +kernel
theorem dX0_init_27 : decode cX0_init 27 = .ok (.putfield 22, 3) := by decide +kernel
theorem dX0_init_30 : decode cX0_init 30 = .ok (.aload_n 0, 1) := by decide +kernel
theorem dX0_init_31 : decode cX0_init 31 = .ok (.bipush 10, 2) := by decide +kernel
theorem dX0_init_33 : decode cX0_init 33 = .ok (.newarray .int, 2) := by decide +kernel
theorem dX0_init_35 : decode cX0_init 35 = .ok (.putfield 25, 3) := by decide +kernel
theorem dX0_init_38 : decode cX0_init 38 = .ok (.aload_n 0, 1) := by decide +kernel
theorem dX0_init_39 : decode cX0_init 39 = .ok (.bipush 6, 2) := by decide +kernel
theorem dX0_init_41 : decode cX0_init 41 = .ok (.newarray .int, 2) := by decide +kernel
theorem dX0_init_43 : decode cX0_init 43 = .ok (.putfield 28, 3) := by decide +kernel
theorem dX0_init_46 : decode cX0_init 46 = .ok (.aload_n 0, 1) := by decide +kernel
theorem dX0_init_47 : decode cX0_init 47 = .ok (.bipush 6, 2) := by decide +kernel
theorem dX0_init_49 : decode cX0_init 49 = .ok (.newarray .int, 2) := by decide +kernel
theorem dX0_init_51 : decode cX0_init 51 = .ok (.putfield 31, 3) := by decide +kernel
theorem dX0_init_54 : decode cX0_init 54 = .ok (.aload_n 0, 1) := by decide +kernel
theorem dX0_init_55 : decode cX0_init 55 = .ok (.getfield 25, 3) := by decide +kernel
theorem dX0_init_58 : decode cX0_init 58 = .ok (.iconst 1, 1) := by decide +kernel
theorem dX0_init_59 : decode cX0_init 59 = .ok (.invokestatic 34, 3) := by decide +kernel
theorem dX0_init_62 : decode cX0_init 62 = .ok (.return_, 1) := by decide +kernel
theorem dX0_copyFrom_0 : decode cX0_copyFrom 0 = .ok (.aload_n 0, 1) := by decide +kernel
theorem dX0_copyFrom_1 : decode cX0_copyFrom 1 = .ok (.aload_n 1, 1) := by decide +kernel
theorem dX0_copyFrom_2 : decode cX0_copyFrom 2 = .ok (.getfield 9, 3) := by decide +kernel
theorem dX0_copyFrom_5 : decode cX0_copyFrom 5 = .ok (.putfield 9, 3) := by decide +kernel
theorem dX0_copyFrom_8 : decode cX0_copyFrom 8 = .ok (.aload_n 0, 1) := by decide +kernel
theorem dX0_copyFrom_9 : decode cX0_copyFrom 9 = .ok (.aload_n 1, 1) := by decide +kernel
theorem dX0_copyFrom_10 : decode cX0_copyFrom 10 = .ok (.getfield 15, 3) := by decide +kernel
theorem dX0_copyFrom_13 : decode cX0_copyFrom 13 = .ok (.putfield 15, 3) := by decide +kernel
theorem dX0_copyFrom_16 : decode cX0_copyFrom 16 = .ok (.aload_n 0, 1) := by decide +kernel
theorem dX0_copyFrom_17 : decode cX0_copyFrom 17 = .ok (.aload_n 1, 1) := by decide +kernel
theorem dX0_copyFrom_18 : decode cX0_copyFrom 18 = .ok (.getfield 40, 3) := by decide +kernel
theorem dX0_copyFrom_21 : decode cX0_copyFrom 21 = .ok (.putfield 40, 3) := by decide +kernel
theorem dX0_copyFrom_24 : decode cX0_copyFrom 24 = .ok (.aload_n 0, 1) := by decide +kernel
theorem dX0_copyFrom_25 : decode cX0_copyFrom 25 = .ok (.aload_n 1, 1) := by decide +kernel
theorem dX0_copyFrom_26 : decode cX0_copyFrom 26 = .ok (.getfield 43, 3) := by decide +kernel
theorem dX0_copyFrom_29 : decode cX0_copyFrom 29 = .ok (.putfield 43, 3) := by decide +kernel
theorem dX0_copyFrom_32 : decode cX0_copyFrom 32 = .ok (.aload_n 0, 1) := by decide +kernel
theorem dX0_copyFrom_33 : decode cX0_copyFrom 33 = .ok (.aload_n 1, 1) := by decide +kernel
theorem dX0_copyFrom_34 : decode cX0_copyFrom 34 = .ok (.getfield 46, 3) := by decide +kernel
theorem dX0_copyFrom_37 : decode cX0_copyFrom 37 = .ok (.putfield 46, 3) := by decide +kernel
theorem dX0_copyFrom_40 : decode cX0_copyFrom 40 = .ok (.aload_n 0, 1) := by decide +kernel
theorem dX0_copyFrom_41 : decode cX0_copyFrom 41 = .ok (.aload_n 1, 1) := by decide +kernel
theorem dX0_copyFrom_42 : decode cX0_copyFrom 42 = .ok (.getfield 49, 3) := by decide +kernel
theorem dX0_copyFrom_45 : decode cX0_copyFrom 45 = .ok (.putfield 49, 3) := by decide +kernel
theorem dX0_copyFrom_48 : decode cX0_copyFrom 48 = .ok (.aload_n 0, 1) := by decide +kernel
theorem dX0_copyFrom_49 : decode cX0_copyFrom 49 = .ok (.aload_n 1, 1) := by decide +kernel
theorem dX0_copyFrom_50 : decode cX0_copyFrom 50 = .ok (.getfield 52, 3) := by decide +kernel
theorem dX0_copyFrom_53 : decode cX0_copyFrom 53 = .ok (.putfield 52, 3) := by decide +kernel
theorem dX0_copyFrom_56 : decode cX0_copyFrom 56 = .ok (.aload_n 1, 1) := by decide +kernel
theorem dX0_copyFrom_57 : decode cX0_copyFrom 57 = .ok (.getfield 18, 3) := by decide +kernel
theorem dX0_copyFrom_60 : decode cX0_copyFrom 60 = .ok (.iconst 0, 1) := by decide +kernel
theorem dX0_copyFrom_61 : decode cX0_copyFrom 61 = .ok (.aload_n 0, 1) := by decide +kernel
theorem dX0_copyFrom_62 : decode cX0_copyFrom 62 = .ok (.getfield 18, 3) := by decide +kernel
theorem dX0_copyFrom_65 : decode cX0_copyFrom 65 = .ok (.iconst 0, 1) := by decide +kernel
theorem dX0_copyFrom_66 : decode cX0_copyFrom 66 = .ok (.bipush 6, 2) := by decide +kernel
theorem dX0_copyFrom_68 : decode cX0_copyFrom 68 = .ok (.invokestatic 55, 3) := by decide +kernel
theorem dX0_copyFrom_71 : decode cX0_copyFrom 71 = .ok (.aload_n 1, 1) := by decide +kernel
theorem dX0_copyFrom_72 : decode cX0_copyFrom 72 = .ok (.getfield 22, 3) := by decide +kernel
theorem dX0_copyFrom_75 : decode cX0_copyFrom 75 = .ok (.iconst 0, 1) := by decide +kernel
theorem dX0_copyFrom_76 : decode cX0_copyFrom 76 = .ok (.aload_n 0, 1) := by decide +kernel
theorem dX0_copyFrom_77 : decode cX0_copyFrom 77 = .ok (.getfield 22, 3) := by decide +kernel
theorem dX0_copyFrom_80 : decode cX0_copyFrom 80 = .ok (.iconst 0, 1) := by decide +kernel
theorem dX0_copyFrom_81 : decode cX0_copyFrom 81 = .ok (.bipush 6, 2) := by decide +kernel
theorem dX0_copyFrom_83 : decode cX0_copyFrom 83 = .ok (.invokestatic 55, 3) := by decide +kernel
theorem dX0_copyFrom_86 : decode cX0_copyFrom 86 = .ok (.aload_n 1, 1) := by decide +kernel
theorem dX0_copyFrom_87 : decode cX0_copyFrom 87 = .ok (.getfield 25, 3) := by decide +kernel
theorem dX0_copyFrom_90 : decode cX0_copyFrom 90 = .ok (.iconst 0, 1) := by decide +kernel
theorem dX0_copyFrom_91 : decode cX0_copyFrom 91 = .ok (.aload_n 0, 1) := by decide +kernel
theorem dX0_copyFrom_92 : decode cX0_copyFrom 92 = .ok (.getfield 25, 3) := by decide +kernel
theorem dX0_copyFrom_95 : decode cX0_copyFrom 95 = .ok (.iconst 0, 1) := by decide +kernel
theorem dX0_copyFrom_96 : decode cX0_copyFrom 96 = .ok (.bipush 10, 2) := by decide +kernel
theorem dX0_copyFrom_98 : decode cX0_copyFrom 98 = .ok (.invokestatic 55, 3) := by decide +kernel
theorem dX0_copyFrom_101 : decode cX0_copyFrom 101 = .ok (.aload_n 1, 1) := by decide +kernel
theorem dX0_copyFrom_102 : decode cX0_copyFrom 102 = .ok (.getfield 28, 3) := by decide +kernel
theorem dX0_copyFrom_105 : decode cX0_copyFrom 105 = .ok (.iconst 0, 1) := by decide +kernel
theorem dX0_copyFrom_106 : decode cX0_copyFrom 106 = .ok (.aload_n 0, 1) := by decide +kernel
theorem dX0_copyFrom_107 : decode cX0_copyFrom 107 = .ok (.getfield 28, 3) := by decide +kernel
theorem dX0_copyFrom_110 : decode cX0_copyFrom 110 = .ok (.iconst 0, 1) := by decide +kernel
theorem dX0_copyFrom_111 : decode cX0_copyFrom 111 = .ok (.bipush 6, 2) := by decide +kernel
theorem dX0_copyFrom_113 : decode cX0_copyFrom 113 = .ok (.invokestatic 55, 3) := by decide +kernel
theorem dX0_copyFrom_116 : decode cX0_copyFrom 116 = .ok (.aload_n 1, 1) := by decide +kernel
theorem dX0_copyFrom_117 : decode cX0_copyFrom 117 = .ok (.getfield 31, 3) := by decide +kernel
theorem dX0_copyFrom_120 : decode cX0_copyFrom 120 = .ok (.iconst 0, 1) := by decide +kernel
theorem dX0_copyFrom_121 : decode cX0_copyFrom 121 = .ok (.aload_n 0, 1) := by decide +kernel
theorem dX0_copyFrom_122 : decode cX0_copyFrom 122 = .ok (.getfield 31, 3) := by decide +kernel
theorem dX0_copyFrom_125 : decode cX0_copyFrom 125 = .ok (.iconst 0, 1) := by decide +kernel
theorem dX0_copyFrom_126 : decode cX0_copyFrom 126 = .ok (.bipush 6, 2) := by decide +kernel
theorem dX0_copyFrom_128 : decode cX0_copyFrom 128 = .ok (.invokestatic 55, 3) := by decide +kernel
theorem dX0_copyFrom_131 : decode cX0_copyFrom 131 = .ok (.return_, 1) := by decide +kernel
set_option maxRecDepth 20000 in
theorem ggX0_isThere_X4_within : GoodIn wsX0_isThere wsX4_within := goodIn_r _ [4] (by decide +kernel) (by decide +kernel)
set_option maxRecDepth 20000 in
theorem gX0_isThere_X4_within_n61 : GoodIn wsX0_isThere (wsX4_within) := ggX0_isThere_X4_within
set_option maxRecDepth 20000 in
theorem ggX0_isThere_X4_hasBit : GoodIn wsX0_isThere wsX4_hasBit := goodIn_r _ [6] (by decide +kernel) (by decide +kernel)
set_option maxRecDepth 20000 in
theorem gX0_isThere_X4_hasBit_n65 : GoodIn wsX0_isThere (wsX4_hasBit) := ggX0_isThere_X4_hasBit
theorem dX0_isThere_0 : decode cX0_isThere 0 = .ok (.iload_n 1, 1) := by decide +kernel
theorem dX0_isThere_1 : decode cX0_isThere 1 = .ok (.iconst 0, 1) := by decide +kernel
theorem dX0_isThere_2 : decode cX0_isThere 2 = .ok (.iconst 5, 1) := by decide +kernel
theorem dX0_isThere_3 : decode cX0_isThere 3 = .ok (.invokestatic 61, 3) := by decide +kernel
theorem dX0_isThere_6 : decode cX0_isThere 6 = .ok (.ifCond .eq 18, 3) := by decide +kernel
theorem dX0_isThere_9 : decode cX0_isThere 9 = .ok (.aload_n 0, 1) := by decide +kernel
theorem dX0_isThere_10 : decode cX0_isThere 10 = .ok (.getfield 40, 3) := by decide +kernel
theorem dX0_isThere_13 : decode cX0_isThere 13 = .ok (.iload_n 1, 1) := by decide +kernel
theorem dX0_isThere_14 : decode cX0_isThere 14 = .ok (.invokestatic 65, 3) := by decide +kernel
theorem dX0_isThere_17 : decode cX0_isThere 17 = .ok (.ifCond .eq 7, 3) := by decide +kernel
theorem dX0_isThere_20 : decode cX0_isThere 20 = .ok (.iconst 1, 1) := by decide +kernel
theorem dX0_isThere_21 : decode cX0_isThere 21 = .ok (.goto 4, 3) := by decide +kernel
theorem dX0_isThere_24 : decode cX0_isThere 24 = .ok (.iconst 0, 1) := by decide +kernel
theorem dX0_isThere_25 : decode cX0_isThere 25 = .ok (.ireturn, 1) := by decide +kernel
set_option maxRecDepth 20000 in
theorem ggX0_put_X4_within : GoodIn wsX0_put wsX4_within := goodIn_r _ [5] (by decide +kernel) (by decide +kernel)
set_option maxRecDepth 20000 in
theorem gX0_put_X4_within_n61 : GoodIn wsX0_put (wsX4_within) := ggX0_put_X4_within
theorem dX0_put_0 : decode cX0_put 0 = .ok (.iload_n 1, 1) := by decide +kernel
theorem dX0_put_1 : decode cX0_put 1 = .ok (.iconst 0, 1) := by decide +kernel
theorem dX0_put_2 : decode cX0_put 2 = .ok (.iconst 5, 1) := by decide +kernel
theorem dX0_put_3 : decode cX0_put 3 = .ok (.invokestatic 61, 3) := by decide +kernel
theorem dX0_put_6 : decode cX0_put 6 = .ok (.ifCond .eq 17, 3) := by decide +kernel
theorem dX0_put_9 : decode cX0_put 9 = .ok (.aload_n 0, 1) := by decide +kernel
theorem dX0_put_10 : decode cX0_put 10 = .ok (.getfield 18, 3) := by decide +kernel
theorem dX0_put_13 : decode cX0_put 13 = .ok (.iload_n 1, 1) := by decide +kernel
theorem dX0_put_14 : decode cX0_put 14 = .ok (.iload_n 2, 1) := by decide +kernel
theorem dX0_put_15 : decode cX0_put 15 = .ok (.iastore, 1) := by decide +kernel
theorem dX0_put_16 : decode cX0_put 16 = .ok (.aload_n 0, 1) := by decide +kernel
theorem dX0_put_17 : decode cX0_put 17 = .ok (.getfield 22, 3) := by decide +kernel
theorem dX0_put_20 : decode cX0_put 20 = .ok (.iload_n 1, 1) := by decide +kernel
theorem dX0_put_21 : decode cX0_put 21 = .ok (.iload_n 3, 1) := by decide +kernel
theorem dX0_put_22 : decode cX0_put 22 = .ok (.iastore, 1) := by decide +kernel
theorem dX0_put_23 : decode cX0_put 23 = .ok (.return_, 1) := by decide +kernel
theorem dX0_umbrellas_0 : decode cX0_umbrellas 0 = .ok (.aload_n 0, 1) := by decide +kernel
theorem dX0_umbrellas_1 : decode cX0_umbrellas 1 = .ok (.getfield 40, 3) := by decide +kernel
theorem dX0_umbrellas_4 : decode cX0_umbrellas 4 = .ok (.aload_n 0, 1) := by decide +kernel
theorem dX0_umbrellas_5 : decode cX0_umbrellas 5 = .ok (.getfield 43, 3) := by decide +kernel
theorem dX0_umbrellas_8 : decode cX0_umbrellas 8 = .ok (.iconst (-1), 1) := by decide +kernel
theorem dX0_umbrellas_9 : decode cX0_umbrellas 9 = .ok (.ixor, 1) := by decide +kernel
theorem dX0_umbrellas_10 : decode cX0_umbrellas 10 = .ok (.iand, 1) := by decide +kernel
theorem dX0_umbrellas_11 : decode cX0_umbrellas 11 = .ok (.ireturn, 1) := by decide +kernel
set_option maxRecDepth 20000 in
theorem ggX0_openTime_X4_within : GoodIn wsX0_openTime wsX4_within := goodIn_r _ [5] (by decide +kernel) (by decide +kernel)
set_option maxRecDepth 20000 in
theorem gX0_openTime_X4_within_n61 : GoodIn wsX0_openTime (wsX4_within) := ggX0_openTime_X4_within
set_option maxRecDepth 20000 in
theorem ggX0_openTime_X0_openTimeAt : GoodIn wsX0_openTime wsX0_openTimeAt := goodIn_r _ [10, 11, 12, 13, 14, 15, 16, 17, 18, 4, 19, 20, 21, 22, 23, 24, 25, 26, 27, 28, 29, 30, 31] (by decide +kernel) (by decide +kernel)
set_option maxRecDepth 20000 in
theorem gX0_openTime_X0_openTimeAt : GoodIn wsX0_openTime (wsV RX0 69 RX0 yX0_openTimeAt wsX0_openTimeAt) := goodIn_app (goodIn_of _ (by decide +kernel)) ggX0_openTime_X0_openTimeAt
theorem dX0_openTime_0 : decode cX0_openTime 0 = .ok (.iload_n 1, 1) := by decide +kernel
theorem dX0_openTime_1 : decode cX0_openTime 1 = .ok (.iconst 0, 1) := by decide +kernel
theorem dX0_openTime_2 : decode cX0_openTime 2 = .ok (.iconst 5, 1) := by decide +kernel
theorem dX0_openTime_3 : decode cX0_openTime 3 = .ok (.invokestatic 61, 3) := by decide +kernel
theorem dX0_openTime_6 : decode cX0_openTime 6 = .ok (.ifCond .eq 23, 3) := by decide +kernel
theorem dX0_openTime_9 : decode cX0_openTime 9 = .ok (.aload_n 0, 1) := by decide +kernel
theorem dX0_openTime_10 : decode cX0_openTime 10 = .ok (.aload_n 0, 1) := by decide +kernel
theorem dX0_openTime_11 : decode cX0_openTime 11 = .ok (.getfield 18, 3) := by decide +kernel
theorem dX0_openTime_14 : decode cX0_openTime 14 = .ok (.iload_n 1, 1) := by decide +kernel
theorem dX0_openTime_15 : decode cX0_openTime 15 = .ok (.iaload, 1) := by decide +kernel
theorem dX0_openTime_16 : decode cX0_openTime 16 = .ok (.aload_n 0, 1) := by decide +kernel
theorem dX0_openTime_17 : decode cX0_openTime 17 = .ok (.getfield 22, 3) := by decide +kernel
theorem dX0_openTime_20 : decode cX0_openTime 20 = .ok (.iload_n 1, 1) := by decide +kernel
theorem dX0_openTime_21 : decode cX0_openTime 21 = .ok (.iaload, 1) := by decide +kernel
theorem dX0_openTime_22 : decode cX0_openTime 22 = .ok (.iload_n 2, 1) := by decide +kernel
theorem dX0_openTime_23 : decode cX0_openTime 23 = .ok (.invokevirtual 69, 3) := by decide +kernel
theorem dX0_openTime_26 : decode cX0_openTime 26 = .ok (.goto 5, 3) := by decide +kernel
theorem dX0_openTime_29 : decode cX0_openTime 29 = .ok (.bipush (-6), 2) := by decide +kernel
theorem dX0_openTime_31 : decode cX0_openTime 31 = .ok (.ireturn, 1) := by decide +kernel
set_option maxRecDepth 20000 in
theorem ggX0_openTimeAt_X4_hasBit : GoodIn wsX0_openTimeAt wsX4_hasBit := goodIn_r _ [10] (by decide +kernel) (by decide +kernel)
set_option maxRecDepth 20000 in
theorem gX0_openTimeAt_X4_hasBit_n65 : GoodIn wsX0_openTimeAt (wsX4_hasBit) := ggX0_openTimeAt_X4_hasBit
theorem dX0_openTimeAt_0 : decode cX0_openTimeAt 0 = .ok (.aload_n 0, 1) := by decide +kernel
theorem dX0_openTimeAt_1 : decode cX0_openTimeAt 1 = .ok (.getfield 49, 3) := by decide +kernel
theorem dX0_openTimeAt_4 : decode cX0_openTimeAt 4 = .ok (.iload_n 1, 1) := by decide +kernel
theorem dX0_openTimeAt_5 : decode cX0_openTimeAt 5 = .ok (.invokestatic 65, 3) := by decide +kernel
theorem dX0_openTimeAt_8 : decode cX0_openTimeAt 8 = .ok (.ifCond .eq 10, 3) := by decide +kernel
theorem dX0_openTimeAt_11 : decode cX0_openTimeAt 11 = .ok (.aload_n 0, 1) := by decide +kernel
theorem dX0_openTimeAt_12 : decode cX0_openTimeAt 12 = .ok (.getfield 15, 3) := by decide +kernel
theorem dX0_openTimeAt_15 : decode cX0_openTimeAt 15 = .ok (.goto 4, 3) := by decide +kernel
theorem dX0_openTimeAt_18 : decode cX0_openTimeAt 18 = .ok (.iconst 0, 1) := by decide +kernel
theorem dX0_openTimeAt_19 : decode cX0_openTimeAt 19 = .ok (.istore 4, 2) := by decide +kernel
theorem dX0_openTimeAt_21 : decode cX0_openTimeAt 21 = .ok (.iload_n 1, 1) := by decide +kernel
theorem dX0_openTimeAt_22 : decode cX0_openTimeAt 22 = .ok (.iload_n 3, 1) := by decide +kernel
theorem dX0_openTimeAt_23 : decode cX0_openTimeAt 23 = .ok (.isub, 1) := by decide +kernel
theorem dX0_openTimeAt_24 : decode cX0_openTimeAt 24 = .ok (.invokestatic 73, 3) := by decide +kernel
theorem dX0_openTimeAt_27 : decode cX0_openTimeAt 27 = .ok (.aload_n 0, 1) := by decide +kernel
theorem dX0_openTimeAt_28 : decode cX0_openTimeAt 28 = .ok (.getfield 9, 3) := by decide +kernel
theorem dX0_openTimeAt_31 : decode cX0_openTimeAt 31 = .ok (.imul, 1) := by decide +kernel
theorem dX0_openTimeAt_32 : decode cX0_openTimeAt 32 = .ok (.iload 4, 2) := by decide +kernel
theorem dX0_openTimeAt_34 : decode cX0_openTimeAt 34 = .ok (.iadd, 1) := by decide +kernel
theorem dX0_openTimeAt_35 : decode cX0_openTimeAt 35 = .ok (.iload_n 2, 1) := by decide +kernel
theorem dX0_openTimeAt_36 : decode cX0_openTimeAt 36 = .ok (.iadd, 1) := by decide +kernel
theorem dX0_openTimeAt_37 : decode cX0_openTimeAt 37 = .ok (.ireturn, 1) := by decide +kernel
set_option maxRecDepth 20000 in
theorem ggX0_firstOf_X4_hasBit : GoodIn wsX0_firstOf wsX4_hasBit := goodIn_r _ [9] (by decide +kernel) (by decide +kernel)
set_option maxRecDepth 20000 in
theorem gX0_firstOf_X4_hasBit_n65 : GoodIn wsX0_firstOf (wsX4_hasBit) := ggX0_firstOf_X4_hasBit
set_option maxRecDepth 20000 in
theorem ggX0_firstOf_X0_openTimeAt : GoodIn wsX0_firstOf wsX0_openTimeAt := goodIn_r _ [14, 15, 16, 17, 18, 5, 19, 20, 7, 8, 9, 21, 22, 23, 24, 25, 26, 27, 28, 29, 30, 31, 32] (by decide +kernel) (by decide +kernel)
set_option maxRecDepth 20000 in
theorem gX0_firstOf_X0_openTimeAt : GoodIn wsX0_firstOf (wsV RX0 69 RX0 yX0_openTimeAt wsX0_openTimeAt) := goodIn_app (goodIn_of _ (by decide +kernel)) ggX0_firstOf_X0_openTimeAt
theorem dX0_firstOf_0 : decode cX0_firstOf 0 = .ok (.iconst 0, 1) := by decide +kernel
theorem dX0_firstOf_1 : decode cX0_firstOf 1 = .ok (.istore_n 3, 1) := by decide +kernel
theorem dX0_firstOf_2 : decode cX0_firstOf 2 = .ok (.sipush 1000, 3) := by decide +kernel
theorem dX0_firstOf_5 : decode cX0_firstOf 5 = .ok (.istore 4, 2) := by decide +kernel
theorem dX0_firstOf_7 : decode cX0_firstOf 7 = .ok (.iconst 0, 1) := by decide +kernel
theorem dX0_firstOf_8 : decode cX0_firstOf 8 = .ok (.istore 5, 2) := by decide +kernel
theorem dX0_firstOf_10 : decode cX0_firstOf 10 = .ok (.iload 5, 2) := by decide +kernel
theorem dX0_firstOf_12 : decode cX0_firstOf 12 = .ok (.bipush 6, 2) := by decide +kernel
theorem dX0_firstOf_14 : decode cX0_firstOf 14 = .ok (.if_icmp .ge 80, 3) := by decide +kernel
theorem dX0_firstOf_17 : decode cX0_firstOf 17 = .ok (.iload_n 1, 1) := by decide +kernel
theorem dX0_firstOf_18 : decode cX0_firstOf 18 = .ok (.iload 5, 2) := by decide +kernel
theorem dX0_firstOf_20 : decode cX0_firstOf 20 = .ok (.invokestatic 65, 3) := by decide +kernel
theorem dX0_firstOf_23 : decode cX0_firstOf 23 = .ok (.ifCond .eq 65, 3) := by decide +kernel
theorem dX0_firstOf_26 : decode cX0_firstOf 26 = .ok (.aload_n 0, 1) := by decide +kernel
theorem dX0_firstOf_27 : decode cX0_firstOf 27 = .ok (.aload_n 0, 1) := by decide +kernel
theorem dX0_firstOf_28 : decode cX0_firstOf 28 = .ok (.getfield 18, 3) := by decide +kernel
theorem dX0_firstOf_31 : decode cX0_firstOf 31 = .ok (.iload 5, 2) := by decide +kernel
theorem dX0_firstOf_33 : decode cX0_firstOf 33 = .ok (.iaload, 1) := by decide +kernel
theorem dX0_firstOf_34 : decode cX0_firstOf 34 = .ok (.aload_n 0, 1) := by decide +kernel
theorem dX0_firstOf_35 : decode cX0_firstOf 35 = .ok (.getfield 22, 3) := by decide +kernel
theorem dX0_firstOf_38 : decode cX0_firstOf 38 = .ok (.iload 5, 2) := by decide +kernel
theorem dX0_firstOf_40 : decode cX0_firstOf 40 = .ok (.iaload, 1) := by decide +kernel
theorem dX0_firstOf_41 : decode cX0_firstOf 41 = .ok (.iload_n 2, 1) := by decide +kernel
theorem dX0_firstOf_42 : decode cX0_firstOf 42 = .ok (.invokevirtual 69, 3) := by decide +kernel
theorem dX0_firstOf_45 : decode cX0_firstOf 45 = .ok (.istore 6, 2) := by decide +kernel
theorem dX0_firstOf_47 : decode cX0_firstOf 47 = .ok (.iload 6, 2) := by decide +kernel
theorem dX0_firstOf_49 : decode cX0_firstOf 49 = .ok (.iload 4, 2) := by decide +kernel
theorem dX0_firstOf_51 : decode cX0_firstOf 51 = .ok (.if_icmp .ge 10, 3) := by decide +kernel
theorem dX0_firstOf_54 : decode cX0_firstOf 54 = .ok (.iconst 1, 1) := by decide +kernel
theorem dX0_firstOf_55 : decode cX0_firstOf 55 = .ok (.iload 5, 2) := by decide +kernel
theorem dX0_firstOf_57 : decode cX0_firstOf 57 = .ok (.ishl, 1) := by decide +kernel
theorem dX0_firstOf_58 : decode cX0_firstOf 58 = .ok (.goto 20, 3) := by decide +kernel
theorem dX0_firstOf_61 : decode cX0_firstOf 61 = .ok (.iload 6, 2) := by decide +kernel
theorem dX0_firstOf_63 : decode cX0_firstOf 63 = .ok (.iload 4, 2) := by decide +kernel
theorem dX0_firstOf_65 : decode cX0_firstOf 65 = .ok (.if_icmp .ne 12, 3) := by decide +kernel
theorem dX0_firstOf_68 : decode cX0_firstOf 68 = .ok (.iload_n 3, 1) := by decide +kernel
theorem dX0_firstOf_69 : decode cX0_firstOf 69 = .ok (.iconst 1, 1) := by decide +kernel
theorem dX0_firstOf_70 : decode cX0_firstOf 70 = .ok (.iload 5, 2) := by decide +kernel
theorem dX0_firstOf_72 : decode cX0_firstOf 72 = .ok (.ishl, 1) := by decide +kernel
theorem dX0_firstOf_73 : decode cX0_firstOf 73 = .ok (.ior, 1) := by decide +kernel
theorem dX0_firstOf_74 : decode cX0_firstOf 74 = .ok (.goto 4, 3) := by decide +kernel
theorem dX0_firstOf_77 : decode cX0_firstOf 77 = .ok (.iload_n 3, 1) := by decide +kernel
theorem dX0_firstOf_78 : decode cX0_firstOf 78 = .ok (.istore_n 3, 1) := by decide +kernel
theorem dX0_firstOf_79 : decode cX0_firstOf 79 = .ok (.iload 4, 2) := by decide +kernel
theorem dX0_firstOf_81 : decode cX0_firstOf 81 = .ok (.iload 6, 2) := by decide +kernel
theorem dX0_firstOf_83 : decode cX0_firstOf 83 = .ok (.invokestatic 79, 3) := by decide +kernel
theorem dX0_firstOf_86 : decode cX0_firstOf 86 = .ok (.istore 4, 2) := by decide +kernel
theorem dX0_firstOf_88 : decode cX0_firstOf 88 = .ok (.iinc 5 1, 3) := by decide +kernel
theorem dX0_firstOf_91 : decode cX0_firstOf 91 = .ok (.goto (-81), 3) := by decide +kernel
theorem dX0_firstOf_94 : decode cX0_firstOf 94 = .ok (.iload_n 3, 1) := by decide +kernel
theorem dX0_firstOf_95 : decode cX0_firstOf 95 = .ok (.ireturn, 1) := by decide +kernel
set_option maxRecDepth 20000 in
theorem ggX0_rulers_X0_umbrellas : GoodIn wsX0_rulers wsX0_umbrellas := goodIn_r _ [5, 6, 7, 31, 32, 33, 34, 35, 36, 37, 38, 39, 40, 41, 42] (by decide +kernel) (by decide +kernel)
set_option maxRecDepth 20000 in
theorem gX0_rulers_X0_umbrellas : GoodIn wsX0_rulers (wsV RX0 83 RX0 yX0_umbrellas wsX0_umbrellas) := goodIn_app (goodIn_of _ (by decide +kernel)) ggX0_rulers_X0_umbrellas
set_option maxRecDepth 20000 in
theorem ggX0_rulers_X0_firstOf : GoodIn wsX0_rulers wsX0_firstOf := goodIn_r _ [11, 12, 13, 14, 15, 16, 17, 18, 19, 20, 21, 22, 23, 4, 24, 25, 26, 27, 28, 29, 30, 31, 32, 33, 34, 35, 36, 37, 38, 39, 40, 41, 42] (by decide +kernel) (by decide +kernel)
set_option maxRecDepth 20000 in
theorem gX0_rulers_X0_firstOf : GoodIn wsX0_rulers (wsV RX0 87 RX0 yX0_firstOf wsX0_firstOf) := goodIn_app (goodIn_of _ (by decide +kernel)) ggX0_rulers_X0_firstOf
theorem dX0_rulers_0 : decode cX0_rulers 0 = .ok (.aload_n 0, 1) := by decide +kernel
theorem dX0_rulers_1 : decode cX0_rulers 1 = .ok (.aload_n 0, 1) := by decide +kernel
theorem dX0_rulers_2 : decode cX0_rulers 2 = .ok (.invokevirtual 83, 3) := by decide +kernel
theorem dX0_rulers_5 : decode cX0_rulers 5 = .ok (.iload_n 1, 1) := by decide +kernel
theorem dX0_rulers_6 : decode cX0_rulers 6 = .ok (.invokevirtual 87, 3) := by decide +kernel
theorem dX0_rulers_9 : decode cX0_rulers 9 = .ok (.ireturn, 1) := by decide +kernel
set_option maxRecDepth 20000 in
theorem ggX0_sprinkled_X0_umbrellas : GoodIn wsX0_sprinkled wsX0_umbrellas := goodIn_r _ [6, 7, 8, 33, 34, 35, 36, 37, 38, 39, 40, 41, 42, 43, 44] (by decide +kernel) (by decide +kernel)
set_option maxRecDepth 20000 in
theorem gX0_sprinkled_X0_umbrellas : GoodIn wsX0_sprinkled (wsV RX0 83 RX0 yX0_umbrellas wsX0_umbrellas) := goodIn_app (goodIn_of _ (by decide +kernel)) ggX0_sprinkled_X0_umbrellas
set_option maxRecDepth 20000 in
theorem ggX0_sprinkled_X4_withBit : GoodIn wsX0_sprinkled wsX4_withBit := goodIn_r _ [11] (by decide +kernel) (by decide +kernel)
set_option maxRecDepth 20000 in
theorem gX0_sprinkled_X4_withBit_n90 : GoodIn wsX0_sprinkled (wsX4_withBit) := ggX0_sprinkled_X4_withBit
set_option maxRecDepth 20000 in
theorem ggX0_sprinkled_X0_firstOf : GoodIn wsX0_sprinkled wsX0_firstOf := goodIn_r _ [15, 1, 16, 17, 18, 19, 20, 21, 10, 22, 23, 24, 25, 5, 26, 27, 28, 29, 30, 31, 32, 33, 34, 35, 36, 37, 38, 39, 40, 41, 42, 43, 44] (by decide +kernel) (by decide +kernel)
set_option maxRecDepth 20000 in
theorem gX0_sprinkled_X0_firstOf : GoodIn wsX0_sprinkled (wsV RX0 87 RX0 yX0_firstOf wsX0_firstOf) := goodIn_app (goodIn_of _ (by decide +kernel)) ggX0_sprinkled_X0_firstOf
theorem dX0_sprinkled_0 : decode cX0_sprinkled 0 = .ok (.aload_n 0, 1) := by decide +kernel
theorem dX0_sprinkled_1 : decode cX0_sprinkled 1 = .ok (.invokevirtual 83, 3) := by decide +kernel
theorem dX0_sprinkled_4 : decode cX0_sprinkled 4 = .ok (.istore_n 2, 1) := by decide +kernel
theorem dX0_sprinkled_5 : decode cX0_sprinkled 5 = .ok (.iconst 0, 1) := by decide +kernel
theorem dX0_sprinkled_6 : decode cX0_sprinkled 6 = .ok (.istore_n 3, 1) := by decide +kernel
theorem dX0_sprinkled_7 : decode cX0_sprinkled 7 = .ok (.iload_n 3, 1) := by decide +kernel
theorem dX0_sprinkled_8 : decode cX0_sprinkled 8 = .ok (.bipush 6, 2) := by decide +kernel
theorem dX0_sprinkled_10 : decode cX0_sprinkled 10 = .ok (.if_icmp .ge 30, 3) := by decide +kernel
theorem dX0_sprinkled_13 : decode cX0_sprinkled 13 = .ok (.aload_n 0, 1) := by decide +kernel
theorem dX0_sprinkled_14 : decode cX0_sprinkled 14 = .ok (.getfield 18, 3) := by decide +kernel
theorem dX0_sprinkled_17 : decode cX0_sprinkled 17 = .ok (.iload_n 3, 1) := by decide +kernel
theorem dX0_sprinkled_18 : decode cX0_sprinkled 18 = .ok (.iaload, 1) := by decide +kernel
theorem dX0_sprinkled_19 : decode cX0_sprinkled 19 = .ok (.iload_n 1, 1) := by decide +kernel
theorem dX0_sprinkled_20 : decode cX0_sprinkled 20 = .ok (.if_icmp .ne 7, 3) := by decide +kernel
theorem dX0_sprinkled_23 : decode cX0_sprinkled 23 = .ok (.iload_n 2, 1) := by decide +kernel
theorem dX0_sprinkled_24 : decode cX0_sprinkled 24 = .ok (.goto 9, 3) := by decide +kernel
theorem dX0_sprinkled_27 : decode cX0_sprinkled 27 = .ok (.iload_n 2, 1) := by decide +kernel
theorem dX0_sprinkled_28 : decode cX0_sprinkled 28 = .ok (.iload_n 3, 1) := by decide +kernel
theorem dX0_sprinkled_29 : decode cX0_sprinkled 29 = .ok (.iconst 0, 1) := by decide +kernel
theorem dX0_sprinkled_30 : decode cX0_sprinkled 30 = .ok (.invokestatic 90, 3) := by decide +kernel
theorem dX0_sprinkled_33 : decode cX0_sprinkled 33 = .ok (.istore_n 2, 1) := by decide +kernel
theorem dX0_sprinkled_34 : decode cX0_sprinkled 34 = .ok (.iinc 3 1, 3) := by decide +kernel
theorem dX0_sprinkled_37 : decode cX0_sprinkled 37 = .ok (.goto (-30), 3) := by decide +kernel
theorem dX0_sprinkled_40 : decode cX0_sprinkled 40 = .ok (.aload_n 0, 1) := by decide +kernel
theorem dX0_sprinkled_41 : decode cX0_sprinkled 41 = .ok (.iload_n 2, 1) := by decide +kernel
theorem dX0_sprinkled_42 : decode cX0_sprinkled 42 = .ok (.iload_n 1, 1) := by decide +kernel
theorem dX0_sprinkled_43 : decode cX0_sprinkled 43 = .ok (.invokevirtual 87, 3) := by decide +kernel
theorem dX0_sprinkled_46 : decode cX0_sprinkled 46 = .ok (.ireturn, 1) := by decide +kernel
theorem dX0_allWeights_0 : decode cX0_allWeights 0 = .ok (.iconst 0, 1) := by decide +kernel
theorem dX0_allWeights_1 : decode cX0_allWeights 1 = .ok (.istore_n 1, 1) := by decide +kernel
theorem dX0_allWeights_2 : decode cX0_allWeights 2 = .ok (.iconst 0, 1) := by decide +kernel
theorem dX0_allWeights_3 : decode cX0_allWeights 3 = .ok (.istore_n 2, 1) := by decide +kernel
theorem dX0_allWeights_4 : decode cX0_allWeights 4 = .ok (.iload_n 2, 1) := by decide +kernel
theorem dX0_allWeights_5 : decode cX0_allWeights 5 = .ok (.bipush 10, 2) := by decide +kernel
theorem dX0_allWeights_7 : decode cX0_allWeights 7 = .ok (.if_icmp .ge 18, 3) := by decide +kernel
theorem dX0_allWeights_10 : decode cX0_allWeights 10 = .ok (.iload_n 1, 1) := by decide +kernel
theorem dX0_allWeights_11 : decode cX0_allWeights 11 = .ok (.aload_n 0, 1) := by decide +kernel
theorem dX0_allWeights_12 : decode cX0_allWeights 12 = .ok (.getfield 25, 3) := by decide +kernel
theorem dX0_allWeights_15 : decode cX0_allWeights 15 = .ok (.iload_n 2, 1) := by decide +kernel
theorem dX0_allWeights_16 : decode cX0_allWeights 16 = .ok (.iaload, 1) := by decide +kernel
theorem dX0_allWeights_17 : decode cX0_allWeights 17 = .ok (.iadd, 1) := by decide +kernel
theorem dX0_allWeights_18 : decode cX0_allWeights 18 = .ok (.istore_n 1, 1) := by decide +kernel
theorem dX0_allWeights_19 : decode cX0_allWeights 19 = .ok (.iinc 2 1, 3) := by decide +kernel
theorem dX0_allWeights_22 : decode cX0_allWeights 22 = .ok (.goto (-18), 3) := by decide +kernel
theorem dX0_allWeights_25 : decode cX0_allWeights 25 = .ok (.iload_n 1, 1) := by decide +kernel
theorem dX0_allWeights_26 : decode cX0_allWeights 26 = .ok (.ireturn, 1) := by decide +kernel
set_option maxRecDepth 20000 in
theorem ggX0_allShares_X0_allWeights : GoodIn wsX0_allShares wsX0_allWeights := goodIn_r _ [5, 6, 7, 8, 9, 10, 11, 12, 13, 14, 15, 16, 17, 18] (by decide +kernel) (by decide +kernel)
set_option maxRecDepth 20000 in
theorem gX0_allShares_X0_allWeights : GoodIn wsX0_allShares (wsV RX0 94 RX0 yX0_allWeights wsX0_allWeights) := goodIn_app (goodIn_of _ (by decide +kernel)) ggX0_allShares_X0_allWeights
theorem dX0_allShares_0 : decode cX0_allShares 0 = .ok (.aload_n 0, 1) := by decide +kernel
theorem dX0_allShares_1 : decode cX0_allShares 1 = .ok (.invokevirtual 94, 3) := by decide +kernel
theorem dX0_allShares_4 : decode cX0_allShares 4 = .ok (.bipush 60, 2) := by decide +kernel
theorem dX0_allShares_6 : decode cX0_allShares 6 = .ok (.imul, 1) := by decide +kernel
theorem dX0_allShares_7 : decode cX0_allShares 7 = .ok (.ireturn, 1) := by decide +kernel
set_option maxRecDepth 20000 in
theorem ggX0_shareOf_X0_umbrellas : GoodIn wsX0_shareOf wsX0_umbrellas := goodIn_r _ [6, 7, 8, 39, 40, 41, 42, 43, 44, 45, 46, 47, 48, 49, 50] (by decide +kernel) (by decide +kernel)
set_option maxRecDepth 20000 in
theorem gX0_shareOf_X0_umbrellas : GoodIn wsX0_shareOf (wsV RX0 83 RX0 yX0_umbrellas wsX0_umbrellas) := goodIn_app (goodIn_of _ (by decide +kernel)) ggX0_shareOf_X0_umbrellas
set_option maxRecDepth 20000 in
theorem ggX0_shareOf_X0_firstOf : GoodIn wsX0_shareOf wsX0_firstOf := goodIn_r _ [12, 13, 14, 15, 16, 17, 18, 19, 20, 21, 22, 23, 24, 5, 25, 26, 27, 28, 29, 30, 31, 39, 40, 41, 42, 43, 44, 45, 46, 47, 48, 49, 50] (by decide +kernel) (by decide +kernel)
set_option maxRecDepth 20000 in
theorem gX0_shareOf_X0_firstOf : GoodIn wsX0_shareOf (wsV RX0 87 RX0 yX0_firstOf wsX0_firstOf) := goodIn_app (goodIn_of _ (by decide +kernel)) ggX0_shareOf_X0_firstOf
set_option maxRecDepth 20000 in
theorem ggX0_shareOf_J6_bitCount_0f7a4 : GoodIn wsX0_shareOf wsJ6_bitCount_0f7a4 := goodIn_r _ [35, 36, 37, 38] (by decide +kernel) (by decide +kernel)
set_option maxRecDepth 20000 in
theorem gX0_shareOf_J6_bitCount_0f7a4 : GoodIn wsX0_shareOf (va_wsS RX0 97 yJ6_bitCount_0f7a4 wsJ6_bitCount_0f7a4) := goodIn_app (goodIn_of _ (by decide +kernel)) ggX0_shareOf_J6_bitCount_0f7a4
theorem dX0_shareOf_0 : decode cX0_shareOf 0 = .ok (.iconst 0, 1) := by decide +kernel
theorem dX0_shareOf_1 : decode cX0_shareOf 1 = .ok (.istore_n 2, 1) := by decide +kernel
theorem dX0_shareOf_2 : decode cX0_shareOf 2 = .ok (.iconst 0, 1) := by decide +kernel
theorem dX0_shareOf_3 : decode cX0_shareOf 3 = .ok (.istore_n 3, 1) := by decide +kernel
theorem dX0_shareOf_4 : decode cX0_shareOf 4 = .ok (.iload_n 3, 1) := by decide +kernel
theorem dX0_shareOf_5 : decode cX0_shareOf 5 = .ok (.bipush 10, 2) := by decide +kernel
theorem dX0_shareOf_7 : decode cX0_shareOf 7 = .ok (.if_icmp .ge 55, 3) := by decide +kernel
theorem dX0_shareOf_10 : decode cX0_shareOf 10 = .ok (.aload_n 0, 1) := by decide +kernel
theorem dX0_shareOf_11 : decode cX0_shareOf 11 = .ok (.aload_n 0, 1) := by decide +kernel
theorem dX0_shareOf_12 : decode cX0_shareOf 12 = .ok (.invokevirtual 83, 3) := by decide +kernel
theorem dX0_shareOf_15 : decode cX0_shareOf 15 = .ok (.iload_n 3, 1) := by decide +kernel
theorem dX0_shareOf_16 : decode cX0_shareOf 16 = .ok (.invokevirtual 87, 3) := by decide +kernel
theorem dX0_shareOf_19 : decode cX0_shareOf 19 = .ok (.istore 4, 2) := by decide +kernel
theorem dX0_shareOf_21 : decode cX0_shareOf 21 = .ok (.iload 4, 2) := by decide +kernel
theorem dX0_shareOf_23 : decode cX0_shareOf 23 = .ok (.invokestatic 97, 3) := by decide +kernel
theorem dX0_shareOf_26 : decode cX0_shareOf 26 = .ok (.istore 5, 2) := by decide +kernel
theorem dX0_shareOf_28 : decode cX0_shareOf 28 = .ok (.iload 5, 2) := by decide +kernel
theorem dX0_shareOf_30 : decode cX0_shareOf 30 = .ok (.ifCond .le 26, 3) := by decide +kernel
theorem dX0_shareOf_33 : decode cX0_shareOf 33 = .ok (.iload_n 2, 1) := by decide +kernel
theorem dX0_shareOf_34 : decode cX0_shareOf 34 = .ok (.aload_n 0, 1) := by decide +kernel
theorem dX0_shareOf_35 : decode cX0_shareOf 35 = .ok (.getfield 25, 3) := by decide +kernel
theorem dX0_shareOf_38 : decode cX0_shareOf 38 = .ok (.iload_n 3, 1) := by decide +kernel
theorem dX0_shareOf_39 : decode cX0_shareOf 39 = .ok (.iaload, 1) := by decide +kernel
theorem dX0_shareOf_40 : decode cX0_shareOf 40 = .ok (.bipush 60, 2) := by decide +kernel
theorem dX0_shareOf_42 : decode cX0_shareOf 42 = .ok (.iload 5, 2) := by decide +kernel
theorem dX0_shareOf_44 : decode cX0_shareOf 44 = .ok (.idiv, 1) := by decide +kernel
theorem dX0_shareOf_45 : decode cX0_shareOf 45 = .ok (.imul, 1) := by decide +kernel
theorem dX0_shareOf_46 : decode cX0_shareOf 46 = .ok (.iload 4, 2) := by decide +kernel
theorem dX0_shareOf_48 : decode cX0_shareOf 48 = .ok (.iload_n 1, 1) := by decide +kernel
theorem dX0_shareOf_49 : decode cX0_shareOf 49 = .ok (.iand, 1) := by decide +kernel
theorem dX0_shareOf_50 : decode cX0_shareOf 50 = .ok (.invokestatic 97, 3) := by decide +kernel
theorem dX0_shareOf_53 : decode cX0_shareOf 53 = .ok (.imul, 1) := by decide +kernel
theorem dX0_shareOf_54 : decode cX0_shareOf 54 = .ok (.iadd, 1) := by decide +kernel
theorem dX0_shareOf_55 : decode cX0_shareOf 55 = .ok (.istore_n 2, 1) := by decide +kernel
theorem dX0_shareOf_56 : decode cX0_shareOf 56 = .ok (.iinc 3 1, 3) := by decide +kernel
theorem dX0_shareOf_59 : decode cX0_shareOf 59 = .ok (.goto (-55), 3) := by decide +kernel
theorem dX0_shareOf_62 : decode cX0_shareOf 62 = .ok (.iload_n 2, 1) := by decide +kernel
theorem dX0_shareOf_63 : decode cX0_shareOf 63 = .ok (.ireturn, 1) := by decide +kernel
set_option maxRecDepth 20000 in
theorem ggX0_addSight_X4_within : GoodIn wsX0_addSight wsX4_within := goodIn_r _ [6] (by decide +kernel) (by decide +kernel)
set_option maxRecDepth 20000 in
theorem gX0_addSight_X4_within_n61 : GoodIn wsX0_addSight (wsX4_within) := ggX0_addSight_X4_within
theorem dX0_addSight_0 : decode cX0_addSight 0 = .ok (.aload_n 0, 1) := by decide +kernel
theorem dX0_addSight_1 : decode cX0_addSight 1 = .ok (.getfield 52, 3) := by decide +kernel
theorem dX0_addSight_4 : decode cX0_addSight 4 = .ok (.iconst 0, 1) := by decide +kernel
theorem dX0_addSight_5 : decode cX0_addSight 5 = .ok (.iconst 5, 1) := by decide +kernel
theorem dX0_addSight_6 : decode cX0_addSight 6 = .ok (.invokestatic 61, 3) := by decide +kernel
theorem dX0_addSight_9 : decode cX0_addSight 9 = .ok (.ifCond .ne 5, 3) := by decide +kernel
theorem dX0_addSight_12 : decode cX0_addSight 12 = .ok (.iconst 0, 1) := by decide +kernel
theorem dX0_addSight_13 : decode cX0_addSight 13 = .ok (.ireturn, 1) := by decide +kernel
theorem dX0_addSight_14 : decode cX0_addSight 14 = .ok (.aload_n 0, 1) := by decide +kernel
theorem dX0_addSight_15 : decode cX0_addSight 15 = .ok (.getfield 28, 3) := by decide +kernel
theorem dX0_addSight_18 : decode cX0_addSight 18 = .ok (.aload_n 0, 1) := by decide +kernel
theorem dX0_addSight_19 : decode cX0_addSight 19 = .ok (.getfield 52, 3) := by decide +kernel
theorem dX0_addSight_22 : decode cX0_addSight 22 = .ok (.iload_n 1, 1) := by decide +kernel
theorem dX0_addSight_23 : decode cX0_addSight 23 = .ok (.iastore, 1) := by decide +kernel
theorem dX0_addSight_24 : decode cX0_addSight 24 = .ok (.aload_n 0, 1) := by decide +kernel
theorem dX0_addSight_25 : decode cX0_addSight 25 = .ok (.getfield 31, 3) := by decide +kernel
theorem dX0_addSight_28 : decode cX0_addSight 28 = .ok (.aload_n 0, 1) := by decide +kernel
theorem dX0_addSight_29 : decode cX0_addSight 29 = .ok (.getfield 52, 3) := by decide +kernel
theorem dX0_addSight_32 : decode cX0_addSight 32 = .ok (.iload_n 2, 1) := by decide +kernel
theorem dX0_addSight_33 : decode cX0_addSight 33 = .ok (.iastore, 1) := by decide +kernel
theorem dX0_addSight_34 : decode cX0_addSight 34 = .ok (.aload_n 0, 1) := by decide +kernel
theorem dX0_addSight_35 : decode cX0_addSight 35 = .ok (.dup, 1) := by decide +kernel
theorem dX0_addSight_36 : decode cX0_addSight 36 = .ok (.getfield 52, 3) := by decide +kernel
theorem dX0_addSight_39 : decode cX0_addSight 39 = .ok (.iconst 1, 1) := by decide +kernel
theorem dX0_addSight_40 : decode cX0_addSight 40 = .ok (.iadd, 1) := by decide +kernel
theorem dX0_addSight_41 : decode cX0_addSight 41 = .ok (.putfield 52, 3) := by decide +kernel
theorem dX0_addSight_44 : decode cX0_addSight 44 = .ok (.iconst 1, 1) := by decide +kernel
theorem dX0_addSight_45 : decode cX0_addSight 45 = .ok (.ireturn, 1) := by decide +kernel
set_option maxRecDepth 20000 in
theorem ggX0_fitsSights_X4_hasBit : GoodIn wsX0_fitsSights wsX4_hasBit := goodIn_r _ [6] (by decide +kernel) (by decide +kernel)
set_option maxRecDepth 20000 in
theorem gX0_fitsSights_X4_hasBit_n65 : GoodIn wsX0_fitsSights (wsX4_hasBit) := ggX0_fitsSights_X4_hasBit
theorem dX0_fitsSights_0 : decode cX0_fitsSights 0 = .ok (.iconst 0, 1) := by decide +kernel
theorem dX0_fitsSights_1 : decode cX0_fitsSights 1 = .ok (.istore_n 2, 1) := by decide +kernel
theorem dX0_fitsSights_2 : decode cX0_fitsSights 2 = .ok (.iload_n 2, 1) := by decide +kernel
theorem dX0_fitsSights_3 : decode cX0_fitsSights 3 = .ok (.aload_n 0, 1) := by decide +kernel
theorem dX0_fitsSights_4 : decode cX0_fitsSights 4 = .ok (.getfield 52, 3) := by decide +kernel
theorem dX0_fitsSights_7 : decode cX0_fitsSights 7 = .ok (.if_icmp .ge 81, 3) := by decide +kernel
theorem dX0_fitsSights_10 : decode cX0_fitsSights 10 = .ok (.iload_n 2, 1) := by decide +kernel
theorem dX0_fitsSights_11 : decode cX0_fitsSights 11 = .ok (.bipush 6, 2) := by decide +kernel
theorem dX0_fitsSights_13 : decode cX0_fitsSights 13 = .ok (.if_icmp .ge 75, 3) := by decide +kernel
theorem dX0_fitsSights_16 : decode cX0_fitsSights 16 = .ok (.aload_n 0, 1) := by decide +kernel
theorem dX0_fitsSights_17 : decode cX0_fitsSights 17 = .ok (.getfield 31, 3) := by decide +kernel
theorem dX0_fitsSights_20 : decode cX0_fitsSights 20 = .ok (.iload_n 2, 1) := by decide +kernel
theorem dX0_fitsSights_21 : decode cX0_fitsSights 21 = .ok (.iaload, 1) := by decide +kernel
theorem dX0_fitsSights_22 : decode cX0_fitsSights 22 = .ok (.istore_n 3, 1) := by decide +kernel
theorem dX0_fitsSights_23 : decode cX0_fitsSights 23 = .ok (.aload_n 0, 1) := by decide +kernel
theorem dX0_fitsSights_24 : decode cX0_fitsSights 24 = .ok (.getfield 28, 3) := by decide +kernel
theorem dX0_fitsSights_27 : decode cX0_fitsSights 27 = .ok (.iload_n 2, 1) := by decide +kernel
theorem dX0_fitsSights_28 : decode cX0_fitsSights 28 = .ok (.iaload, 1) := by decide +kernel
theorem dX0_fitsSights_29 : decode cX0_fitsSights 29 = .ok (.ifCond .ne 16, 3) := by decide +kernel
theorem dX0_fitsSights_32 : decode cX0_fitsSights 32 = .ok (.iload_n 1, 1) := by decide +kernel
theorem dX0_fitsSights_33 : decode cX0_fitsSights 33 = .ok (.iload_n 3, 1) := by decide +kernel
theorem dX0_fitsSights_34 : decode cX0_fitsSights 34 = .ok (.if_icmp .ne 7, 3) := by decide +kernel
theorem dX0_fitsSights_37 : decode cX0_fitsSights 37 = .ok (.iconst 1, 1) := by decide +kernel
theorem dX0_fitsSights_38 : decode cX0_fitsSights 38 = .ok (.goto 35, 3) := by decide +kernel
theorem dX0_fitsSights_41 : decode cX0_fitsSights 41 = .ok (.iconst 0, 1) := by decide +kernel
theorem dX0_fitsSights_42 : decode cX0_fitsSights 42 = .ok (.goto 31, 3) := by decide +kernel
theorem dX0_fitsSights_45 : decode cX0_fitsSights 45 = .ok (.iload_n 1, 1) := by decide +kernel
theorem dX0_fitsSights_46 : decode cX0_fitsSights 46 = .ok (.iload_n 3, 1) := by decide +kernel
theorem dX0_fitsSights_47 : decode cX0_fitsSights 47 = .ok (.invokestatic 65, 3) := by decide +kernel
theorem dX0_fitsSights_50 : decode cX0_fitsSights 50 = .ok (.aload_n 0, 1) := by decide +kernel
theorem dX0_fitsSights_51 : decode cX0_fitsSights 51 = .ok (.getfield 28, 3) := by decide +kernel
theorem dX0_fitsSights_54 : decode cX0_fitsSights 54 = .ok (.iload_n 2, 1) := by decide +kernel
theorem dX0_fitsSights_55 : decode cX0_fitsSights 55 = .ok (.iaload, 1) := by decide +kernel
theorem dX0_fitsSights_56 : decode cX0_fitsSights 56 = .ok (.iconst 1, 1) := by decide +kernel
theorem dX0_fitsSights_57 : decode cX0_fitsSights 57 = .ok (.if_icmp .ne 7, 3) := by decide +kernel
theorem dX0_fitsSights_60 : decode cX0_fitsSights 60 = .ok (.iconst 1, 1) := by decide +kernel
theorem dX0_fitsSights_61 : decode cX0_fitsSights 61 = .ok (.goto 4, 3) := by decide +kernel
theorem dX0_fitsSights_64 : decode cX0_fitsSights 64 = .ok (.iconst 0, 1) := by decide +kernel
theorem dX0_fitsSights_65 : decode cX0_fitsSights 65 = .ok (.if_icmp .ne 7, 3) := by decide +kernel
theorem dX0_fitsSights_68 : decode cX0_fitsSights 68 = .ok (.iconst 1, 1) := by decide +kernel
theorem dX0_fitsSights_69 : decode cX0_fitsSights 69 = .ok (.goto 4, 3) := by decide +kernel
theorem dX0_fitsSights_72 : decode cX0_fitsSights 72 = .ok (.iconst 0, 1) := by decide +kernel
theorem dX0_fitsSights_73 : decode cX0_fitsSights 73 = .ok (.istore 4, 2) := by decide +kernel
theorem dX0_fitsSights_75 : decode cX0_fitsSights 75 = .ok (.iload 4, 2) := by decide +kernel
theorem dX0_fitsSights_77 : decode cX0_fitsSights 77 = .ok (.ifCond .ne 5, 3) := by decide +kernel
theorem dX0_fitsSights_80 : decode cX0_fitsSights 80 = .ok (.iconst 0, 1) := by decide +kernel
theorem dX0_fitsSights_81 : decode cX0_fitsSights 81 = .ok (.ireturn, 1) := by decide +kernel
theorem dX0_fitsSights_82 : decode cX0_fitsSights 82 = .ok (.iinc 2 1, 3) := by decide +kernel
theorem dX0_fitsSights_85 : decode cX0_fitsSights 85 = .ok (.goto (-83), 3) := by decide +kernel
theorem dX0_fitsSights_88 : decode cX0_fitsSights 88 = .ok (.iconst 1, 1) := by decide +kernel
theorem dX0_fitsSights_89 : decode cX0_fitsSights 89 = .ok (.ireturn, 1) := by decide +kernel
set_option maxRecDepth 20000 in
theorem ggX1_init_X0_init : GoodIn wsX1_init wsX0_init := goodIn_r _ [12, 13, 2, 3, 14, 15, 8, 16, 17, 18, 19, 20, 21, 22, 23, 24, 25, 26, 27, 28, 29, 30, 31, 32, 33, 34, 35, 36] (by decide +kernel) (by decide +kernel)
set_option maxRecDepth 20000 in
theorem gX1_init_X0_init : GoodIn wsX1_init (wsX0_init) := ggX1_init_X0_init
theorem dX1_init_0 : decode cX1_init 0 = .ok (.aload_n 0, 1) := by decide +kernel
theorem dX1_init_1 : decode cX1_init 1 = .ok (.invokespecial 3, 3) := by decide +kernel
theorem dX1_init_4 : decode cX1_init 4 = .ok (.aload_n 0, 1) := by decide +kernel
theorem dX1_init_5 : decode cX1_init 5 = .ok (.new 9, 3) := by decide +kernel
theorem dX1_init_8 : decode cX1_init 8 = .ok (.dup, 1) := by decide +kernel
theorem dX1_init_9 : decode cX1_init 9 = .ok (.invokespecial 11, 3) := by decide +kernel
theorem dX1_init_12 : decode cX1_init 12 = .ok (.putfield 12, 3) := by decide +kernel
theorem dX1_init_15 : decode cX1_init 15 = .ok (.aload_n 0, 1) := by decide +kernel
theorem dX1_init_16 : decode cX1_init 16 = .ok (.bipush 9, 2) := by decide +kernel
theorem dX1_init_18 : decode cX1_init 18 = .ok (.newarray .int, 2) := by decide +kernel
theorem dX1_init_20 : decode cX1_init 20 = .ok (.putfield 18, 3) := by decide +kernel
theorem dX1_init_23 : decode cX1_init 23 = .ok (.return_, 1) := by decide +kernel
set_option maxRecDepth 20000 in
theorem ggX1_begin_X0_copyFrom : GoodIn wsX1_begin wsX0_copyFrom := goodIn_r _ [9, 10, 11, 12, 13, 14, 15, 16, 17, 18, 19, 20, 21, 22, 23, 24, 25, 34, 35, 36, 37, 38, 39, 40, 41, 42, 43, 44, 45] (by decide +kernel) (by decide +kernel)
set_option maxRecDepth 20000 in
theorem gX1_begin_X0_copyFrom : GoodIn wsX1_begin (wsV RX1 22 RX0 yX0_copyFrom wsX0_copyFrom) := goodIn_app (goodIn_of _ (by decide +kernel)) ggX1_begin_X0_copyFrom
set_option maxRecDepth 20000 in
theorem ggX1_begin_J7_fill_53178 : GoodIn wsX1_begin wsJ7_fill_53178 := goodIn_r _ [29] (by decide +kernel) (by decide +kernel)
set_option maxRecDepth 20000 in
theorem gX1_begin_J7_fill_53178 : GoodIn wsX1_begin (va_wsS RX1 33 yJ7_fill_53178 wsJ7_fill_53178) := goodIn_app (goodIn_of _ (by decide +kernel)) ggX1_begin_J7_fill_53178
theorem dX1_begin_0 : decode cX1_begin 0 = .ok (.aload_n 0, 1) := by decide +kernel
theorem dX1_begin_1 : decode cX1_begin 1 = .ok (.getfield 12, 3) := by decide +kernel
theorem dX1_begin_4 : decode cX1_begin 4 = .ok (.aload_n 1, 1) := by decide +kernel
theorem dX1_begin_5 : decode cX1_begin 5 = .ok (.invokevirtual 22, 3) := by decide +kernel
theorem dX1_begin_8 : decode cX1_begin 8 = .ok (.aload_n 0, 1) := by decide +kernel
theorem dX1_begin_9 : decode cX1_begin 9 = .ok (.iconst 0, 1) := by decide +kernel
theorem dX1_begin_10 : decode cX1_begin 10 = .ok (.putfield 26, 3) := by decide +kernel
theorem dX1_begin_13 : decode cX1_begin 13 = .ok (.aload_n 0, 1) := by decide +kernel
theorem dX1_begin_14 : decode cX1_begin 14 = .ok (.iconst 0, 1) := by decide +kernel
theorem dX1_begin_15 : decode cX1_begin 15 = .ok (.putfield 30, 3) := by decide +kernel
theorem dX1_begin_18 : decode cX1_begin 18 = .ok (.aload_n 0, 1) := by decide +kernel
theorem dX1_begin_19 : decode cX1_begin 19 = .ok (.getfield 18, 3) := by decide +kernel
theorem dX1_begin_22 : decode cX1_begin 22 = .ok (.iconst 0, 1) := by decide +kernel
theorem dX1_begin_23 : decode cX1_begin 23 = .ok (.invokestatic 33, 3) := by decide +kernel
theorem dX1_begin_26 : decode cX1_begin 26 = .ok (.return_, 1) := by decide +kernel
set_option maxRecDepth 20000 in
theorem ggX1_play_X1_begin : GoodIn wsX1_play wsX1_begin := goodIn_r _ [6, 7, 8, 9, 10, 11, 12, 13, 14, 15, 16, 17, 18, 19, 20, 21, 22, 23, 24, 25, 26, 27, 28, 29, 30, 31, 32, 33, 34, 35, 105, 106, 107, 108, 109, 110, 111, 112, 113, 114, 115, 116, 117, 118, 119, 120] (by decide +kernel) (by decide +kernel)
set_option maxRecDepth 20000 in
theorem gX1_play_X1_begin : GoodIn wsX1_play (wsV RX1 39 RX1 yX1_begin wsX1_begin) := goodIn_app (goodIn_of _ (by decide +kernel)) ggX1_play_X1_begin
set_option maxRecDepth 20000 in
theorem ggX1_play_X2_sign : GoodIn wsX1_play wsX2_sign := goodIn_r _ [40, 41, 42, 43, 44, 103, 104] (by decide +kernel) (by decide +kernel)
set_option maxRecDepth 20000 in
theorem gX1_play_X2_sign : GoodIn wsX1_play (wsV RX1 47 RX2 yX2_sign wsX2_sign) := goodIn_app (goodIn_of _ (by decide +kernel)) ggX1_play_X2_sign
set_option maxRecDepth 20000 in
theorem ggX1_play_X2_takesAnother : GoodIn wsX1_play wsX2_takesAnother := goodIn_r _ [47] (by decide +kernel) (by decide +kernel)
set_option maxRecDepth 20000 in
theorem gX1_play_X2_takesAnother : GoodIn wsX1_play (va_wsS RX1 51 yX2_takesAnother wsX2_takesAnother) := goodIn_app (goodIn_of _ (by decide +kernel)) ggX1_play_X2_takesAnother
set_option maxRecDepth 20000 in
theorem ggX1_play_X1_happen : GoodIn wsX1_play wsX1_happen := goodIn_r _ [51, 7, 52, 53, 54, 14, 55, 23, 56, 57, 58, 59, 18, 19, 60, 43, 61, 62, 63, 64, 65, 28, 66, 67, 68, 69, 70, 71, 72, 73, 74, 75, 21, 17, 76, 77, 78, 16, 79, 80, 81, 5, 82, 83, 84, 85, 86, 8, 9, 87, 88, 89, 90, 10, 91, 92, 93, 94, 95, 96, 97, 98, 99, 100, 101, 102, 105, 106, 107, 108, 109, 110, 111, 112, 113, 114, 115, 116, 117, 118, 119, 120] (by decide +kernel) (by decide +kernel)
set_option maxRecDepth 20000 in
theorem gX1_play_X1_happen : GoodIn wsX1_play (wsV RX1 55 RX1 yX1_happen wsX1_happen) := goodIn_app (goodIn_of _ (by decide +kernel)) ggX1_play_X1_happen
theorem dX1_play_0 : decode cX1_play 0 = .ok (.aload_n 0, 1) := by decide +kernel
theorem dX1_play_1 : decode cX1_play 1 = .ok (.aload_n 1, 1) := by decide +kernel
theorem dX1_play_2 : decode cX1_play 2 = .ok (.invokevirtual 39, 3) := by decide +kernel
theorem dX1_play_5 : decode cX1_play 5 = .ok (.iconst 0, 1) := by decide +kernel
theorem dX1_play_6 : decode cX1_play 6 = .ok (.istore 4, 2) := by decide +kernel
theorem dX1_play_8 : decode cX1_play 8 = .ok (.iconst 0, 1) := by decide +kernel
theorem dX1_play_9 : decode cX1_play 9 = .ok (.istore 5, 2) := by decide +kernel
theorem dX1_play_11 : decode cX1_play 11 = .ok (.iconst 0, 1) := by decide +kernel
theorem dX1_play_12 : decode cX1_play 12 = .ok (.istore 6, 2) := by decide +kernel
theorem dX1_play_14 : decode cX1_play 14 = .ok (.iload 6, 2) := by decide +kernel
theorem dX1_play_16 : decode cX1_play 16 = .ok (.aload_n 2, 1) := by decide +kernel
theorem dX1_play_17 : decode cX1_play 17 = .ok (.getfield 42, 3) := by decide +kernel
theorem dX1_play_20 : decode cX1_play 20 = .ok (.if_icmp .ge 52, 3) := by decide +kernel
theorem dX1_play_23 : decode cX1_play 23 = .ok (.iload 5, 2) := by decide +kernel
theorem dX1_play_25 : decode cX1_play 25 = .ok (.iload_n 3, 1) := by decide +kernel
theorem dX1_play_26 : decode cX1_play 26 = .ok (.if_icmp .ge 46, 3) := by decide +kernel
theorem dX1_play_29 : decode cX1_play 29 = .ok (.aload_n 2, 1) := by decide +kernel
theorem dX1_play_30 : decode cX1_play 30 = .ok (.iload 6, 2) := by decide +kernel
theorem dX1_play_32 : decode cX1_play 32 = .ok (.invokevirtual 47, 3) := by decide +kernel
theorem dX1_play_35 : decode cX1_play 35 = .ok (.istore 7, 2) := by decide +kernel
theorem dX1_play_37 : decode cX1_play 37 = .ok (.iload 7, 2) := by decide +kernel
theorem dX1_play_39 : decode cX1_play 39 = .ok (.invokestatic 51, 3) := by decide +kernel
theorem dX1_play_42 : decode cX1_play 42 = .ok (.ifCond .eq 10, 3) := by decide +kernel
theorem dX1_play_45 : decode cX1_play 45 = .ok (.iload 7, 2) := by decide +kernel
theorem dX1_play_47 : decode cX1_play 47 = .ok (.istore 4, 2) := by decide +kernel
theorem dX1_play_49 : decode cX1_play 49 = .ok (.goto 17, 3) := by decide +kernel
theorem dX1_play_52 : decode cX1_play 52 = .ok (.aload_n 0, 1) := by decide +kernel
theorem dX1_play_53 : decode cX1_play 53 = .ok (.iload 4, 2) := by decide +kernel
theorem dX1_play_55 : decode cX1_play 55 = .ok (.iload 7, 2) := by decide +kernel
theorem dX1_play_57 : decode cX1_play 57 = .ok (.invokevirtual 55, 3) := by decide +kernel
theorem dX1_play_60 : decode cX1_play 60 = .ok (.iconst 0, 1) := by decide +kernel
theorem dX1_play_61 : decode cX1_play 61 = .ok (.istore 4, 2) := by decide +kernel
theorem dX1_play_63 : decode cX1_play 63 = .ok (.iinc 5 1, 3) := by decide +kernel
theorem dX1_play_66 : decode cX1_play 66 = .ok (.iinc 6 1, 3) := by decide +kernel
theorem dX1_play_69 : decode cX1_play 69 = .ok (.goto (-55), 3) := by decide +kernel
theorem dX1_play_72 : decode cX1_play 72 = .ok (.return_, 1) := by decide +kernel
set_option maxRecDepth 20000 in
theorem ggX1_happen_X0_sprinkled : GoodIn wsX1_happen wsX0_sprinkled := goodIn_r _ [6, 7, 8, 9, 10, 5, 11, 12, 13, 14, 15, 16, 17, 18, 19, 20, 21, 22, 23, 24, 25, 26, 27, 28, 29, 30, 31, 32, 33, 34, 35, 36, 37, 70, 71, 72, 73, 74, 75, 76, 77, 78, 79, 80, 81] (by decide +kernel) (by decide +kernel)
set_option maxRecDepth 20000 in
theorem gX1_happen_X0_sprinkled : GoodIn wsX1_happen (wsV RX1 59 RX0 yX0_sprinkled wsX0_sprinkled) := goodIn_app (goodIn_of _ (by decide +kernel)) ggX1_happen_X0_sprinkled
set_option maxRecDepth 20000 in
theorem ggX1_happen_X1_opened : GoodIn wsX1_happen wsX1_opened := goodIn_r _ [42, 43, 44, 45, 41, 46, 47, 48, 66, 67, 68, 69] (by decide +kernel) (by decide +kernel)
set_option maxRecDepth 20000 in
theorem gX1_happen_X1_opened : GoodIn wsX1_happen (wsV RX1 62 RX1 yX1_opened wsX1_opened) := goodIn_app (goodIn_of _ (by decide +kernel)) ggX1_happen_X1_opened
set_option maxRecDepth 20000 in
theorem ggX1_happen_X1_become : GoodIn wsX1_happen wsX1_become := goodIn_r _ [46, 47, 48, 66, 67, 68, 69] (by decide +kernel) (by decide +kernel)
set_option maxRecDepth 20000 in
theorem gX1_happen_X1_become : GoodIn wsX1_happen (wsV RX1 66 RX1 yX1_become wsX1_become) := goodIn_app (goodIn_of _ (by decide +kernel)) ggX1_happen_X1_become
set_option maxRecDepth 20000 in
theorem ggX1_happen_X1_pass : GoodIn wsX1_happen wsX1_pass := goodIn_r _ [52, 53, 47, 1, 54, 26, 15, 27, 66, 67, 68, 69, 70, 71, 72, 73, 74, 75, 76, 77, 78, 79, 80, 81] (by decide +kernel) (by decide +kernel)
set_option maxRecDepth 20000 in
theorem gX1_happen_X1_pass : GoodIn wsX1_happen (wsV RX1 69 RX1 yX1_pass wsX1_pass) := goodIn_app (goodIn_of _ (by decide +kernel)) ggX1_happen_X1_pass
set_option maxRecDepth 20000 in
theorem ggX1_happen_X1_breakUmbrella : GoodIn wsX1_happen wsX1_breakUmbrella := goodIn_r _ [58, 1, 59, 47, 14, 15, 16, 43, 44, 45, 41, 46, 48, 66, 67, 68, 69, 70, 71, 72, 73, 74, 75, 76, 77, 78, 79, 80, 81] (by decide +kernel) (by decide +kernel)
set_option maxRecDepth 20000 in
theorem gX1_happen_X1_breakUmbrella : GoodIn wsX1_happen (wsV RX1 72 RX1 yX1_breakUmbrella wsX1_breakUmbrella) := goodIn_app (goodIn_of _ (by decide +kernel)) ggX1_happen_X1_breakUmbrella
set_option maxRecDepth 20000 in
theorem ggX1_happen_X1_rain : GoodIn wsX1_happen wsX1_rain := goodIn_r _ [63, 1, 64, 9, 10, 5, 11, 12, 13, 65, 18, 19, 20, 7, 21, 22, 23, 24, 25, 26, 15, 27, 28, 29, 30, 31, 32, 33, 34, 35, 36, 37, 38, 39, 40, 41, 42, 43, 44, 45, 46, 47, 48, 66, 67, 68, 69, 70, 71, 72, 73, 74, 75, 76, 77, 78, 79, 80, 81] (by decide +kernel) (by decide +kernel)
set_option maxRecDepth 20000 in
theorem gX1_happen_X1_rain : GoodIn wsX1_happen (wsV RX1 75 RX1 yX1_rain wsX1_rain) := goodIn_app (goodIn_of _ (by decide +kernel)) ggX1_happen_X1_rain
theorem dX1_happen_0 : decode cX1_happen 0 = .ok (.iload_n 1, 1) := by decide +kernel
theorem dX1_happen_1 : decode cX1_happen 1 = .ok (.bipush 33, 2) := by decide +kernel
theorem dX1_happen_3 : decode cX1_happen 3 = .ok (.if_icmp .ne 21, 3) := by decide +kernel
theorem dX1_happen_6 : decode cX1_happen 6 = .ok (.aload_n 0, 1) := by decide +kernel
theorem dX1_happen_7 : decode cX1_happen 7 = .ok (.aload_n 0, 1) := by decide +kernel
theorem dX1_happen_8 : decode cX1_happen 8 = .ok (.getfield 12, 3) := by decide +kernel
theorem dX1_happen_11 : decode cX1_happen 11 = .ok (.iload_n 2, 1) := by decide +kernel
theorem dX1_happen_12 : decode cX1_happen 12 = .ok (.bipush 48, 2) := by decide +kernel
theorem dX1_happen_14 : decode cX1_happen 14 = .ok (.isub, 1) := by decide +kernel
theorem dX1_happen_15 : decode cX1_happen 15 = .ok (.invokevirtual 59, 3) := by decide +kernel
theorem dX1_happen_18 : decode cX1_happen 18 = .ok (.invokevirtual 62, 3) := by decide +kernel
theorem dX1_happen_21 : decode cX1_happen 21 = .ok (.goto 64, 3) := by decide +kernel
theorem dX1_happen_24 : decode cX1_happen 24 = .ok (.iload_n 1, 1) := by decide +kernel
theorem dX1_happen_25 : decode cX1_happen 25 = .ok (.bipush 45, 2) := by decide +kernel
theorem dX1_happen_27 : decode cX1_happen 27 = .ok (.if_icmp .ne 19, 3) := by decide +kernel
theorem dX1_happen_30 : decode cX1_happen 30 = .ok (.aload_n 0, 1) := by decide +kernel
theorem dX1_happen_31 : decode cX1_happen 31 = .ok (.iconst 0, 1) := by decide +kernel
theorem dX1_happen_32 : decode cX1_happen 32 = .ok (.invokevirtual 66, 3) := by decide +kernel
theorem dX1_happen_35 : decode cX1_happen 35 = .ok (.aload_n 0, 1) := by decide +kernel
theorem dX1_happen_36 : decode cX1_happen 36 = .ok (.iload_n 2, 1) := by decide +kernel
theorem dX1_happen_37 : decode cX1_happen 37 = .ok (.bipush 48, 2) := by decide +kernel
theorem dX1_happen_39 : decode cX1_happen 39 = .ok (.isub, 1) := by decide +kernel
theorem dX1_happen_40 : decode cX1_happen 40 = .ok (.invokevirtual 69, 3) := by decide +kernel
theorem dX1_happen_43 : decode cX1_happen 43 = .ok (.goto 42, 3) := by decide +kernel
theorem dX1_happen_46 : decode cX1_happen 46 = .ok (.iload_n 1, 1) := by decide +kernel
theorem dX1_happen_47 : decode cX1_happen 47 = .ok (.bipush 126, 2) := by decide +kernel
theorem dX1_happen_49 : decode cX1_happen 49 = .ok (.if_icmp .ne 14, 3) := by decide +kernel
theorem dX1_happen_52 : decode cX1_happen 52 = .ok (.aload_n 0, 1) := by decide +kernel
theorem dX1_happen_53 : decode cX1_happen 53 = .ok (.iload_n 2, 1) := by decide +kernel
theorem dX1_happen_54 : decode cX1_happen 54 = .ok (.bipush 65, 2) := by decide +kernel
theorem dX1_happen_56 : decode cX1_happen 56 = .ok (.isub, 1) := by decide +kernel
theorem dX1_happen_57 : decode cX1_happen 57 = .ok (.invokevirtual 72, 3) := by decide +kernel
theorem dX1_happen_60 : decode cX1_happen 60 = .ok (.goto 25, 3) := by decide +kernel
theorem dX1_happen_63 : decode cX1_happen 63 = .ok (.iload_n 2, 1) := by decide +kernel
theorem dX1_happen_64 : decode cX1_happen 64 = .ok (.bipush 46, 2) := by decide +kernel
theorem dX1_happen_66 : decode cX1_happen 66 = .ok (.if_icmp .ne 11, 3) := by decide +kernel
theorem dX1_happen_69 : decode cX1_happen 69 = .ok (.aload_n 0, 1) := by decide +kernel
theorem dX1_happen_70 : decode cX1_happen 70 = .ok (.iconst 1, 1) := by decide +kernel
theorem dX1_happen_71 : decode cX1_happen 71 = .ok (.invokevirtual 69, 3) := by decide +kernel
theorem dX1_happen_74 : decode cX1_happen 74 = .ok (.goto 11, 3) := by decide +kernel
theorem dX1_happen_77 : decode cX1_happen 77 = .ok (.aload_n 0, 1) := by decide +kernel
theorem dX1_happen_78 : decode cX1_happen 78 = .ok (.iload_n 2, 1) := by decide +kernel
theorem dX1_happen_79 : decode cX1_happen 79 = .ok (.bipush 48, 2) := by decide +kernel
theorem dX1_happen_81 : decode cX1_happen 81 = .ok (.isub, 1) := by decide +kernel
theorem dX1_happen_82 : decode cX1_happen 82 = .ok (.invokevirtual 75, 3) := by decide +kernel
theorem dX1_happen_85 : decode cX1_happen 85 = .ok (.return_, 1) := by decide +kernel
set_option maxRecDepth 20000 in
theorem ggX1_rain_X0_umbrellas : GoodIn wsX1_rain wsX0_umbrellas := goodIn_r _ [6, 7, 8, 47, 48, 49, 50, 51, 52, 53, 54, 55, 56, 57, 58] (by decide +kernel) (by decide +kernel)
set_option maxRecDepth 20000 in
theorem gX1_rain_X0_umbrellas : GoodIn wsX1_rain (wsV RX1 78 RX0 yX0_umbrellas wsX0_umbrellas) := goodIn_app (goodIn_of _ (by decide +kernel)) ggX1_rain_X0_umbrellas
set_option maxRecDepth 20000 in
theorem ggX1_rain_X0_firstOf : GoodIn wsX1_rain wsX0_firstOf := goodIn_r _ [12, 13, 14, 15, 16, 17, 18, 19, 20, 21, 22, 23, 24, 5, 25, 26, 27, 28, 29, 30, 31, 47, 48, 49, 50, 51, 52, 53, 54, 55, 56, 57, 58] (by decide +kernel) (by decide +kernel)
set_option maxRecDepth 20000 in
theorem gX1_rain_X0_firstOf : GoodIn wsX1_rain (wsV RX1 82 RX0 yX0_firstOf wsX0_firstOf) := goodIn_app (goodIn_of _ (by decide +kernel)) ggX1_rain_X0_firstOf
set_option maxRecDepth 20000 in
theorem ggX1_rain_X1_opened : GoodIn wsX1_rain wsX1_opened := goodIn_r _ [36, 37, 38, 39, 35, 40, 41, 42, 43, 44, 45, 46] (by decide +kernel) (by decide +kernel)
set_option maxRecDepth 20000 in
theorem gX1_rain_X1_opened : GoodIn wsX1_rain (wsV RX1 62 RX1 yX1_opened wsX1_opened) := goodIn_app (goodIn_of _ (by decide +kernel)) ggX1_rain_X1_opened
theorem dX1_rain_0 : decode cX1_rain 0 = .ok (.aload_n 0, 1) := by decide +kernel
theorem dX1_rain_1 : decode cX1_rain 1 = .ok (.aload_n 0, 1) := by decide +kernel
theorem dX1_rain_2 : decode cX1_rain 2 = .ok (.getfield 12, 3) := by decide +kernel
theorem dX1_rain_5 : decode cX1_rain 5 = .ok (.aload_n 0, 1) := by decide +kernel
theorem dX1_rain_6 : decode cX1_rain 6 = .ok (.getfield 12, 3) := by decide +kernel
theorem dX1_rain_9 : decode cX1_rain 9 = .ok (.invokevirtual 78, 3) := by decide +kernel
theorem dX1_rain_12 : decode cX1_rain 12 = .ok (.iload_n 1, 1) := by decide +kernel
theorem dX1_rain_13 : decode cX1_rain 13 = .ok (.invokevirtual 82, 3) := by decide +kernel
theorem dX1_rain_16 : decode cX1_rain 16 = .ok (.invokevirtual 62, 3) := by decide +kernel
theorem dX1_rain_19 : decode cX1_rain 19 = .ok (.return_, 1) := by decide +kernel
set_option maxRecDepth 20000 in
theorem ggX1_opened_X1_become : GoodIn wsX1_opened wsX1_become := goodIn_r _ [5, 6, 7, 8, 9, 10, 11] (by decide +kernel) (by decide +kernel)
set_option maxRecDepth 20000 in
theorem gX1_opened_X1_become : GoodIn wsX1_opened (wsV RX1 66 RX1 yX1_become wsX1_become) := goodIn_app (goodIn_of _ (by decide +kernel)) ggX1_opened_X1_become
theorem dX1_opened_0 : decode cX1_opened 0 = .ok (.iload_n 1, 1) := by decide +kernel
theorem dX1_opened_1 : decode cX1_opened 1 = .ok (.ifCond .eq 8, 3) := by decide +kernel
theorem dX1_opened_4 : decode cX1_opened 4 = .ok (.aload_n 0, 1) := by decide +kernel
theorem dX1_opened_5 : decode cX1_opened 5 = .ok (.iload_n 1, 1) := by decide +kernel
theorem dX1_opened_6 : decode cX1_opened 6 = .ok (.invokevirtual 66, 3) := by decide +kernel
theorem dX1_opened_9 : decode cX1_opened 9 = .ok (.return_, 1) := by decide +kernel
set_option maxRecDepth 20000 in
theorem ggX1_breakUmbrella_X4_withBit : GoodIn wsX1_breakUmbrella wsX4_withBit := goodIn_r _ [6] (by decide +kernel) (by decide +kernel)
set_option maxRecDepth 20000 in
theorem gX1_breakUmbrella_X4_withBit_n89 : GoodIn wsX1_breakUmbrella (wsX4_withBit) := ggX1_breakUmbrella_X4_withBit
set_option maxRecDepth 20000 in
theorem ggX1_breakUmbrella_X1_become : GoodIn wsX1_breakUmbrella wsX1_become := goodIn_r _ [11, 3, 12, 13, 14, 15, 16] (by decide +kernel) (by decide +kernel)
set_option maxRecDepth 20000 in
theorem gX1_breakUmbrella_X1_become : GoodIn wsX1_breakUmbrella (wsV RX1 66 RX1 yX1_become wsX1_become) := goodIn_app (goodIn_of _ (by decide +kernel)) ggX1_breakUmbrella_X1_become
theorem dX1_breakUmbrella_0 : decode cX1_breakUmbrella 0 = .ok (.aload_n 0, 1) := by decide +kernel
theorem dX1_breakUmbrella_1 : decode cX1_breakUmbrella 1 = .ok (.getfield 12, 3) := by decide +kernel
theorem dX1_breakUmbrella_4 : decode cX1_breakUmbrella 4 = .ok (.aload_n 0, 1) := by decide +kernel
theorem dX1_breakUmbrella_5 : decode cX1_breakUmbrella 5 = .ok (.getfield 12, 3) := by decide +kernel
theorem dX1_breakUmbrella_8 : decode cX1_breakUmbrella 8 = .ok (.getfield 86, 3) := by decide +kernel
theorem dX1_breakUmbrella_11 : decode cX1_breakUmbrella 11 = .ok (.iload_n 1, 1) := by decide +kernel
theorem dX1_breakUmbrella_12 : decode cX1_breakUmbrella 12 = .ok (.iconst 1, 1) := by decide +kernel
theorem dX1_breakUmbrella_13 : decode cX1_breakUmbrella 13 = .ok (.invokestatic 89, 3) := by decide +kernel
theorem dX1_breakUmbrella_16 : decode cX1_breakUmbrella 16 = .ok (.putfield 86, 3) := by decide +kernel
theorem dX1_breakUmbrella_19 : decode cX1_breakUmbrella 19 = .ok (.aload_n 0, 1) := by decide +kernel
theorem dX1_breakUmbrella_20 : decode cX1_breakUmbrella 20 = .ok (.aload_n 0, 1) := by decide +kernel
theorem dX1_breakUmbrella_21 : decode cX1_breakUmbrella 21 = .ok (.getfield 26, 3) := by decide +kernel
theorem dX1_breakUmbrella_24 : decode cX1_breakUmbrella 24 = .ok (.iload_n 1, 1) := by decide +kernel
theorem dX1_breakUmbrella_25 : decode cX1_breakUmbrella 25 = .ok (.iconst 0, 1) := by decide +kernel
theorem dX1_breakUmbrella_26 : decode cX1_breakUmbrella 26 = .ok (.invokestatic 89, 3) := by decide +kernel
theorem dX1_breakUmbrella_29 : decode cX1_breakUmbrella 29 = .ok (.invokevirtual 66, 3) := by decide +kernel
theorem dX1_breakUmbrella_32 : decode cX1_breakUmbrella 32 = .ok (.return_, 1) := by decide +kernel
theorem dX1_become_0 : decode cX1_become 0 = .ok (.iload_n 1, 1) := by decide +kernel
theorem dX1_become_1 : decode cX1_become 1 = .ok (.aload_n 0, 1) := by decide +kernel
theorem dX1_become_2 : decode cX1_become 2 = .ok (.getfield 26, 3) := by decide +kernel
theorem dX1_become_5 : decode cX1_become 5 = .ok (.if_icmp .eq 17, 3) := by decide +kernel
theorem dX1_become_8 : decode cX1_become 8 = .ok (.iload_n 1, 1) := by decide +kernel
theorem dX1_become_9 : decode cX1_become 9 = .ok (.ifCond .eq 13, 3) := by decide +kernel
theorem dX1_become_12 : decode cX1_become 12 = .ok (.aload_n 0, 1) := by decide +kernel
theorem dX1_become_13 : decode cX1_become 13 = .ok (.dup, 1) := by decide +kernel
theorem dX1_become_14 : decode cX1_become 14 = .ok (.getfield 30, 3) := by decide +kernel
theorem dX1_become_17 : decode cX1_become 17 = .ok (.iconst 1, 1) := by decide +kernel
theorem dX1_become_18 : decode cX1_become 18 = .ok (.iadd, 1) := by decide +kernel
theorem dX1_become_19 : decode cX1_become 19 = .ok (.putfield 30, 3) := by decide +kernel
theorem dX1_become_22 : decode cX1_become 22 = .ok (.aload_n 0, 1) := by decide +kernel
theorem dX1_become_23 : decode cX1_become 23 = .ok (.iload_n 1, 1) := by decide +kernel
theorem dX1_become_24 : decode cX1_become 24 = .ok (.putfield 26, 3) := by decide +kernel
theorem dX1_become_27 : decode cX1_become 27 = .ok (.return_, 1) := by decide +kernel
set_option maxRecDepth 20000 in
theorem ggX1_pass_X4_hasBit : GoodIn wsX1_pass wsX4_hasBit := goodIn_r _ [7] (by decide +kernel) (by decide +kernel)
set_option maxRecDepth 20000 in
theorem gX1_pass_X4_hasBit_n93 : GoodIn wsX1_pass (wsX4_hasBit) := ggX1_pass_X4_hasBit
theorem dX1_pass_0 : decode cX1_pass 0 = .ok (.iconst 0, 1) := by decide +kernel
theorem dX1_pass_1 : decode cX1_pass 1 = .ok (.istore_n 2, 1) := by decide +kernel
theorem dX1_pass_2 : decode cX1_pass 2 = .ok (.iload_n 2, 1) := by decide +kernel
theorem dX1_pass_3 : decode cX1_pass 3 = .ok (.bipush 6, 2) := by decide +kernel
theorem dX1_pass_5 : decode cX1_pass 5 = .ok (.if_icmp .ge 34, 3) := by decide +kernel
theorem dX1_pass_8 : decode cX1_pass 8 = .ok (.aload_n 0, 1) := by decide +kernel
theorem dX1_pass_9 : decode cX1_pass 9 = .ok (.getfield 18, 3) := by decide +kernel
theorem dX1_pass_12 : decode cX1_pass 12 = .ok (.iload_n 2, 1) := by decide +kernel
theorem dX1_pass_13 : decode cX1_pass 13 = .ok (.dup2, 1) := by decide +kernel
theorem dX1_pass_14 : decode cX1_pass 14 = .ok (.iaload, 1) := by decide +kernel
theorem dX1_pass_15 : decode cX1_pass 15 = .ok (.aload_n 0, 1) := by decide +kernel
theorem dX1_pass_16 : decode cX1_pass 16 = .ok (.getfield 26, 3) := by decide +kernel
theorem dX1_pass_19 : decode cX1_pass 19 = .ok (.iload_n 2, 1) := by decide +kernel
theorem dX1_pass_20 : decode cX1_pass 20 = .ok (.invokestatic 93, 3) := by decide +kernel
theorem dX1_pass_23 : decode cX1_pass 23 = .ok (.ifCond .eq 7, 3) := by decide +kernel
theorem dX1_pass_26 : decode cX1_pass 26 = .ok (.iload_n 1, 1) := by decide +kernel
theorem dX1_pass_27 : decode cX1_pass 27 = .ok (.goto 4, 3) := by decide +kernel
theorem dX1_pass_30 : decode cX1_pass 30 = .ok (.iconst 0, 1) := by decide +kernel
theorem dX1_pass_31 : decode cX1_pass 31 = .ok (.iadd, 1) := by decide +kernel
theorem dX1_pass_32 : decode cX1_pass 32 = .ok (.iastore, 1) := by decide +kernel
theorem dX1_pass_33 : decode cX1_pass 33 = .ok (.iinc 2 1, 3) := by decide +kernel
theorem dX1_pass_36 : decode cX1_pass 36 = .ok (.goto (-34), 3) := by decide +kernel
theorem dX1_pass_39 : decode cX1_pass 39 = .ok (.aload_n 0, 1) := by decide +kernel
theorem dX1_pass_40 : decode cX1_pass 40 = .ok (.getfield 18, 3) := by decide +kernel
theorem dX1_pass_43 : decode cX1_pass 43 = .ok (.bipush 6, 2) := by decide +kernel
theorem dX1_pass_45 : decode cX1_pass 45 = .ok (.dup2, 1) := by decide +kernel
theorem dX1_pass_46 : decode cX1_pass 46 = .ok (.iaload, 1) := by decide +kernel
theorem dX1_pass_47 : decode cX1_pass 47 = .ok (.aload_n 0, 1) := by decide +kernel
theorem dX1_pass_48 : decode cX1_pass 48 = .ok (.getfield 26, 3) := by decide +kernel
theorem dX1_pass_51 : decode cX1_pass 51 = .ok (.aload_n 0, 1) := by decide +kernel
theorem dX1_pass_52 : decode cX1_pass 52 = .ok (.getfield 12, 3) := by decide +kernel
theorem dX1_pass_55 : decode cX1_pass 55 = .ok (.getfield 97, 3) := by decide +kernel
theorem dX1_pass_58 : decode cX1_pass 58 = .ok (.iconst (-1), 1) := by decide +kernel
theorem dX1_pass_59 : decode cX1_pass 59 = .ok (.ixor, 1) := by decide +kernel
theorem dX1_pass_60 : decode cX1_pass 60 = .ok (.iand, 1) := by decide +kernel
theorem dX1_pass_61 : decode cX1_pass 61 = .ok (.ifCond .eq 7, 3) := by decide +kernel
theorem dX1_pass_64 : decode cX1_pass 64 = .ok (.iload_n 1, 1) := by decide +kernel
theorem dX1_pass_65 : decode cX1_pass 65 = .ok (.goto 4, 3) := by decide +kernel
theorem dX1_pass_68 : decode cX1_pass 68 = .ok (.iconst 0, 1) := by decide +kernel
theorem dX1_pass_69 : decode cX1_pass 69 = .ok (.iadd, 1) := by decide +kernel
theorem dX1_pass_70 : decode cX1_pass 70 = .ok (.iastore, 1) := by decide +kernel
theorem dX1_pass_71 : decode cX1_pass 71 = .ok (.aload_n 0, 1) := by decide +kernel
theorem dX1_pass_72 : decode cX1_pass 72 = .ok (.getfield 18, 3) := by decide +kernel
theorem dX1_pass_75 : decode cX1_pass 75 = .ok (.bipush 7, 2) := by decide +kernel
theorem dX1_pass_77 : decode cX1_pass 77 = .ok (.dup2, 1) := by decide +kernel
theorem dX1_pass_78 : decode cX1_pass 78 = .ok (.iaload, 1) := by decide +kernel
theorem dX1_pass_79 : decode cX1_pass 79 = .ok (.aload_n 0, 1) := by decide +kernel
theorem dX1_pass_80 : decode cX1_pass 80 = .ok (.getfield 26, 3) := by decide +kernel
theorem dX1_pass_83 : decode cX1_pass 83 = .ok (.aload_n 0, 1) := by decide +kernel
theorem dX1_pass_84 : decode cX1_pass 84 = .ok (.getfield 12, 3) := by decide +kernel
theorem dX1_pass_87 : decode cX1_pass 87 = .ok (.getfield 97, 3) := by decide +kernel
theorem dX1_pass_90 : decode cX1_pass 90 = .ok (.iand, 1) := by decide +kernel
theorem dX1_pass_91 : decode cX1_pass 91 = .ok (.ifCond .eq 7, 3) := by decide +kernel
theorem dX1_pass_94 : decode cX1_pass 94 = .ok (.iload_n 1, 1) := by decide +kernel
theorem dX1_pass_95 : decode cX1_pass 95 = .ok (.goto 4, 3) := by decide +kernel
theorem dX1_pass_98 : decode cX1_pass 98 = .ok (.iconst 0, 1) := by decide +kernel
theorem dX1_pass_99 : decode cX1_pass 99 = .ok (.iadd, 1) := by decide +kernel
theorem dX1_pass_100 : decode cX1_pass 100 = .ok (.iastore, 1) := by decide +kernel
theorem dX1_pass_101 : decode cX1_pass 101 = .ok (.aload_n 0, 1) := by decide +kernel
theorem dX1_pass_102 : decode cX1_pass 102 = .ok (.getfield 18, 3) := by decide +kernel
theorem dX1_pass_105 : decode cX1_pass 105 = .ok (.bipush 8, 2) := by decide +kernel
theorem dX1_pass_107 : decode cX1_pass 107 = .ok (.dup2, 1) := by decide +kernel
theorem dX1_pass_108 : decode cX1_pass 108 = .ok (.iaload, 1) := by decide +kernel
theorem dX1_pass_109 : decode cX1_pass 109 = .ok (.aload_n 0, 1) := by decide +kernel
theorem dX1_pass_110 : decode cX1_pass 110 = .ok (.getfield 26, 3) := by decide +kernel
theorem dX1_pass_113 : decode cX1_pass 113 = .ok (.ifCond .ne 7, 3) := by decide +kernel
theorem dX1_pass_116 : decode cX1_pass 116 = .ok (.iload_n 1, 1) := by decide +kernel
theorem dX1_pass_117 : decode cX1_pass 117 = .ok (.goto 4, 3) := by decide +kernel
theorem dX1_pass_120 : decode cX1_pass 120 = .ok (.iconst 0, 1) := by decide +kernel
theorem dX1_pass_121 : decode cX1_pass 121 = .ok (.iadd, 1) := by decide +kernel
theorem dX1_pass_122 : decode cX1_pass 122 = .ok (.iastore, 1) := by decide +kernel
theorem dX1_pass_123 : decode cX1_pass 123 = .ok (.return_, 1) := by decide +kernel
set_option maxRecDepth 20000 in
theorem ggX1_yearsOf_X4_within : GoodIn wsX1_yearsOf wsX4_within := goodIn_r _ [4] (by decide +kernel) (by decide +kernel)
set_option maxRecDepth 20000 in
theorem gX1_yearsOf_X4_within_n100 : GoodIn wsX1_yearsOf (wsX4_within) := ggX1_yearsOf_X4_within
theorem dX1_yearsOf_0 : decode cX1_yearsOf 0 = .ok (.iload_n 1, 1) := by decide +kernel
theorem dX1_yearsOf_1 : decode cX1_yearsOf 1 = .ok (.iconst 0, 1) := by decide +kernel
theorem dX1_yearsOf_2 : decode cX1_yearsOf 2 = .ok (.bipush 8, 2) := by decide +kernel
theorem dX1_yearsOf_4 : decode cX1_yearsOf 4 = .ok (.invokestatic 100, 3) := by decide +kernel
theorem dX1_yearsOf_7 : decode cX1_yearsOf 7 = .ok (.ifCond .eq 12, 3) := by decide +kernel
theorem dX1_yearsOf_10 : decode cX1_yearsOf 10 = .ok (.aload_n 0, 1) := by decide +kernel
theorem dX1_yearsOf_11 : decode cX1_yearsOf 11 = .ok (.getfield 18, 3) := by decide +kernel
theorem dX1_yearsOf_14 : decode cX1_yearsOf 14 = .ok (.iload_n 1, 1) := by decide +kernel
theorem dX1_yearsOf_15 : decode cX1_yearsOf 15 = .ok (.iaload, 1) := by decide +kernel
theorem dX1_yearsOf_16 : decode cX1_yearsOf 16 = .ok (.goto 4, 3) := by decide +kernel
theorem dX1_yearsOf_19 : decode cX1_yearsOf 19 = .ok (.iconst 0, 1) := by decide +kernel
theorem dX1_yearsOf_20 : decode cX1_yearsOf 20 = .ok (.ireturn, 1) := by decide +kernel
theorem dX2_init_0 : decode cX2_init 0 = .ok (.aload_n 0, 1) := by decide +kernel
theorem dX2_init_1 : decode cX2_init 1 = .ok (.invokespecial 3, 3) := by decide +kernel
theorem dX2_init_4 : decode cX2_init 4 = .ok (.aload_n 0, 1) := by decide +kernel
theorem dX2_init_5 : decode cX2_init 5 = .ok (.bipush 40, 2) := by decide +kernel
theorem dX2_init_7 : decode cX2_init 7 = .ok (.newarray .int, 2) := by decide +kernel
theorem dX2_init_9 : decode cX2_init 9 = .ok (.putfield 9, 3) := by decide +kernel
theorem dX2_init_12 : decode cX2_init 12 = .ok (.return_, 1) := by decide +kernel
set_option maxRecDepth 20000 in
theorem ggX2_write_X4_within : GoodIn wsX2_write wsX4_within := goodIn_r _ [5] (by decide +kernel) (by decide +kernel)
set_option maxRecDepth 20000 in
theorem gX2_write_X4_within_n19 : GoodIn wsX2_write (wsX4_within) := ggX2_write_X4_within
theorem dX2_write_0 : decode cX2_write 0 = .ok (.aload_n 0, 1) := by decide +kernel
theorem dX2_write_1 : decode cX2_write 1 = .ok (.getfield 15, 3) := by decide +kernel
theorem dX2_write_4 : decode cX2_write 4 = .ok (.iconst 0, 1) := by decide +kernel
theorem dX2_write_5 : decode cX2_write 5 = .ok (.bipush 39, 2) := by decide +kernel
theorem dX2_write_7 : decode cX2_write 7 = .ok (.invokestatic 19, 3) := by decide +kernel
theorem dX2_write_10 : decode cX2_write 10 = .ok (.ifCond .ne 5, 3) := by decide +kernel
theorem dX2_write_13 : decode cX2_write 13 = .ok (.iconst 0, 1) := by decide +kernel
theorem dX2_write_14 : decode cX2_write 14 = .ok (.ireturn, 1) := by decide +kernel
theorem dX2_write_15 : decode cX2_write 15 = .ok (.aload_n 0, 1) := by decide +kernel
theorem dX2_write_16 : decode cX2_write 16 = .ok (.getfield 9, 3) := by decide +kernel
theorem dX2_write_19 : decode cX2_write 19 = .ok (.aload_n 0, 1) := by decide +kernel
theorem dX2_write_20 : decode cX2_write 20 = .ok (.getfield 15, 3) := by decide +kernel
theorem dX2_write_23 : decode cX2_write 23 = .ok (.iload_n 1, 1) := by decide +kernel
theorem dX2_write_24 : decode cX2_write 24 = .ok (.iastore, 1) := by decide +kernel
theorem dX2_write_25 : decode cX2_write 25 = .ok (.aload_n 0, 1) := by decide +kernel
theorem dX2_write_26 : decode cX2_write 26 = .ok (.dup, 1) := by decide +kernel
theorem dX2_write_27 : decode cX2_write 27 = .ok (.getfield 15, 3) := by decide +kernel
theorem dX2_write_30 : decode cX2_write 30 = .ok (.iconst 1, 1) := by decide +kernel
theorem dX2_write_31 : decode cX2_write 31 = .ok (.iadd, 1) := by decide +kernel
theorem dX2_write_32 : decode cX2_write 32 = .ok (.putfield 15, 3) := by decide +kernel
theorem dX2_write_35 : decode cX2_write 35 = .ok (.iconst 1, 1) := by decide +kernel
theorem dX2_write_36 : decode cX2_write 36 = .ok (.ireturn, 1) := by decide +kernel
set_option maxRecDepth 20000 in
theorem ggX2_sign_X4_within : GoodIn wsX2_sign wsX4_within := goodIn_r _ [4] (by decide +kernel) (by decide +kernel)
set_option maxRecDepth 20000 in
theorem gX2_sign_X4_within_n19 : GoodIn wsX2_sign (wsX4_within) := ggX2_sign_X4_within
theorem dX2_sign_0 : decode cX2_sign 0 = .ok (.iload_n 1, 1) := by decide +kernel
theorem dX2_sign_1 : decode cX2_sign 1 = .ok (.iconst 0, 1) := by decide +kernel
theorem dX2_sign_2 : decode cX2_sign 2 = .ok (.bipush 39, 2) := by decide +kernel
theorem dX2_sign_4 : decode cX2_sign 4 = .ok (.invokestatic 19, 3) := by decide +kernel
theorem dX2_sign_7 : decode cX2_sign 7 = .ok (.ifCond .eq 12, 3) := by decide +kernel
theorem dX2_sign_10 : decode cX2_sign 10 = .ok (.aload_n 0, 1) := by decide +kernel
theorem dX2_sign_11 : decode cX2_sign 11 = .ok (.getfield 9, 3) := by decide +kernel
theorem dX2_sign_14 : decode cX2_sign 14 = .ok (.iload_n 1, 1) := by decide +kernel
theorem dX2_sign_15 : decode cX2_sign 15 = .ok (.iaload, 1) := by decide +kernel
theorem dX2_sign_16 : decode cX2_sign 16 = .ok (.goto 4, 3) := by decide +kernel
theorem dX2_sign_19 : decode cX2_sign 19 = .ok (.iconst 0, 1) := by decide +kernel
theorem dX2_sign_20 : decode cX2_sign 20 = .ok (.ireturn, 1) := by decide +kernel
theorem dX2_takesAnother_0 : decode cX2_takesAnother 0 = .ok (.iload_n 0, 1) := by decide +kernel
theorem dX2_takesAnother_1 : decode cX2_takesAnother 1 = .ok (.bipush 33, 2) := by decide +kernel
theorem dX2_takesAnother_3 : decode cX2_takesAnother 3 = .ok (.if_icmp .eq 15, 3) := by decide +kernel
theorem dX2_takesAnother_6 : decode cX2_takesAnother 6 = .ok (.iload_n 0, 1) := by decide +kernel
theorem dX2_takesAnother_7 : decode cX2_takesAnother 7 = .ok (.bipush 45, 2) := by decide +kernel
theorem dX2_takesAnother_9 : decode cX2_takesAnother 9 = .ok (.if_icmp .eq 9, 3) := by decide +kernel
theorem dX2_takesAnother_12 : decode cX2_takesAnother 12 = .ok (.iload_n 0, 1) := by decide +kernel
theorem dX2_takesAnother_13 : decode cX2_takesAnother 13 = .ok (.bipush 126, 2) := by decide +kernel
theorem dX2_takesAnother_15 : decode cX2_takesAnother 15 = .ok (.if_icmp .ne 7, 3) := by decide +kernel
theorem dX2_takesAnother_18 : decode cX2_takesAnother 18 = .ok (.iconst 1, 1) := by decide +kernel
theorem dX2_takesAnother_19 : decode cX2_takesAnother 19 = .ok (.goto 4, 3) := by decide +kernel
theorem dX2_takesAnother_22 : decode cX2_takesAnother 22 = .ok (.iconst 0, 1) := by decide +kernel
theorem dX2_takesAnother_23 : decode cX2_takesAnother 23 = .ok (.ireturn, 1) := by decide +kernel
set_option maxRecDepth 20000 in
theorem ggX2_canBegin_X4_within : GoodIn wsX2_canBegin wsX4_within := goodIn_r _ [3] (by decide +kernel) (by decide +kernel)
set_option maxRecDepth 20000 in
theorem gX2_canBegin_X4_within_n19 : GoodIn wsX2_canBegin (wsX4_within) := ggX2_canBegin_X4_within
set_option maxRecDepth 20000 in
theorem ggX2_canBegin_X2_takesAnother : GoodIn wsX2_canBegin wsX2_takesAnother := goodIn_r _ [7] (by decide +kernel) (by decide +kernel)
set_option maxRecDepth 20000 in
theorem gX2_canBegin_X2_takesAnother : GoodIn wsX2_canBegin (va_wsS RX2 23 yX2_takesAnother wsX2_takesAnother) := goodIn_app (goodIn_of _ (by decide +kernel)) ggX2_canBegin_X2_takesAnother
theorem dX2_canBegin_0 : decode cX2_canBegin 0 = .ok (.iload_n 0, 1) := by decide +kernel
theorem dX2_canBegin_1 : decode cX2_canBegin 1 = .ok (.bipush 48, 2) := by decide +kernel
theorem dX2_canBegin_3 : decode cX2_canBegin 3 = .ok (.bipush 57, 2) := by decide +kernel
theorem dX2_canBegin_5 : decode cX2_canBegin 5 = .ok (.invokestatic 19, 3) := by decide +kernel
theorem dX2_canBegin_8 : decode cX2_canBegin 8 = .ok (.ifCond .ne 16, 3) := by decide +kernel
theorem dX2_canBegin_11 : decode cX2_canBegin 11 = .ok (.iload_n 0, 1) := by decide +kernel
theorem dX2_canBegin_12 : decode cX2_canBegin 12 = .ok (.bipush 46, 2) := by decide +kernel
theorem dX2_canBegin_14 : decode cX2_canBegin 14 = .ok (.if_icmp .eq 10, 3) := by decide +kernel
theorem dX2_canBegin_17 : decode cX2_canBegin 17 = .ok (.iload_n 0, 1) := by decide +kernel
theorem dX2_canBegin_18 : decode cX2_canBegin 18 = .ok (.invokestatic 23, 3) := by decide +kernel
theorem dX2_canBegin_21 : decode cX2_canBegin 21 = .ok (.ifCond .eq 7, 3) := by decide +kernel
theorem dX2_canBegin_24 : decode cX2_canBegin 24 = .ok (.iconst 1, 1) := by decide +kernel
theorem dX2_canBegin_25 : decode cX2_canBegin 25 = .ok (.goto 4, 3) := by decide +kernel
theorem dX2_canBegin_28 : decode cX2_canBegin 28 = .ok (.iconst 0, 1) := by decide +kernel
theorem dX2_canBegin_29 : decode cX2_canBegin 29 = .ok (.ireturn, 1) := by decide +kernel
set_option maxRecDepth 20000 in
theorem ggX2_canFollow_X4_within : GoodIn wsX2_canFollow wsX4_within := goodIn_r _ [3] (by decide +kernel) (by decide +kernel)
set_option maxRecDepth 20000 in
theorem gX2_canFollow_X4_within_n19 : GoodIn wsX2_canFollow (wsX4_within) := ggX2_canFollow_X4_within
theorem dX2_canFollow_0 : decode cX2_canFollow 0 = .ok (.iload_n 0, 1) := by decide +kernel
theorem dX2_canFollow_1 : decode cX2_canFollow 1 = .ok (.lookupswitch 45 #[(33, 27), (45, 36)], 27) := by decide +kernel
theorem dX2_canFollow_28 : decode cX2_canFollow 28 = .ok (.iload_n 1, 1) := by decide +kernel
theorem dX2_canFollow_29 : decode cX2_canFollow 29 = .ok (.bipush 48, 2) := by decide +kernel
theorem dX2_canFollow_31 : decode cX2_canFollow 31 = .ok (.bipush 57, 2) := by decide +kernel
theorem dX2_canFollow_33 : decode cX2_canFollow 33 = .ok (.invokestatic 19, 3) := by decide +kernel
theorem dX2_canFollow_36 : decode cX2_canFollow 36 = .ok (.ireturn, 1) := by decide +kernel
theorem dX2_canFollow_37 : decode cX2_canFollow 37 = .ok (.iload_n 1, 1) := by decide +kernel
theorem dX2_canFollow_38 : decode cX2_canFollow 38 = .ok (.bipush 49, 2) := by decide +kernel
theorem dX2_canFollow_40 : decode cX2_canFollow 40 = .ok (.bipush 57, 2) := by decide +kernel
theorem dX2_canFollow_42 : decode cX2_canFollow 42 = .ok (.invokestatic 19, 3) := by decide +kernel
theorem dX2_canFollow_45 : decode cX2_canFollow 45 = .ok (.ireturn, 1) := by decide +kernel
theorem dX2_canFollow_46 : decode cX2_canFollow 46 = .ok (.iload_n 1, 1) := by decide +kernel
theorem dX2_canFollow_47 : decode cX2_canFollow 47 = .ok (.bipush 65, 2) := by decide +kernel
theorem dX2_canFollow_49 : decode cX2_canFollow 49 = .ok (.bipush 70, 2) := by decide +kernel
theorem dX2_canFollow_51 : decode cX2_canFollow 51 = .ok (.invokestatic 19, 3) := by decide +kernel
theorem dX2_canFollow_54 : decode cX2_canFollow 54 = .ok (.ireturn, 1) := by decide +kernel
set_option maxRecDepth 20000 in
theorem ggX2_firstFault_X2_sign : GoodIn wsX2_firstFault wsX2_sign := goodIn_r _ [6, 7, 8, 9, 10, 20, 21] (by decide +kernel) (by decide +kernel)
set_option maxRecDepth 20000 in
theorem gX2_firstFault_X2_sign : GoodIn wsX2_firstFault (wsV RX2 27 RX2 yX2_sign wsX2_sign) := goodIn_app (goodIn_of _ (by decide +kernel)) ggX2_firstFault_X2_sign
set_option maxRecDepth 20000 in
theorem ggX2_firstFault_X2_canBegin : GoodIn wsX2_firstFault wsX2_canBegin := goodIn_r _ [13, 8, 9, 10, 14, 15, 5, 16] (by decide +kernel) (by decide +kernel)
set_option maxRecDepth 20000 in
theorem gX2_firstFault_X2_canBegin : GoodIn wsX2_firstFault (va_wsS RX2 31 yX2_canBegin wsX2_canBegin) := goodIn_app (goodIn_of _ (by decide +kernel)) ggX2_firstFault_X2_canBegin
set_option maxRecDepth 20000 in
theorem ggX2_firstFault_X2_canFollow : GoodIn wsX2_firstFault wsX2_canFollow := goodIn_r _ [19, 8, 9, 10] (by decide +kernel) (by decide +kernel)
set_option maxRecDepth 20000 in
theorem gX2_firstFault_X2_canFollow : GoodIn wsX2_firstFault (va_wsS RX2 34 yX2_canFollow wsX2_canFollow) := goodIn_app (goodIn_of _ (by decide +kernel)) ggX2_firstFault_X2_canFollow
set_option maxRecDepth 20000 in
theorem ggX2_firstFault_X2_takesAnother : GoodIn wsX2_firstFault wsX2_takesAnother := goodIn_r _ [16] (by decide +kernel) (by decide +kernel)
set_option maxRecDepth 20000 in
theorem gX2_firstFault_X2_takesAnother : GoodIn wsX2_firstFault (va_wsS RX2 23 yX2_takesAnother wsX2_takesAnother) := goodIn_app (goodIn_of _ (by decide +kernel)) ggX2_firstFault_X2_takesAnother
theorem dX2_firstFault_0 : decode cX2_firstFault 0 = .ok (.iconst 0, 1) := by decide +kernel
theorem dX2_firstFault_1 : decode cX2_firstFault 1 = .ok (.istore_n 1, 1) := by decide +kernel
theorem dX2_firstFault_2 : decode cX2_firstFault 2 = .ok (.iconst 0, 1) := by decide +kernel
theorem dX2_firstFault_3 : decode cX2_firstFault 3 = .ok (.istore_n 2, 1) := by decide +kernel
theorem dX2_firstFault_4 : decode cX2_firstFault 4 = .ok (.iload_n 2, 1) := by decide +kernel
theorem dX2_firstFault_5 : decode cX2_firstFault 5 = .ok (.aload_n 0, 1) := by decide +kernel
theorem dX2_firstFault_6 : decode cX2_firstFault 6 = .ok (.getfield 15, 3) := by decide +kernel
theorem dX2_firstFault_9 : decode cX2_firstFault 9 = .ok (.if_icmp .ge 57, 3) := by decide +kernel
theorem dX2_firstFault_12 : decode cX2_firstFault 12 = .ok (.aload_n 0, 1) := by decide +kernel
theorem dX2_firstFault_13 : decode cX2_firstFault 13 = .ok (.iload_n 2, 1) := by decide +kernel
theorem dX2_firstFault_14 : decode cX2_firstFault 14 = .ok (.invokevirtual 27, 3) := by decide +kernel
theorem dX2_firstFault_17 : decode cX2_firstFault 17 = .ok (.istore_n 3, 1) := by decide +kernel
theorem dX2_firstFault_18 : decode cX2_firstFault 18 = .ok (.iload_n 1, 1) := by decide +kernel
theorem dX2_firstFault_19 : decode cX2_firstFault 19 = .ok (.ifCond .ne 10, 3) := by decide +kernel
theorem dX2_firstFault_22 : decode cX2_firstFault 22 = .ok (.iload_n 3, 1) := by decide +kernel
theorem dX2_firstFault_23 : decode cX2_firstFault 23 = .ok (.invokestatic 31, 3) := by decide +kernel
theorem dX2_firstFault_26 : decode cX2_firstFault 26 = .ok (.goto 8, 3) := by decide +kernel
theorem dX2_firstFault_29 : decode cX2_firstFault 29 = .ok (.iload_n 1, 1) := by decide +kernel
theorem dX2_firstFault_30 : decode cX2_firstFault 30 = .ok (.iload_n 3, 1) := by decide +kernel
theorem dX2_firstFault_31 : decode cX2_firstFault 31 = .ok (.invokestatic 34, 3) := by decide +kernel
theorem dX2_firstFault_34 : decode cX2_firstFault 34 = .ok (.istore 4, 2) := by decide +kernel
theorem dX2_firstFault_36 : decode cX2_firstFault 36 = .ok (.iload 4, 2) := by decide +kernel
theorem dX2_firstFault_38 : decode cX2_firstFault 38 = .ok (.ifCond .ne 5, 3) := by decide +kernel
theorem dX2_firstFault_41 : decode cX2_firstFault 41 = .ok (.iload_n 2, 1) := by decide +kernel
theorem dX2_firstFault_42 : decode cX2_firstFault 42 = .ok (.ireturn, 1) := by decide +kernel
theorem dX2_firstFault_43 : decode cX2_firstFault 43 = .ok (.iload_n 1, 1) := by decide +kernel
theorem dX2_firstFault_44 : decode cX2_firstFault 44 = .ok (.ifCond .ne 14, 3) := by decide +kernel
theorem dX2_firstFault_47 : decode cX2_firstFault 47 = .ok (.iload_n 3, 1) := by decide +kernel
theorem dX2_firstFault_48 : decode cX2_firstFault 48 = .ok (.invokestatic 23, 3) := by decide +kernel
theorem dX2_firstFault_51 : decode cX2_firstFault 51 = .ok (.ifCond .eq 7, 3) := by decide +kernel
theorem dX2_firstFault_54 : decode cX2_firstFault 54 = .ok (.iload_n 3, 1) := by decide +kernel
theorem dX2_firstFault_55 : decode cX2_firstFault 55 = .ok (.goto 4, 3) := by decide +kernel
theorem dX2_firstFault_58 : decode cX2_firstFault 58 = .ok (.iconst 0, 1) := by decide +kernel
theorem dX2_firstFault_59 : decode cX2_firstFault 59 = .ok (.istore_n 1, 1) := by decide +kernel
theorem dX2_firstFault_60 : decode cX2_firstFault 60 = .ok (.iinc 2 1, 3) := by decide +kernel
theorem dX2_firstFault_63 : decode cX2_firstFault 63 = .ok (.goto (-59), 3) := by decide +kernel
theorem dX2_firstFault_66 : decode cX2_firstFault 66 = .ok (.iload_n 1, 1) := by decide +kernel
theorem dX2_firstFault_67 : decode cX2_firstFault 67 = .ok (.ifCond .ne 8, 3) := by decide +kernel
theorem dX2_firstFault_70 : decode cX2_firstFault 70 = .ok (.bipush (-6), 2) := by decide +kernel
theorem dX2_firstFault_72 : decode cX2_firstFault 72 = .ok (.goto 7, 3) := by decide +kernel
theorem dX2_firstFault_75 : decode cX2_firstFault 75 = .ok (.aload_n 0, 1) := by decide +kernel
theorem dX2_firstFault_76 : decode cX2_firstFault 76 = .ok (.getfield 15, 3) := by decide +kernel
theorem dX2_firstFault_79 : decode cX2_firstFault 79 = .ok (.ireturn, 1) := by decide +kernel
set_option maxRecDepth 20000 in
theorem ggX2_parts_X2_sign : GoodIn wsX2_parts wsX2_sign := goodIn_r _ [6, 7, 8, 9, 10, 14, 15] (by decide +kernel) (by decide +kernel)
set_option maxRecDepth 20000 in
theorem gX2_parts_X2_sign : GoodIn wsX2_parts (wsV RX2 27 RX2 yX2_sign wsX2_sign) := goodIn_app (goodIn_of _ (by decide +kernel)) ggX2_parts_X2_sign
set_option maxRecDepth 20000 in
theorem ggX2_parts_X2_takesAnother : GoodIn wsX2_parts wsX2_takesAnother := goodIn_r _ [13] (by decide +kernel) (by decide +kernel)
set_option maxRecDepth 20000 in
theorem gX2_parts_X2_takesAnother : GoodIn wsX2_parts (va_wsS RX2 23 yX2_takesAnother wsX2_takesAnother) := goodIn_app (goodIn_of _ (by decide +kernel)) ggX2_parts_X2_takesAnother
theorem dX2_parts_0 : decode cX2_parts 0 = .ok (.iconst 0, 1) := by decide +kernel
theorem dX2_parts_1 : decode cX2_parts 1 = .ok (.istore_n 1, 1) := by decide +kernel
theorem dX2_parts_2 : decode cX2_parts 2 = .ok (.iconst 0, 1) := by decide +kernel
theorem dX2_parts_3 : decode cX2_parts 3 = .ok (.istore_n 2, 1) := by decide +kernel
theorem dX2_parts_4 : decode cX2_parts 4 = .ok (.iload_n 2, 1) := by decide +kernel
theorem dX2_parts_5 : decode cX2_parts 5 = .ok (.aload_n 0, 1) := by decide +kernel
theorem dX2_parts_6 : decode cX2_parts 6 = .ok (.getfield 15, 3) := by decide +kernel
theorem dX2_parts_9 : decode cX2_parts 9 = .ok (.if_icmp .ge 23, 3) := by decide +kernel
theorem dX2_parts_12 : decode cX2_parts 12 = .ok (.aload_n 0, 1) := by decide +kernel
theorem dX2_parts_13 : decode cX2_parts 13 = .ok (.iload_n 2, 1) := by decide +kernel
theorem dX2_parts_14 : decode cX2_parts 14 = .ok (.invokevirtual 27, 3) := by decide +kernel
theorem dX2_parts_17 : decode cX2_parts 17 = .ok (.invokestatic 23, 3) := by decide +kernel
theorem dX2_parts_20 : decode cX2_parts 20 = .ok (.ifCond .ne 6, 3) := by decide +kernel
theorem dX2_parts_23 : decode cX2_parts 23 = .ok (.iinc 1 1, 3) := by decide +kernel
theorem dX2_parts_26 : decode cX2_parts 26 = .ok (.iinc 2 1, 3) := by decide +kernel
theorem dX2_parts_29 : decode cX2_parts 29 = .ok (.goto (-25), 3) := by decide +kernel
theorem dX2_parts_32 : decode cX2_parts 32 = .ok (.iload_n 1, 1) := by decide +kernel
theorem dX2_parts_33 : decode cX2_parts 33 = .ok (.ireturn, 1) := by decide +kernel
theorem dX3_init_0 : decode cX3_init 0 = .ok (.aload_n 0, 1) := by decide +kernel
theorem dX3_init_1 : decode cX3_init 1 = .ok (.invokespecial 3, 3) := by decide +kernel
theorem dX3_init_4 : decode cX3_init 4 = .ok (.aload_n 0, 1) := by decide +kernel
theorem dX3_init_5 : decode cX3_init 5 = .ok (.bipush 10, 2) := by decide +kernel
theorem dX3_init_7 : decode cX3_init 7 = .ok (.newarray .int, 2) := by decide +kernel
theorem dX3_init_9 : decode cX3_init 9 = .ok (.putfield 9, 3) := by decide +kernel
theorem dX3_init_12 : decode cX3_init 12 = .ok (.aload_n 0, 1) := by decide +kernel
theorem dX3_init_13 : decode cX3_init 13 = .ok (.sipush 300, 3) := by decide +kernel
theorem dX3_init_16 : decode cX3_init 16 = .ok (.newarray .int, 2) := by decide +kernel
theorem dX3_init_18 : decode cX3_init 18 = .ok (.putfield 15, 3) := by decide +kernel
theorem dX3_init_21 : decode cX3_init 21 = .ok (.aload_n 0, 1) := by decide +kernel
theorem dX3_init_22 : decode cX3_init 22 = .ok (.sipush 3000, 3) := by decide +kernel
theorem dX3_init_25 : decode cX3_init 25 = .ok (.newarray .int, 2) := by decide +kernel
theorem dX3_init_27 : decode cX3_init 27 = .ok (.putfield 18, 3) := by decide +kernel
theorem dX3_init_30 : decode cX3_init 30 = .ok (.aload_n 0, 1) := by decide +kernel
theorem dX3_init_31 : decode cX3_init 31 = .ok (.sipush 300, 3) := by decide +kernel
theorem dX3_init_34 : decode cX3_init 34 = .ok (.newarray .int, 2) := by decide +kernel
theorem dX3_init_36 : decode cX3_init 36 = .ok (.putfield 21, 3) := by decide +kernel
theorem dX3_init_39 : decode cX3_init 39 = .ok (.return_, 1) := by decide +kernel
set_option maxRecDepth 20000 in
theorem ggX3_weigh_J7_fill_53178 : GoodIn wsX3_weigh wsJ7_fill_53178 := goodIn_r _ [12] (by decide +kernel) (by decide +kernel)
set_option maxRecDepth 20000 in
theorem gX3_weigh_J7_fill_53178 : GoodIn wsX3_weigh (va_wsS RX3 33 yJ7_fill_53178 wsJ7_fill_53178) := goodIn_app (goodIn_of _ (by decide +kernel)) ggX3_weigh_J7_fill_53178
set_option maxRecDepth 20000 in
theorem ggX3_weigh_X3_fillSlots : GoodIn wsX3_weigh wsX3_fillSlots := goodIn_r _ [17, 18, 8, 19, 20, 9, 10, 11, 12, 21, 22, 23, 24, 25, 26, 27, 28, 29, 30, 31, 32, 33, 34, 16, 35, 36, 37, 38, 39, 40, 41, 42, 43, 44, 45, 46, 47, 48, 49, 77, 78, 79, 80, 81, 65, 66, 67, 68, 69, 70, 71, 72, 73, 74, 75, 76] (by decide +kernel) (by decide +kernel)
set_option maxRecDepth 20000 in
theorem gX3_weigh_X3_fillSlots : GoodIn wsX3_weigh (wsV RX3 39 RX3 yX3_fillSlots wsX3_fillSlots) := goodIn_app (goodIn_of _ (by decide +kernel)) ggX3_weigh_X3_fillSlots
set_option maxRecDepth 20000 in
theorem ggX3_weigh_X3_weighRow : GoodIn wsX3_weigh wsX3_weighRow := goodIn_r _ [53, 18, 54, 55, 47, 56, 2, 36, 37, 16, 38, 57, 58, 59, 60, 61, 7, 62, 63, 64, 77, 78, 79, 80, 81] (by decide +kernel) (by decide +kernel)
set_option maxRecDepth 20000 in
theorem gX3_weigh_X3_weighRow : GoodIn wsX3_weigh (wsV RX3 47 RX3 yX3_weighRow wsX3_weighRow) := goodIn_app (goodIn_of _ (by decide +kernel)) ggX3_weigh_X3_weighRow
theorem dX3_weigh_0 : decode cX3_weigh 0 = .ok (.aload_n 1, 1) := by decide +kernel
theorem dX3_weigh_1 : decode cX3_weigh 1 = .ok (.getfield 24, 3) := by decide +kernel
theorem dX3_weigh_4 : decode cX3_weigh 4 = .ok (.iconst 0, 1) := by decide +kernel
theorem dX3_weigh_5 : decode cX3_weigh 5 = .ok (.aload_n 0, 1) := by decide +kernel
theorem dX3_weigh_6 : decode cX3_weigh 6 = .ok (.getfield 9, 3) := by decide +kernel
theorem dX3_weigh_9 : decode cX3_weigh 9 = .ok (.iconst 0, 1) := by decide +kernel
theorem dX3_weigh_10 : decode cX3_weigh 10 = .ok (.bipush 10, 2) := by decide +kernel
theorem dX3_weigh_12 : decode cX3_weigh 12 = .ok (.invokestatic 27, 3) := by decide +kernel
theorem dX3_weigh_15 : decode cX3_weigh 15 = .ok (.aload_n 0, 1) := by decide +kernel
theorem dX3_weigh_16 : decode cX3_weigh 16 = .ok (.getfield 21, 3) := by decide +kernel
theorem dX3_weigh_19 : decode cX3_weigh 19 = .ok (.iconst 0, 1) := by decide +kernel
theorem dX3_weigh_20 : decode cX3_weigh 20 = .ok (.invokestatic 33, 3) := by decide +kernel
theorem dX3_weigh_23 : decode cX3_weigh 23 = .ok (.aload_n 0, 1) := by decide +kernel
theorem dX3_weigh_24 : decode cX3_weigh 24 = .ok (.aload_n 1, 1) := by decide +kernel
theorem dX3_weigh_25 : decode cX3_weigh 25 = .ok (.invokevirtual 39, 3) := by decide +kernel
theorem dX3_weigh_28 : decode cX3_weigh 28 = .ok (.iconst 0, 1) := by decide +kernel
theorem dX3_weigh_29 : decode cX3_weigh 29 = .ok (.istore_n 2, 1) := by decide +kernel
theorem dX3_weigh_30 : decode cX3_weigh 30 = .ok (.iload_n 2, 1) := by decide +kernel
theorem dX3_weigh_31 : decode cX3_weigh 31 = .ok (.aload_n 0, 1) := by decide +kernel
theorem dX3_weigh_32 : decode cX3_weigh 32 = .ok (.getfield 43, 3) := by decide +kernel
theorem dX3_weigh_35 : decode cX3_weigh 35 = .ok (.if_icmp .ge 21, 3) := by decide +kernel
theorem dX3_weigh_38 : decode cX3_weigh 38 = .ok (.iload_n 2, 1) := by decide +kernel
theorem dX3_weigh_39 : decode cX3_weigh 39 = .ok (.sipush 1000, 3) := by decide +kernel
theorem dX3_weigh_42 : decode cX3_weigh 42 = .ok (.if_icmp .ge 14, 3) := by decide +kernel
theorem dX3_weigh_45 : decode cX3_weigh 45 = .ok (.aload_n 0, 1) := by decide +kernel
theorem dX3_weigh_46 : decode cX3_weigh 46 = .ok (.iload_n 2, 1) := by decide +kernel
theorem dX3_weigh_47 : decode cX3_weigh 47 = .ok (.invokevirtual 47, 3) := by decide +kernel
theorem dX3_weigh_50 : decode cX3_weigh 50 = .ok (.iinc 2 1, 3) := by decide +kernel
theorem dX3_weigh_53 : decode cX3_weigh 53 = .ok (.goto (-23), 3) := by decide +kernel
theorem dX3_weigh_56 : decode cX3_weigh 56 = .ok (.return_, 1) := by decide +kernel
set_option maxRecDepth 20000 in
theorem ggX3_fillSlots_J7_fill_53178 : GoodIn wsX3_fillSlots wsJ7_fill_53178 := goodIn_r _ [8] (by decide +kernel) (by decide +kernel)
set_option maxRecDepth 20000 in
theorem gX3_fillSlots_J7_fill_53178 : GoodIn wsX3_fillSlots (va_wsS RX3 33 yJ7_fill_53178 wsJ7_fill_53178) := goodIn_app (goodIn_of _ (by decide +kernel)) ggX3_fillSlots_J7_fill_53178
set_option maxRecDepth 20000 in
theorem ggX3_fillSlots_X0_isThere : GoodIn wsX3_fillSlots wsX0_isThere := goodIn_r _ [13, 14, 15, 16, 17, 18, 19, 44, 45, 46, 47, 48, 49, 50, 51, 52, 53, 54, 55] (by decide +kernel) (by decide +kernel)
set_option maxRecDepth 20000 in
theorem gX3_fillSlots_X0_isThere : GoodIn wsX3_fillSlots (wsV RX3 51 RX0 yX0_isThere wsX0_isThere) := goodIn_app (goodIn_of _ (by decide +kernel)) ggX3_fillSlots_X0_isThere
set_option maxRecDepth 20000 in
theorem ggX3_fillSlots_X4_hasBit : GoodIn wsX3_fillSlots wsX4_hasBit := goodIn_r _ [19] (by decide +kernel) (by decide +kernel)
set_option maxRecDepth 20000 in
theorem gX3_fillSlots_X4_hasBit_n58 : GoodIn wsX3_fillSlots (wsX4_hasBit) := ggX3_fillSlots_X4_hasBit
set_option maxRecDepth 20000 in
theorem ggX3_fillSlots_X3_fillTimes : GoodIn wsX3_fillSlots wsX3_fillTimes := goodIn_r _ [24, 1, 25, 26, 23, 27, 28, 29, 30, 12, 31, 32, 33, 34, 35, 36, 37, 38, 18, 16, 19, 39, 40, 41, 42, 43, 44, 45, 46, 47, 48, 49, 50, 51, 52, 53, 54, 55] (by decide +kernel) (by decide +kernel)
set_option maxRecDepth 20000 in
theorem gX3_fillSlots_X3_fillTimes : GoodIn wsX3_fillSlots (wsV RX3 65 RX3 yX3_fillTimes wsX3_fillTimes) := goodIn_app (goodIn_of _ (by decide +kernel)) ggX3_fillSlots_X3_fillTimes
theorem dX3_fillSlots_0 : decode cX3_fillSlots 0 = .ok (.aload_n 0, 1) := by decide +kernel
theorem dX3_fillSlots_1 : decode cX3_fillSlots 1 = .ok (.getfield 15, 3) := by decide +kernel
theorem dX3_fillSlots_4 : decode cX3_fillSlots 4 = .ok (.sipush 1000, 3) := by decide +kernel
theorem dX3_fillSlots_7 : decode cX3_fillSlots 7 = .ok (.invokestatic 33, 3) := by decide +kernel
theorem dX3_fillSlots_10 : decode cX3_fillSlots 10 = .ok (.aload_n 0, 1) := by decide +kernel
theorem dX3_fillSlots_11 : decode cX3_fillSlots 11 = .ok (.iconst 1, 1) := by decide +kernel
theorem dX3_fillSlots_12 : decode cX3_fillSlots 12 = .ok (.putfield 43, 3) := by decide +kernel
theorem dX3_fillSlots_15 : decode cX3_fillSlots 15 = .ok (.iconst 2, 1) := by decide +kernel
theorem dX3_fillSlots_16 : decode cX3_fillSlots 16 = .ok (.istore_n 2, 1) := by decide +kernel
theorem dX3_fillSlots_17 : decode cX3_fillSlots 17 = .ok (.iconst 5, 1) := by decide +kernel
theorem dX3_fillSlots_18 : decode cX3_fillSlots 18 = .ok (.istore_n 3, 1) := by decide +kernel
theorem dX3_fillSlots_19 : decode cX3_fillSlots 19 = .ok (.iload_n 3, 1) := by decide +kernel
theorem dX3_fillSlots_20 : decode cX3_fillSlots 20 = .ok (.ifCond .lt 61, 3) := by decide +kernel
theorem dX3_fillSlots_23 : decode cX3_fillSlots 23 = .ok (.iload_n 2, 1) := by decide +kernel
theorem dX3_fillSlots_24 : decode cX3_fillSlots 24 = .ok (.ifCond .lt 57, 3) := by decide +kernel
theorem dX3_fillSlots_27 : decode cX3_fillSlots 27 = .ok (.aload_n 1, 1) := by decide +kernel
theorem dX3_fillSlots_28 : decode cX3_fillSlots 28 = .ok (.iload_n 3, 1) := by decide +kernel
theorem dX3_fillSlots_29 : decode cX3_fillSlots 29 = .ok (.invokevirtual 51, 3) := by decide +kernel
theorem dX3_fillSlots_32 : decode cX3_fillSlots 32 = .ok (.ifCond .ne 6, 3) := by decide +kernel
theorem dX3_fillSlots_35 : decode cX3_fillSlots 35 = .ok (.goto 40, 3) := by decide +kernel
theorem dX3_fillSlots_38 : decode cX3_fillSlots 38 = .ok (.aload_n 1, 1) := by decide +kernel
theorem dX3_fillSlots_39 : decode cX3_fillSlots 39 = .ok (.getfield 55, 3) := by decide +kernel
theorem dX3_fillSlots_42 : decode cX3_fillSlots 42 = .ok (.iload_n 3, 1) := by decide +kernel
theorem dX3_fillSlots_43 : decode cX3_fillSlots 43 = .ok (.invokestatic 58, 3) := by decide +kernel
theorem dX3_fillSlots_46 : decode cX3_fillSlots 46 = .ok (.ifCond .ne 15, 3) := by decide +kernel
theorem dX3_fillSlots_49 : decode cX3_fillSlots 49 = .ok (.aload_n 0, 1) := by decide +kernel
theorem dX3_fillSlots_50 : decode cX3_fillSlots 50 = .ok (.aload_n 1, 1) := by decide +kernel
theorem dX3_fillSlots_51 : decode cX3_fillSlots 51 = .ok (.aload_n 1, 1) := by decide +kernel
theorem dX3_fillSlots_52 : decode cX3_fillSlots 52 = .ok (.getfield 62, 3) := by decide +kernel
theorem dX3_fillSlots_55 : decode cX3_fillSlots 55 = .ok (.iload_n 3, 1) := by decide +kernel
theorem dX3_fillSlots_56 : decode cX3_fillSlots 56 = .ok (.iaload, 1) := by decide +kernel
theorem dX3_fillSlots_57 : decode cX3_fillSlots 57 = .ok (.iload_n 2, 1) := by decide +kernel
theorem dX3_fillSlots_58 : decode cX3_fillSlots 58 = .ok (.invokevirtual 65, 3) := by decide +kernel
theorem dX3_fillSlots_61 : decode cX3_fillSlots 61 = .ok (.iinc 2 (-1), 3) := by decide +kernel
theorem dX3_fillSlots_64 : decode cX3_fillSlots 64 = .ok (.aload_n 0, 1) := by decide +kernel
theorem dX3_fillSlots_65 : decode cX3_fillSlots 65 = .ok (.dup, 1) := by decide +kernel
theorem dX3_fillSlots_66 : decode cX3_fillSlots 66 = .ok (.getfield 43, 3) := by decide +kernel
theorem dX3_fillSlots_69 : decode cX3_fillSlots 69 = .ok (.bipush 10, 2) := by decide +kernel
theorem dX3_fillSlots_71 : decode cX3_fillSlots 71 = .ok (.imul, 1) := by decide +kernel
theorem dX3_fillSlots_72 : decode cX3_fillSlots 72 = .ok (.putfield 43, 3) := by decide +kernel
theorem dX3_fillSlots_75 : decode cX3_fillSlots 75 = .ok (.iinc 3 (-1), 3) := by decide +kernel
theorem dX3_fillSlots_78 : decode cX3_fillSlots 78 = .ok (.goto (-59), 3) := by decide +kernel
theorem dX3_fillSlots_81 : decode cX3_fillSlots 81 = .ok (.return_, 1) := by decide +kernel
set_option maxRecDepth 20000 in
theorem ggX3_fillTimes_X3_pair : GoodIn wsX3_fillTimes wsX3_pair := goodIn_r _ [5] (by decide +kernel) (by decide +kernel)
set_option maxRecDepth 20000 in
theorem gX3_fillTimes_X3_pair : GoodIn wsX3_fillTimes (va_wsS RX3 69 yX3_pair wsX3_pair) := goodIn_app (goodIn_of _ (by decide +kernel)) ggX3_fillTimes_X3_pair
set_option maxRecDepth 20000 in
theorem ggX3_fillTimes_X0_openTimeAt : GoodIn wsX3_fillTimes wsX0_openTimeAt := goodIn_r _ [10, 11, 12, 13, 14, 15, 16, 17, 18, 19, 20, 26, 27, 28, 29, 30, 31, 32, 33, 34, 35, 36, 37] (by decide +kernel) (by decide +kernel)
set_option maxRecDepth 20000 in
theorem gX3_fillTimes_X0_openTimeAt : GoodIn wsX3_fillTimes (wsV RX3 73 RX0 yX0_openTimeAt wsX0_openTimeAt) := goodIn_app (goodIn_of _ (by decide +kernel)) ggX3_fillTimes_X0_openTimeAt
theorem dX3_fillTimes_0 : decode cX3_fillTimes 0 = .ok (.iconst 0, 1) := by decide +kernel
theorem dX3_fillTimes_1 : decode cX3_fillTimes 1 = .ok (.istore 4, 2) := by decide +kernel
theorem dX3_fillTimes_3 : decode cX3_fillTimes 3 = .ok (.iload 4, 2) := by decide +kernel
theorem dX3_fillTimes_5 : decode cX3_fillTimes 5 = .ok (.bipush 10, 2) := by decide +kernel
theorem dX3_fillTimes_7 : decode cX3_fillTimes 7 = .ok (.if_icmp .ge 47, 3) := by decide +kernel
theorem dX3_fillTimes_10 : decode cX3_fillTimes 10 = .ok (.iconst 0, 1) := by decide +kernel
theorem dX3_fillTimes_11 : decode cX3_fillTimes 11 = .ok (.istore 5, 2) := by decide +kernel
theorem dX3_fillTimes_13 : decode cX3_fillTimes 13 = .ok (.iload 5, 2) := by decide +kernel
theorem dX3_fillTimes_15 : decode cX3_fillTimes 15 = .ok (.bipush 10, 2) := by decide +kernel
theorem dX3_fillTimes_17 : decode cX3_fillTimes 17 = .ok (.if_icmp .ge 31, 3) := by decide +kernel
theorem dX3_fillTimes_20 : decode cX3_fillTimes 20 = .ok (.aload_n 0, 1) := by decide +kernel
theorem dX3_fillTimes_21 : decode cX3_fillTimes 21 = .ok (.getfield 15, 3) := by decide +kernel
theorem dX3_fillTimes_24 : decode cX3_fillTimes 24 = .ok (.iload_n 3, 1) := by decide +kernel
theorem dX3_fillTimes_25 : decode cX3_fillTimes 25 = .ok (.iload 4, 2) := by decide +kernel
theorem dX3_fillTimes_27 : decode cX3_fillTimes 27 = .ok (.iload 5, 2) := by decide +kernel
theorem dX3_fillTimes_29 : decode cX3_fillTimes 29 = .ok (.invokestatic 69, 3) := by decide +kernel
theorem dX3_fillTimes_32 : decode cX3_fillTimes 32 = .ok (.aload_n 1, 1) := by decide +kernel
theorem dX3_fillTimes_33 : decode cX3_fillTimes 33 = .ok (.iload 4, 2) := by decide +kernel
theorem dX3_fillTimes_35 : decode cX3_fillTimes 35 = .ok (.iload_n 2, 1) := by decide +kernel
theorem dX3_fillTimes_36 : decode cX3_fillTimes 36 = .ok (.iload 5, 2) := by decide +kernel
theorem dX3_fillTimes_38 : decode cX3_fillTimes 38 = .ok (.invokevirtual 73, 3) := by decide +kernel
theorem dX3_fillTimes_41 : decode cX3_fillTimes 41 = .ok (.iastore, 1) := by decide +kernel
theorem dX3_fillTimes_42 : decode cX3_fillTimes 42 = .ok (.iinc 5 1, 3) := by decide +kernel
theorem dX3_fillTimes_45 : decode cX3_fillTimes 45 = .ok (.goto (-32), 3) := by decide +kernel
theorem dX3_fillTimes_48 : decode cX3_fillTimes 48 = .ok (.iinc 4 1, 3) := by decide +kernel
theorem dX3_fillTimes_51 : decode cX3_fillTimes 51 = .ok (.goto (-48), 3) := by decide +kernel
theorem dX3_fillTimes_54 : decode cX3_fillTimes 54 = .ok (.return_, 1) := by decide +kernel
theorem dX3_pair_0 : decode cX3_pair 0 = .ok (.iload_n 0, 1) := by decide +kernel
theorem dX3_pair_1 : decode cX3_pair 1 = .ok (.bipush 10, 2) := by decide +kernel
theorem dX3_pair_3 : decode cX3_pair 3 = .ok (.imul, 1) := by decide +kernel
theorem dX3_pair_4 : decode cX3_pair 4 = .ok (.iload_n 1, 1) := by decide +kernel
theorem dX3_pair_5 : decode cX3_pair 5 = .ok (.iadd, 1) := by decide +kernel
theorem dX3_pair_6 : decode cX3_pair 6 = .ok (.bipush 10, 2) := by decide +kernel
theorem dX3_pair_8 : decode cX3_pair 8 = .ok (.imul, 1) := by decide +kernel
theorem dX3_pair_9 : decode cX3_pair 9 = .ok (.iload_n 2, 1) := by decide +kernel
theorem dX3_pair_10 : decode cX3_pair 10 = .ok (.iadd, 1) := by decide +kernel
theorem dX3_pair_11 : decode cX3_pair 11 = .ok (.ireturn, 1) := by decide +kernel
set_option maxRecDepth 20000 in
theorem ggX3_weighRow_X3_pair : GoodIn wsX3_weighRow wsX3_pair := goodIn_r _ [10] (by decide +kernel) (by decide +kernel)
set_option maxRecDepth 20000 in
theorem gX3_weighRow_X3_pair : GoodIn wsX3_weighRow (va_wsS RX3 69 yX3_pair wsX3_pair) := goodIn_app (goodIn_of _ (by decide +kernel)) ggX3_weighRow_X3_pair
set_option maxRecDepth 20000 in
theorem ggX3_weighRow_X3_keep : GoodIn wsX3_weighRow wsX3_keep := goodIn_r _ [14, 15, 16, 17, 18, 4, 19, 20, 21, 22, 23, 24] (by decide +kernel) (by decide +kernel)
set_option maxRecDepth 20000 in
theorem gX3_weighRow_X3_keep : GoodIn wsX3_weighRow (wsV RX3 82 RX3 yX3_keep wsX3_keep) := goodIn_app (goodIn_of _ (by decide +kernel)) ggX3_weighRow_X3_keep
theorem dX3_weighRow_0 : decode cX3_weighRow 0 = .ok (.iload_n 1, 1) := by decide +kernel
theorem dX3_weighRow_1 : decode cX3_weighRow 1 = .ok (.bipush 100, 2) := by decide +kernel
theorem dX3_weighRow_3 : decode cX3_weighRow 3 = .ok (.idiv, 1) := by decide +kernel
theorem dX3_weighRow_4 : decode cX3_weighRow 4 = .ok (.istore_n 2, 1) := by decide +kernel
theorem dX3_weighRow_5 : decode cX3_weighRow 5 = .ok (.iload_n 1, 1) := by decide +kernel
theorem dX3_weighRow_6 : decode cX3_weighRow 6 = .ok (.bipush 10, 2) := by decide +kernel
theorem dX3_weighRow_8 : decode cX3_weighRow 8 = .ok (.idiv, 1) := by decide +kernel
theorem dX3_weighRow_9 : decode cX3_weighRow 9 = .ok (.bipush 10, 2) := by decide +kernel
theorem dX3_weighRow_11 : decode cX3_weighRow 11 = .ok (.irem, 1) := by decide +kernel
theorem dX3_weighRow_12 : decode cX3_weighRow 12 = .ok (.istore_n 3, 1) := by decide +kernel
theorem dX3_weighRow_13 : decode cX3_weighRow 13 = .ok (.iload_n 1, 1) := by decide +kernel
theorem dX3_weighRow_14 : decode cX3_weighRow 14 = .ok (.bipush 10, 2) := by decide +kernel
theorem dX3_weighRow_16 : decode cX3_weighRow 16 = .ok (.irem, 1) := by decide +kernel
theorem dX3_weighRow_17 : decode cX3_weighRow 17 = .ok (.istore 4, 2) := by decide +kernel
theorem dX3_weighRow_19 : decode cX3_weighRow 19 = .ok (.iconst 0, 1) := by decide +kernel
theorem dX3_weighRow_20 : decode cX3_weighRow 20 = .ok (.iload_n 2, 1) := by decide +kernel
theorem dX3_weighRow_21 : decode cX3_weighRow 21 = .ok (.iconst 0, 1) := by decide +kernel
theorem dX3_weighRow_22 : decode cX3_weighRow 22 = .ok (.invokestatic 69, 3) := by decide +kernel
theorem dX3_weighRow_25 : decode cX3_weighRow 25 = .ok (.istore 5, 2) := by decide +kernel
theorem dX3_weighRow_27 : decode cX3_weighRow 27 = .ok (.iconst 1, 1) := by decide +kernel
theorem dX3_weighRow_28 : decode cX3_weighRow 28 = .ok (.iload_n 3, 1) := by decide +kernel
theorem dX3_weighRow_29 : decode cX3_weighRow 29 = .ok (.iconst 0, 1) := by decide +kernel
theorem dX3_weighRow_30 : decode cX3_weighRow 30 = .ok (.invokestatic 69, 3) := by decide +kernel
theorem dX3_weighRow_33 : decode cX3_weighRow 33 = .ok (.istore 6, 2) := by decide +kernel
theorem dX3_weighRow_35 : decode cX3_weighRow 35 = .ok (.iconst 2, 1) := by decide +kernel
theorem dX3_weighRow_36 : decode cX3_weighRow 36 = .ok (.iload 4, 2) := by decide +kernel
theorem dX3_weighRow_38 : decode cX3_weighRow 38 = .ok (.iconst 0, 1) := by decide +kernel
theorem dX3_weighRow_39 : decode cX3_weighRow 39 = .ok (.invokestatic 69, 3) := by decide +kernel
theorem dX3_weighRow_42 : decode cX3_weighRow 42 = .ok (.istore 7, 2) := by decide +kernel
theorem dX3_weighRow_44 : decode cX3_weighRow 44 = .ok (.iconst 0, 1) := by decide +kernel
theorem dX3_weighRow_45 : decode cX3_weighRow 45 = .ok (.istore 8, 2) := by decide +kernel
theorem dX3_weighRow_47 : decode cX3_weighRow 47 = .ok (.iconst 0, 1) := by decide +kernel
theorem dX3_weighRow_48 : decode cX3_weighRow 48 = .ok (.istore 9, 2) := by decide +kernel
theorem dX3_weighRow_50 : decode cX3_weighRow 50 = .ok (.iconst 0, 1) := by decide +kernel
theorem dX3_weighRow_51 : decode cX3_weighRow 51 = .ok (.istore 10, 2) := by decide +kernel
theorem dX3_weighRow_53 : decode cX3_weighRow 53 = .ok (.iconst 0, 1) := by decide +kernel
theorem dX3_weighRow_54 : decode cX3_weighRow 54 = .ok (.istore 11, 2) := by decide +kernel
theorem dX3_weighRow_56 : decode cX3_weighRow 56 = .ok (.iload 11, 2) := by decide +kernel
theorem dX3_weighRow_58 : decode cX3_weighRow 58 = .ok (.bipush 10, 2) := by decide +kernel
theorem dX3_weighRow_60 : decode cX3_weighRow 60 = .ok (.if_icmp .ge 185, 3) := by decide +kernel
theorem dX3_weighRow_63 : decode cX3_weighRow 63 = .ok (.aload_n 0, 1) := by decide +kernel
theorem dX3_weighRow_64 : decode cX3_weighRow 64 = .ok (.getfield 15, 3) := by decide +kernel
theorem dX3_weighRow_67 : decode cX3_weighRow 67 = .ok (.iload 5, 2) := by decide +kernel
theorem dX3_weighRow_69 : decode cX3_weighRow 69 = .ok (.iload 11, 2) := by decide +kernel
theorem dX3_weighRow_71 : decode cX3_weighRow 71 = .ok (.iadd, 1) := by decide +kernel
theorem dX3_weighRow_72 : decode cX3_weighRow 72 = .ok (.iaload, 1) := by decide +kernel
theorem dX3_weighRow_73 : decode cX3_weighRow 73 = .ok (.istore 12, 2) := by decide +kernel
theorem dX3_weighRow_75 : decode cX3_weighRow 75 = .ok (.aload_n 0, 1) := by decide +kernel
theorem dX3_weighRow_76 : decode cX3_weighRow 76 = .ok (.getfield 15, 3) := by decide +kernel
theorem dX3_weighRow_79 : decode cX3_weighRow 79 = .ok (.iload 6, 2) := by decide +kernel
theorem dX3_weighRow_81 : decode cX3_weighRow 81 = .ok (.iload 11, 2) := by decide +kernel
theorem dX3_weighRow_83 : decode cX3_weighRow 83 = .ok (.iadd, 1) := by decide +kernel
theorem dX3_weighRow_84 : decode cX3_weighRow 84 = .ok (.iaload, 1) := by decide +kernel
theorem dX3_weighRow_85 : decode cX3_weighRow 85 = .ok (.istore 13, 2) := by decide +kernel
theorem dX3_weighRow_87 : decode cX3_weighRow 87 = .ok (.aload_n 0, 1) := by decide +kernel
theorem dX3_weighRow_88 : decode cX3_weighRow 88 = .ok (.getfield 15, 3) := by decide +kernel
theorem dX3_weighRow_91 : decode cX3_weighRow 91 = .ok (.iload 7, 2) := by decide +kernel
theorem dX3_weighRow_93 : decode cX3_weighRow 93 = .ok (.iload 11, 2) := by decide +kernel
theorem dX3_weighRow_95 : decode cX3_weighRow 95 = .ok (.iadd, 1) := by decide +kernel
theorem dX3_weighRow_96 : decode cX3_weighRow 96 = .ok (.iaload, 1) := by decide +kernel
theorem dX3_weighRow_97 : decode cX3_weighRow 97 = .ok (.istore 14, 2) := by decide +kernel
theorem dX3_weighRow_99 : decode cX3_weighRow 99 = .ok (.iload 12, 2) := by decide +kernel
theorem dX3_weighRow_101 : decode cX3_weighRow 101 = .ok (.iload 13, 2) := by decide +kernel
theorem dX3_weighRow_103 : decode cX3_weighRow 103 = .ok (.iload 14, 2) := by decide +kernel
theorem dX3_weighRow_105 : decode cX3_weighRow 105 = .ok (.invokestatic 76, 3) := by decide +kernel
theorem dX3_weighRow_108 : decode cX3_weighRow 108 = .ok (.invokestatic 76, 3) := by decide +kernel
theorem dX3_weighRow_111 : decode cX3_weighRow 111 = .ok (.istore 15, 2) := by decide +kernel
theorem dX3_weighRow_113 : decode cX3_weighRow 113 = .ok (.iload 12, 2) := by decide +kernel
theorem dX3_weighRow_115 : decode cX3_weighRow 115 = .ok (.iload 15, 2) := by decide +kernel
theorem dX3_weighRow_117 : decode cX3_weighRow 117 = .ok (.if_icmp .ne 7, 3) := by decide +kernel
theorem dX3_weighRow_120 : decode cX3_weighRow 120 = .ok (.iconst 1, 1) := by decide +kernel
theorem dX3_weighRow_121 : decode cX3_weighRow 121 = .ok (.goto 4, 3) := by decide +kernel
theorem dX3_weighRow_124 : decode cX3_weighRow 124 = .ok (.iconst 0, 1) := by decide +kernel
theorem dX3_weighRow_125 : decode cX3_weighRow 125 = .ok (.iload 13, 2) := by decide +kernel
theorem dX3_weighRow_127 : decode cX3_weighRow 127 = .ok (.iload 15, 2) := by decide +kernel
theorem dX3_weighRow_129 : decode cX3_weighRow 129 = .ok (.if_icmp .ne 7, 3) := by decide +kernel
theorem dX3_weighRow_132 : decode cX3_weighRow 132 = .ok (.iconst 1, 1) := by decide +kernel
theorem dX3_weighRow_133 : decode cX3_weighRow 133 = .ok (.goto 4, 3) := by decide +kernel
theorem dX3_weighRow_136 : decode cX3_weighRow 136 = .ok (.iconst 0, 1) := by decide +kernel
theorem dX3_weighRow_137 : decode cX3_weighRow 137 = .ok (.iadd, 1) := by decide +kernel
theorem dX3_weighRow_138 : decode cX3_weighRow 138 = .ok (.iload 14, 2) := by decide +kernel
theorem dX3_weighRow_140 : decode cX3_weighRow 140 = .ok (.iload 15, 2) := by decide +kernel
theorem dX3_weighRow_142 : decode cX3_weighRow 142 = .ok (.if_icmp .ne 7, 3) := by decide +kernel
theorem dX3_weighRow_145 : decode cX3_weighRow 145 = .ok (.iconst 1, 1) := by decide +kernel
theorem dX3_weighRow_146 : decode cX3_weighRow 146 = .ok (.goto 4, 3) := by decide +kernel
theorem dX3_weighRow_149 : decode cX3_weighRow 149 = .ok (.iconst 0, 1) := by decide +kernel
theorem dX3_weighRow_150 : decode cX3_weighRow 150 = .ok (.iadd, 1) := by decide +kernel
theorem dX3_weighRow_151 : decode cX3_weighRow 151 = .ok (.istore 16, 2) := by decide +kernel
theorem dX3_weighRow_153 : decode cX3_weighRow 153 = .ok (.iload 15, 2) := by decide +kernel
theorem dX3_weighRow_155 : decode cX3_weighRow 155 = .ok (.sipush 1000, 3) := by decide +kernel
theorem dX3_weighRow_158 : decode cX3_weighRow 158 = .ok (.if_icmp .eq 81, 3) := by decide +kernel
theorem dX3_weighRow_161 : decode cX3_weighRow 161 = .ok (.iload 16, 2) := by decide +kernel
theorem dX3_weighRow_163 : decode cX3_weighRow 163 = .ok (.iconst 1, 1) := by decide +kernel
theorem dX3_weighRow_164 : decode cX3_weighRow 164 = .ok (.if_icmp .ge 6, 3) := by decide +kernel
theorem dX3_weighRow_167 : decode cX3_weighRow 167 = .ok (.goto 72, 3) := by decide +kernel
theorem dX3_weighRow_170 : decode cX3_weighRow 170 = .ok (.aload_n 0, 1) := by decide +kernel
theorem dX3_weighRow_171 : decode cX3_weighRow 171 = .ok (.getfield 9, 3) := by decide +kernel
theorem dX3_weighRow_174 : decode cX3_weighRow 174 = .ok (.iload 11, 2) := by decide +kernel
theorem dX3_weighRow_176 : decode cX3_weighRow 176 = .ok (.iaload, 1) := by decide +kernel
theorem dX3_weighRow_177 : decode cX3_weighRow 177 = .ok (.bipush 60, 2) := by decide +kernel
theorem dX3_weighRow_179 : decode cX3_weighRow 179 = .ok (.iload 16, 2) := by decide +kernel
theorem dX3_weighRow_181 : decode cX3_weighRow 181 = .ok (.idiv, 1) := by decide +kernel
theorem dX3_weighRow_182 : decode cX3_weighRow 182 = .ok (.imul, 1) := by decide +kernel
theorem dX3_weighRow_183 : decode cX3_weighRow 183 = .ok (.istore 17, 2) := by decide +kernel
theorem dX3_weighRow_185 : decode cX3_weighRow 185 = .ok (.iload 8, 2) := by decide +kernel
theorem dX3_weighRow_187 : decode cX3_weighRow 187 = .ok (.iload 12, 2) := by decide +kernel
theorem dX3_weighRow_189 : decode cX3_weighRow 189 = .ok (.iload 15, 2) := by decide +kernel
theorem dX3_weighRow_191 : decode cX3_weighRow 191 = .ok (.if_icmp .ne 8, 3) := by decide +kernel
theorem dX3_weighRow_194 : decode cX3_weighRow 194 = .ok (.iload 17, 2) := by decide +kernel
theorem dX3_weighRow_196 : decode cX3_weighRow 196 = .ok (.goto 4, 3) := by decide +kernel
theorem dX3_weighRow_199 : decode cX3_weighRow 199 = .ok (.iconst 0, 1) := by decide +kernel
theorem dX3_weighRow_200 : decode cX3_weighRow 200 = .ok (.iadd, 1) := by decide +kernel
theorem dX3_weighRow_201 : decode cX3_weighRow 201 = .ok (.istore 8, 2) := by decide +kernel
theorem dX3_weighRow_203 : decode cX3_weighRow 203 = .ok (.iload 9, 2) := by decide +kernel
theorem dX3_weighRow_205 : decode cX3_weighRow 205 = .ok (.iload 13, 2) := by decide +kernel
theorem dX3_weighRow_207 : decode cX3_weighRow 207 = .ok (.iload 15, 2) := by decide +kernel
theorem dX3_weighRow_209 : decode cX3_weighRow 209 = .ok (.if_icmp .ne 8, 3) := by decide +kernel
theorem dX3_weighRow_212 : decode cX3_weighRow 212 = .ok (.iload 17, 2) := by decide +kernel
theorem dX3_weighRow_214 : decode cX3_weighRow 214 = .ok (.goto 4, 3) := by decide +kernel
theorem dX3_weighRow_217 : decode cX3_weighRow 217 = .ok (.iconst 0, 1) := by decide +kernel
theorem dX3_weighRow_218 : decode cX3_weighRow 218 = .ok (.iadd, 1) := by decide +kernel
theorem dX3_weighRow_219 : decode cX3_weighRow 219 = .ok (.istore 9, 2) := by decide +kernel
theorem dX3_weighRow_221 : decode cX3_weighRow 221 = .ok (.iload 10, 2) := by decide +kernel
theorem dX3_weighRow_223 : decode cX3_weighRow 223 = .ok (.iload 14, 2) := by decide +kernel
theorem dX3_weighRow_225 : decode cX3_weighRow 225 = .ok (.iload 15, 2) := by decide +kernel
theorem dX3_weighRow_227 : decode cX3_weighRow 227 = .ok (.if_icmp .ne 8, 3) := by decide +kernel
theorem dX3_weighRow_230 : decode cX3_weighRow 230 = .ok (.iload 17, 2) := by decide +kernel
theorem dX3_weighRow_232 : decode cX3_weighRow 232 = .ok (.goto 4, 3) := by decide +kernel
theorem dX3_weighRow_235 : decode cX3_weighRow 235 = .ok (.iconst 0, 1) := by decide +kernel
theorem dX3_weighRow_236 : decode cX3_weighRow 236 = .ok (.iadd, 1) := by decide +kernel
theorem dX3_weighRow_237 : decode cX3_weighRow 237 = .ok (.istore 10, 2) := by decide +kernel
theorem dX3_weighRow_239 : decode cX3_weighRow 239 = .ok (.iinc 11 1, 3) := by decide +kernel
theorem dX3_weighRow_242 : decode cX3_weighRow 242 = .ok (.goto (-186), 3) := by decide +kernel
theorem dX3_weighRow_245 : decode cX3_weighRow 245 = .ok (.aload_n 0, 1) := by decide +kernel
theorem dX3_weighRow_246 : decode cX3_weighRow 246 = .ok (.iload_n 1, 1) := by decide +kernel
theorem dX3_weighRow_247 : decode cX3_weighRow 247 = .ok (.iload 8, 2) := by decide +kernel
theorem dX3_weighRow_249 : decode cX3_weighRow 249 = .ok (.iconst 0, 1) := by decide +kernel
theorem dX3_weighRow_250 : decode cX3_weighRow 250 = .ok (.iload_n 3, 1) := by decide +kernel
theorem dX3_weighRow_251 : decode cX3_weighRow 251 = .ok (.iload 4, 2) := by decide +kernel
theorem dX3_weighRow_253 : decode cX3_weighRow 253 = .ok (.invokestatic 69, 3) := by decide +kernel
theorem dX3_weighRow_256 : decode cX3_weighRow 256 = .ok (.invokevirtual 82, 3) := by decide +kernel
theorem dX3_weighRow_259 : decode cX3_weighRow 259 = .ok (.aload_n 0, 1) := by decide +kernel
theorem dX3_weighRow_260 : decode cX3_weighRow 260 = .ok (.sipush 1000, 3) := by decide +kernel
theorem dX3_weighRow_263 : decode cX3_weighRow 263 = .ok (.iload_n 1, 1) := by decide +kernel
theorem dX3_weighRow_264 : decode cX3_weighRow 264 = .ok (.iadd, 1) := by decide +kernel
theorem dX3_weighRow_265 : decode cX3_weighRow 265 = .ok (.iload 9, 2) := by decide +kernel
theorem dX3_weighRow_267 : decode cX3_weighRow 267 = .ok (.iconst 1, 1) := by decide +kernel
theorem dX3_weighRow_268 : decode cX3_weighRow 268 = .ok (.iload_n 2, 1) := by decide +kernel
theorem dX3_weighRow_269 : decode cX3_weighRow 269 = .ok (.iload 4, 2) := by decide +kernel
theorem dX3_weighRow_271 : decode cX3_weighRow 271 = .ok (.invokestatic 69, 3) := by decide +kernel
theorem dX3_weighRow_274 : decode cX3_weighRow 274 = .ok (.invokevirtual 82, 3) := by decide +kernel
theorem dX3_weighRow_277 : decode cX3_weighRow 277 = .ok (.aload_n 0, 1) := by decide +kernel
