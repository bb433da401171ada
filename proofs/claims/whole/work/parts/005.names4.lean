theorem dX4_toldOfPerson_48 : decode cX4_toldOfPerson 48 = .ok (.getfield 169, 3) := by decide +kernel
theorem dX4_toldOfPerson_51 : decode cX4_toldOfPerson 51 = .ok (.iload_n 1, 1) := by decide +kernel
theorem dX4_toldOfPerson_52 : decode cX4_toldOfPerson 52 = .ok (.iaload, 1) := by decide +kernel
theorem dX4_toldOfPerson_53 : decode cX4_toldOfPerson 53 = .ok (.ireturn, 1) := by decide +kernel
theorem dX4_toldOfPerson_54 : decode cX4_toldOfPerson 54 = .ok (.aload_n 0, 1) := by decide +kernel
theorem dX4_toldOfPerson_55 : decode cX4_toldOfPerson 55 = .ok (.getfield 10, 3) := by decide +kernel
theorem dX4_toldOfPerson_58 : decode cX4_toldOfPerson 58 = .ok (.getfield 152, 3) := by decide +kernel
theorem dX4_toldOfPerson_61 : decode cX4_toldOfPerson 61 = .ok (.iload_n 1, 1) := by decide +kernel
theorem dX4_toldOfPerson_62 : decode cX4_toldOfPerson 62 = .ok (.iaload, 1) := by decide +kernel
theorem dX4_toldOfPerson_63 : decode cX4_toldOfPerson 63 = .ok (.ireturn, 1) := by decide +kernel
theorem dX4_toldOfPerson_64 : decode cX4_toldOfPerson 64 = .ok (.aload_n 0, 1) := by decide +kernel
theorem dX4_toldOfPerson_65 : decode cX4_toldOfPerson 65 = .ok (.getfield 10, 3) := by decide +kernel
theorem dX4_toldOfPerson_68 : decode cX4_toldOfPerson 68 = .ok (.getfield 64, 3) := by decide +kernel
theorem dX4_toldOfPerson_71 : decode cX4_toldOfPerson 71 = .ok (.iload_n 1, 1) := by decide +kernel
theorem dX4_toldOfPerson_72 : decode cX4_toldOfPerson 72 = .ok (.invokestatic 108, 3) := by decide +kernel
theorem dX4_toldOfPerson_75 : decode cX4_toldOfPerson 75 = .ok (.ifCond .eq 7, 3) := by decide +kernel
theorem dX4_toldOfPerson_78 : decode cX4_toldOfPerson 78 = .ok (.iconst 1, 1) := by decide +kernel
theorem dX4_toldOfPerson_79 : decode cX4_toldOfPerson 79 = .ok (.goto 4, 3) := by decide +kernel
theorem dX4_toldOfPerson_82 : decode cX4_toldOfPerson 82 = .ok (.iconst 0, 1) := by decide +kernel
theorem dX4_toldOfPerson_83 : decode cX4_toldOfPerson 83 = .ok (.ireturn, 1) := by decide +kernel
theorem dX4_toldOfPerson_84 : decode cX4_toldOfPerson 84 = .ok (.aload_n 0, 1) := by decide +kernel
theorem dX4_toldOfPerson_85 : decode cX4_toldOfPerson 85 = .ok (.getfield 10, 3) := by decide +kernel
theorem dX4_toldOfPerson_88 : decode cX4_toldOfPerson 88 = .ok (.getfield 67, 3) := by decide +kernel
theorem dX4_toldOfPerson_91 : decode cX4_toldOfPerson 91 = .ok (.iload_n 1, 1) := by decide +kernel
theorem dX4_toldOfPerson_92 : decode cX4_toldOfPerson 92 = .ok (.invokestatic 108, 3) := by decide +kernel
theorem dX4_toldOfPerson_95 : decode cX4_toldOfPerson 95 = .ok (.ifCond .eq 7, 3) := by decide +kernel
theorem dX4_toldOfPerson_98 : decode cX4_toldOfPerson 98 = .ok (.iconst 1, 1) := by decide +kernel
theorem dX4_toldOfPerson_99 : decode cX4_toldOfPerson 99 = .ok (.goto 4, 3) := by decide +kernel
theorem dX4_toldOfPerson_102 : decode cX4_toldOfPerson 102 = .ok (.iconst 0, 1) := by decide +kernel
theorem dX4_toldOfPerson_103 : decode cX4_toldOfPerson 103 = .ok (.ireturn, 1) := by decide +kernel
theorem dX4_toldOfPerson_104 : decode cX4_toldOfPerson 104 = .ok (.bipush (-2), 2) := by decide +kernel
theorem dX4_toldOfPerson_106 : decode cX4_toldOfPerson 106 = .ok (.ireturn, 1) := by decide +kernel
theorem dX4_within_0 : decode cX4_within 0 = .ok (.iload_n 0, 1) := by decide +kernel
theorem dX4_within_1 : decode cX4_within 1 = .ok (.iload_n 1, 1) := by decide +kernel
theorem dX4_within_2 : decode cX4_within 2 = .ok (.if_icmp .lt 12, 3) := by decide +kernel
theorem dX4_within_5 : decode cX4_within 5 = .ok (.iload_n 0, 1) := by decide +kernel
theorem dX4_within_6 : decode cX4_within 6 = .ok (.iload_n 2, 1) := by decide +kernel
theorem dX4_within_7 : decode cX4_within 7 = .ok (.if_icmp .gt 7, 3) := by decide +kernel
theorem dX4_within_10 : decode cX4_within 10 = .ok (.iconst 1, 1) := by decide +kernel
theorem dX4_within_11 : decode cX4_within 11 = .ok (.goto 4, 3) := by decide +kernel
theorem dX4_within_14 : decode cX4_within 14 = .ok (.iconst 0, 1) := by decide +kernel
theorem dX4_within_15 : decode cX4_within 15 = .ok (.ireturn, 1) := by decide +kernel
set_option maxRecDepth 20000 in
theorem ggX4_isPlace_X4_within : GoodIn wsX4_isPlace wsX4_within := goodIn_r _ [4] (by decide +kernel) (by decide +kernel)
set_option maxRecDepth 20000 in
theorem gX4_isPlace_X4_within : GoodIn wsX4_isPlace (va_wsS RX4 44 yX4_within wsX4_within) := goodIn_app (goodIn_of _ (by decide +kernel)) ggX4_isPlace_X4_within
theorem dX4_isPlace_0 : decode cX4_isPlace 0 = .ok (.iload_n 0, 1) := by decide +kernel
theorem dX4_isPlace_1 : decode cX4_isPlace 1 = .ok (.iconst 0, 1) := by decide +kernel
theorem dX4_isPlace_2 : decode cX4_isPlace 2 = .ok (.bipush 9, 2) := by decide +kernel
theorem dX4_isPlace_4 : decode cX4_isPlace 4 = .ok (.invokestatic 44, 3) := by decide +kernel
theorem dX4_isPlace_7 : decode cX4_isPlace 7 = .ok (.ireturn, 1) := by decide +kernel
theorem dX4_hasBit_0 : decode cX4_hasBit 0 = .ok (.iload_n 0, 1) := by decide +kernel
theorem dX4_hasBit_1 : decode cX4_hasBit 1 = .ok (.iload_n 1, 1) := by decide +kernel
theorem dX4_hasBit_2 : decode cX4_hasBit 2 = .ok (.ishr, 1) := by decide +kernel
theorem dX4_hasBit_3 : decode cX4_hasBit 3 = .ok (.iconst 1, 1) := by decide +kernel
theorem dX4_hasBit_4 : decode cX4_hasBit 4 = .ok (.iand, 1) := by decide +kernel
theorem dX4_hasBit_5 : decode cX4_hasBit 5 = .ok (.iconst 1, 1) := by decide +kernel
theorem dX4_hasBit_6 : decode cX4_hasBit 6 = .ok (.if_icmp .ne 7, 3) := by decide +kernel
theorem dX4_hasBit_9 : decode cX4_hasBit 9 = .ok (.iconst 1, 1) := by decide +kernel
theorem dX4_hasBit_10 : decode cX4_hasBit 10 = .ok (.goto 4, 3) := by decide +kernel
theorem dX4_hasBit_13 : decode cX4_hasBit 13 = .ok (.iconst 0, 1) := by decide +kernel
theorem dX4_hasBit_14 : decode cX4_hasBit 14 = .ok (.ireturn, 1) := by decide +kernel
theorem dX4_withBit_0 : decode cX4_withBit 0 = .ok (.iload_n 2, 1) := by decide +kernel
theorem dX4_withBit_1 : decode cX4_withBit 1 = .ok (.ifCond .eq 11, 3) := by decide +kernel
theorem dX4_withBit_4 : decode cX4_withBit 4 = .ok (.iload_n 0, 1) := by decide +kernel
theorem dX4_withBit_5 : decode cX4_withBit 5 = .ok (.iconst 1, 1) := by decide +kernel
theorem dX4_withBit_6 : decode cX4_withBit 6 = .ok (.iload_n 1, 1) := by decide +kernel
theorem dX4_withBit_7 : decode cX4_withBit 7 = .ok (.ishl, 1) := by decide +kernel
theorem dX4_withBit_8 : decode cX4_withBit 8 = .ok (.ior, 1) := by decide +kernel
theorem dX4_withBit_9 : decode cX4_withBit 9 = .ok (.goto 10, 3) := by decide +kernel
theorem dX4_withBit_12 : decode cX4_withBit 12 = .ok (.iload_n 0, 1) := by decide +kernel
theorem dX4_withBit_13 : decode cX4_withBit 13 = .ok (.iconst 1, 1) := by decide +kernel
theorem dX4_withBit_14 : decode cX4_withBit 14 = .ok (.iload_n 1, 1) := by decide +kernel
theorem dX4_withBit_15 : decode cX4_withBit 15 = .ok (.ishl, 1) := by decide +kernel
theorem dX4_withBit_16 : decode cX4_withBit 16 = .ok (.iconst (-1), 1) := by decide +kernel
theorem dX4_withBit_17 : decode cX4_withBit 17 = .ok (.ixor, 1) := by decide +kernel
theorem dX4_withBit_18 : decode cX4_withBit 18 = .ok (.iand, 1) := by decide +kernel
theorem dX4_withBit_19 : decode cX4_withBit 19 = .ok (.ireturn, 1) := by decide +kernel
set_option maxRecDepth 20000 in
theorem ggX4_firstPerson_X4_hasBit : GoodIn wsX4_firstPerson wsX4_hasBit := goodIn_r _ [4] (by decide +kernel) (by decide +kernel)
set_option maxRecDepth 20000 in
theorem gX4_firstPerson_X4_hasBit : GoodIn wsX4_firstPerson (va_wsS RX4 108 yX4_hasBit wsX4_hasBit) := goodIn_app (goodIn_of _ (by decide +kernel)) ggX4_firstPerson_X4_hasBit
theorem dX4_firstPerson_0 : decode cX4_firstPerson 0 = .ok (.iconst 0, 1) := by decide +kernel
theorem dX4_firstPerson_1 : decode cX4_firstPerson 1 = .ok (.istore_n 1, 1) := by decide +kernel
theorem dX4_firstPerson_2 : decode cX4_firstPerson 2 = .ok (.iload_n 1, 1) := by decide +kernel
theorem dX4_firstPerson_3 : decode cX4_firstPerson 3 = .ok (.bipush 6, 2) := by decide +kernel
theorem dX4_firstPerson_5 : decode cX4_firstPerson 5 = .ok (.if_icmp .ge 19, 3) := by decide +kernel
theorem dX4_firstPerson_8 : decode cX4_firstPerson 8 = .ok (.iload_n 0, 1) := by decide +kernel
theorem dX4_firstPerson_9 : decode cX4_firstPerson 9 = .ok (.iload_n 1, 1) := by decide +kernel
theorem dX4_firstPerson_10 : decode cX4_firstPerson 10 = .ok (.invokestatic 108, 3) := by decide +kernel
theorem dX4_firstPerson_13 : decode cX4_firstPerson 13 = .ok (.ifCond .eq 5, 3) := by decide +kernel
theorem dX4_firstPerson_16 : decode cX4_firstPerson 16 = .ok (.iload_n 1, 1) := by decide +kernel
theorem dX4_firstPerson_17 : decode cX4_firstPerson 17 = .ok (.ireturn, 1) := by decide +kernel
theorem dX4_firstPerson_18 : decode cX4_firstPerson 18 = .ok (.iinc 1 1, 3) := by decide +kernel
theorem dX4_firstPerson_21 : decode cX4_firstPerson 21 = .ok (.goto (-19), 3) := by decide +kernel
theorem dX4_firstPerson_24 : decode cX4_firstPerson 24 = .ok (.bipush (-6), 2) := by decide +kernel
theorem dX4_firstPerson_26 : decode cX4_firstPerson 26 = .ok (.ireturn, 1) := by decide +kernel
set_option maxRecDepth 20000 in
theorem ggX4_fraction_X4_commonDivisor : GoodIn wsX4_fraction wsX4_commonDivisor := goodIn_r _ [4] (by decide +kernel) (by decide +kernel)
set_option maxRecDepth 20000 in
theorem gX4_fraction_X4_commonDivisor : GoodIn wsX4_fraction (va_wsS RX4 201 yX4_commonDivisor wsX4_commonDivisor) := goodIn_app (goodIn_of _ (by decide +kernel)) ggX4_fraction_X4_commonDivisor
theorem dX4_fraction_0 : decode cX4_fraction 0 = .ok (.iload_n 0, 1) := by decide +kernel
theorem dX4_fraction_1 : decode cX4_fraction 1 = .ok (.iload_n 1, 1) := by decide +kernel
theorem dX4_fraction_2 : decode cX4_fraction 2 = .ok (.invokestatic 201, 3) := by decide +kernel
theorem dX4_fraction_5 : decode cX4_fraction 5 = .ok (.istore_n 3, 1) := by decide +kernel
theorem dX4_fraction_6 : decode cX4_fraction 6 = .ok (.iload_n 3, 1) := by decide +kernel
theorem dX4_fraction_7 : decode cX4_fraction 7 = .ok (.iconst 1, 1) := by decide +kernel
theorem dX4_fraction_8 : decode cX4_fraction 8 = .ok (.if_icmp .ge 5, 3) := by decide +kernel
theorem dX4_fraction_11 : decode cX4_fraction 11 = .ok (.lconst 0, 1) := by decide +kernel
theorem dX4_fraction_12 : decode cX4_fraction 12 = .ok (.lreturn, 1) := by decide +kernel
theorem dX4_fraction_13 : decode cX4_fraction 13 = .ok (.iload_n 2, 1) := by decide +kernel
theorem dX4_fraction_14 : decode cX4_fraction 14 = .ok (.ifCond .ne 7, 3) := by decide +kernel
theorem dX4_fraction_17 : decode cX4_fraction 17 = .ok (.iload_n 0, 1) := by decide +kernel
theorem dX4_fraction_18 : decode cX4_fraction 18 = .ok (.goto 4, 3) := by decide +kernel
theorem dX4_fraction_21 : decode cX4_fraction 21 = .ok (.iload_n 1, 1) := by decide +kernel
theorem dX4_fraction_22 : decode cX4_fraction 22 = .ok (.iload_n 3, 1) := by decide +kernel
theorem dX4_fraction_23 : decode cX4_fraction 23 = .ok (.idiv, 1) := by decide +kernel
theorem dX4_fraction_24 : decode cX4_fraction 24 = .ok (.i2l, 1) := by decide +kernel
theorem dX4_fraction_25 : decode cX4_fraction 25 = .ok (.lreturn, 1) := by decide +kernel
theorem dX4_commonDivisor_0 : decode cX4_commonDivisor 0 = .ok (.iload_n 0, 1) := by decide +kernel
theorem dX4_commonDivisor_1 : decode cX4_commonDivisor 1 = .ok (.istore_n 2, 1) := by decide +kernel
theorem dX4_commonDivisor_2 : decode cX4_commonDivisor 2 = .ok (.iload_n 1, 1) := by decide +kernel
theorem dX4_commonDivisor_3 : decode cX4_commonDivisor 3 = .ok (.istore_n 3, 1) := by decide +kernel
theorem dX4_commonDivisor_4 : decode cX4_commonDivisor 4 = .ok (.iconst 0, 1) := by decide +kernel
theorem dX4_commonDivisor_5 : decode cX4_commonDivisor 5 = .ok (.istore 4, 2) := by decide +kernel
theorem dX4_commonDivisor_7 : decode cX4_commonDivisor 7 = .ok (.iload 4, 2) := by decide +kernel
theorem dX4_commonDivisor_9 : decode cX4_commonDivisor 9 = .ok (.sipush 1000, 3) := by decide +kernel
theorem dX4_commonDivisor_12 : decode cX4_commonDivisor 12 = .ok (.if_icmp .ge 23, 3) := by decide +kernel
theorem dX4_commonDivisor_15 : decode cX4_commonDivisor 15 = .ok (.iload_n 3, 1) := by decide +kernel
theorem dX4_commonDivisor_16 : decode cX4_commonDivisor 16 = .ok (.ifCond .eq 19, 3) := by decide +kernel
theorem dX4_commonDivisor_19 : decode cX4_commonDivisor 19 = .ok (.iload_n 2, 1) := by decide +kernel
theorem dX4_commonDivisor_20 : decode cX4_commonDivisor 20 = .ok (.iload_n 3, 1) := by decide +kernel
theorem dX4_commonDivisor_21 : decode cX4_commonDivisor 21 = .ok (.irem, 1) := by decide +kernel
theorem dX4_commonDivisor_22 : decode cX4_commonDivisor 22 = .ok (.istore 5, 2) := by decide +kernel
theorem dX4_commonDivisor_24 : decode cX4_commonDivisor 24 = .ok (.iload_n 3, 1) := by decide +kernel
theorem dX4_commonDivisor_25 : decode cX4_commonDivisor 25 = .ok (.istore_n 2, 1) := by decide +kernel
theorem dX4_commonDivisor_26 : decode cX4_commonDivisor 26 = .ok (.iload 5, 2) := by decide +kernel
theorem dX4_commonDivisor_28 : decode cX4_commonDivisor 28 = .ok (.istore_n 3, 1) := by decide +kernel
theorem dX4_commonDivisor_29 : decode cX4_commonDivisor 29 = .ok (.iinc 4 1, 3) := by decide +kernel
theorem dX4_commonDivisor_32 : decode cX4_commonDivisor 32 = .ok (.goto (-25), 3) := by decide +kernel
theorem dX4_commonDivisor_35 : decode cX4_commonDivisor 35 = .ok (.iload_n 2, 1) := by decide +kernel
theorem dX4_commonDivisor_36 : decode cX4_commonDivisor 36 = .ok (.ireturn, 1) := by decide +kernel
theorem dX5_init_0 : decode cX5_init 0 = .ok (.aload_n 0, 1) := by decide +kernel
theorem dX5_init_1 : decode cX5_init 1 = .ok (.invokespecial 1, 3) := by decide +kernel
theorem dX5_init_4 : decode cX5_init 4 = .ok (.aload_n 0, 1) := by decide +kernel
theorem dX5_init_5 : decode cX5_init 5 = .ok (.bipush 6, 2) := by decide +kernel
theorem dX5_init_7 : decode cX5_init 7 = .ok (.newarray .int, 2) := by decide +kernel
theorem dX5_init_9 : decode cX5_init 9 = .ok (.putfield 7, 3) := by decide +kernel
theorem dX5_init_12 : decode cX5_init 12 = .ok (.aload_n 0, 1) := by decide +kernel
theorem dX5_init_13 : decode cX5_init 13 = .ok (.bipush 6, 2) := by decide +kernel
theorem dX5_init_15 : decode cX5_init 15 = .ok (.newarray .int, 2) := by decide +kernel
theorem dX5_init_17 : decode cX5_init 17 = .ok (.putfield 13, 3) := by decide +kernel
theorem dX5_init_20 : decode cX5_init 20 = .ok (.aload_n 0, 1) := by decide +kernel
theorem dX5_init_21 : decode cX5_init 21 = .ok (.bipush 6, 2) := by decide +kernel
theorem dX5_init_23 : decode cX5_init 23 = .ok (.newarray .int, 2) := by decide +kernel
theorem dX5_init_25 : decode cX5_init 25 = .ok (.putfield 16, 3) := by decide +kernel
theorem dX5_init_28 : decode cX5_init 28 = .ok (.aload_n 0, 1) := by decide +kernel
theorem dX5_init_29 : decode cX5_init 29 = .ok (.bipush 10, 2) := by decide +kernel
theorem dX5_init_31 : decode cX5_init 31 = .ok (.newarray .int, 2) := by decide +kernel
theorem dX5_init_33 : decode cX5_init 33 = .ok (.putfield 19, 3) := by decide +kernel
theorem dX5_init_36 : decode cX5_init 36 = .ok (.aload_n 0, 1) := by decide +kernel
theorem dX5_init_37 : decode cX5_init 37 = .ok (.bipush 6, 2) := by decide +kernel
theorem dX5_init_39 : decode cX5_init 39 = .ok (.newarray .int, 2) := by decide +kernel
theorem dX5_init_41 : decode cX5_init 41 = .ok (.putfield 22, 3) := by decide +kernel
theorem dX5_init_44 : decode cX5_init 44 = .ok (.aload_n 0, 1) := by decide +kernel
theorem dX5_init_45 : decode cX5_init 45 = .ok (.bipush 6, 2) := by decide +kernel
theorem dX5_init_47 : decode cX5_init 47 = .ok (.newarray .int, 2) := by decide +kernel
theorem dX5_init_49 : decode cX5_init 49 = .ok (.putfield 25, 3) := by decide +kernel
theorem dX5_init_52 : decode cX5_init 52 = .ok (.aload_n 0, 1) := by decide +kernel
theorem dX5_init_53 : decode cX5_init 53 = .ok (.bipush 40, 2) := by decide +kernel
theorem dX5_init_55 : decode cX5_init 55 = .ok (.newarray .int, 2) := by decide +kernel
theorem dX5_init_57 : decode cX5_init 57 = .ok (.putfield 28, 3) := by decide +kernel
theorem dX5_init_60 : decode cX5_init 60 = .ok (.aload_n 0, 1) := by decide +kernel
theorem dX5_init_61 : decode cX5_init 61 = .ok (.bipush 9, 2) := by decide +kernel
theorem dX5_init_63 : decode cX5_init 63 = .ok (.newarray .int, 2) := by decide +kernel
theorem dX5_init_65 : decode cX5_init 65 = .ok (.putfield 31, 3) := by decide +kernel
theorem dX5_init_68 : decode cX5_init 68 = .ok (.aload_n 0, 1) := by decide +kernel
theorem dX5_init_69 : decode cX5_init 69 = .ok (.bipush 6, 2) := by decide +kernel
theorem dX5_init_71 : decode cX5_init 71 = .ok (.newarray .int, 2) := by decide +kernel
theorem dX5_init_73 : decode cX5_init 73 = .ok (.putfield 34, 3) := by decide +kernel
theorem dX5_init_76 : decode cX5_init 76 = .ok (.aload_n 0, 1) := by decide +kernel
theorem dX5_init_77 : decode cX5_init 77 = .ok (.sipush 160, 3) := by decide +kernel
theorem dX5_init_80 : decode cX5_init 80 = .ok (.newarray .int, 2) := by decide +kernel
theorem dX5_init_82 : decode cX5_init 82 = .ok (.putfield 37, 3) := by decide +kernel
theorem dX5_init_85 : decode cX5_init 85 = .ok (.aload_n 0, 1) := by decide +kernel
theorem dX5_init_86 : decode cX5_init 86 = .ok (.iconst 2, 1) := by decide +kernel
theorem dX5_init_87 : decode cX5_init 87 = .ok (.newarray .boolean, 2) := by decide +kernel
theorem dX5_init_89 : decode cX5_init 89 = .ok (.putfield 40, 3) := by decide +kernel
theorem dX5_init_92 : decode cX5_init 92 = .ok (.aload_n 0, 1) := by decide +kernel
theorem dX5_init_93 : decode cX5_init 93 = .ok (.iconst 2, 1) := by decide +kernel
theorem dX5_init_94 : decode cX5_init 94 = .ok (.putfield 44, 3) := by decide +kernel
theorem dX5_init_97 : decode cX5_init 97 = .ok (.aload_n 0, 1) := by decide +kernel
theorem dX5_init_98 : decode cX5_init 98 = .ok (.iconst 5, 1) := by decide +kernel
theorem dX5_init_99 : decode cX5_init 99 = .ok (.putfield 48, 3) := by decide +kernel
theorem dX5_init_102 : decode cX5_init 102 = .ok (.iconst 0, 1) := by decide +kernel
theorem dX5_init_103 : decode cX5_init 103 = .ok (.istore_n 1, 1) := by decide +kernel
theorem dX5_init_104 : decode cX5_init 104 = .ok (.iload_n 1, 1) := by decide +kernel
theorem dX5_init_105 : decode cX5_init 105 = .ok (.bipush 10, 2) := by decide +kernel
theorem dX5_init_107 : decode cX5_init 107 = .ok (.if_icmp .ge 16, 3) := by decide +kernel
theorem dX5_init_110 : decode cX5_init 110 = .ok (.aload_n 0, 1) := by decide +kernel
theorem dX5_init_111 : decode cX5_init 111 = .ok (.getfield 19, 3) := by decide +kernel
theorem dX5_init_114 : decode cX5_init 114 = .ok (.iload_n 1, 1) := by decide +kernel
theorem dX5_init_115 : decode cX5_init 115 = .ok (.iconst 1, 1) := by decide +kernel
theorem dX5_init_116 : decode cX5_init 116 = .ok (.iastore, 1) := by decide +kernel
theorem dX5_init_117 : decode cX5_init 117 = .ok (.iinc 1 1, 3) := by decide +kernel
theorem dX5_init_120 : decode cX5_init 120 = .ok (.goto (-16), 3) := by decide +kernel
theorem dX5_init_123 : decode cX5_init 123 = .ok (.return_, 1) := by decide +kernel
theorem dX5_in_0 : decode cX5_in 0 = .ok (.lload_n 0, 1) := by decide +kernel
theorem dX5_in_1 : decode cX5_in 1 = .ok (.lload_n 2, 1) := by decide +kernel
theorem dX5_in_2 : decode cX5_in 2 = .ok (.lcmp, 1) := by decide +kernel
theorem dX5_in_3 : decode cX5_in 3 = .ok (.ifCond .lt 14, 3) := by decide +kernel
theorem dX5_in_6 : decode cX5_in 6 = .ok (.lload_n 0, 1) := by decide +kernel
theorem dX5_in_7 : decode cX5_in 7 = .ok (.lload 4, 2) := by decide +kernel
theorem dX5_in_9 : decode cX5_in 9 = .ok (.lcmp, 1) := by decide +kernel
theorem dX5_in_10 : decode cX5_in 10 = .ok (.ifCond .gt 7, 3) := by decide +kernel
theorem dX5_in_13 : decode cX5_in 13 = .ok (.iconst 1, 1) := by decide +kernel
theorem dX5_in_14 : decode cX5_in 14 = .ok (.goto 4, 3) := by decide +kernel
theorem dX5_in_17 : decode cX5_in 17 = .ok (.iconst 0, 1) := by decide +kernel
theorem dX5_in_18 : decode cX5_in 18 = .ok (.ireturn, 1) := by decide +kernel
theorem dX5_ones_0 : decode cX5_ones 0 = .ok (.iconst 0, 1) := by decide +kernel
theorem dX5_ones_1 : decode cX5_ones 1 = .ok (.istore_n 1, 1) := by decide +kernel
theorem dX5_ones_2 : decode cX5_ones 2 = .ok (.iload_n 0, 1) := by decide +kernel
theorem dX5_ones_3 : decode cX5_ones 3 = .ok (.istore_n 2, 1) := by decide +kernel
theorem dX5_ones_4 : decode cX5_ones 4 = .ok (.iload_n 2, 1) := by decide +kernel
theorem dX5_ones_5 : decode cX5_ones 5 = .ok (.ifCond .eq 15, 3) := by decide +kernel
theorem dX5_ones_8 : decode cX5_ones 8 = .ok (.iinc 1 1, 3) := by decide +kernel
theorem dX5_ones_11 : decode cX5_ones 11 = .ok (.iload_n 2, 1) := by decide +kernel
theorem dX5_ones_12 : decode cX5_ones 12 = .ok (.iload_n 2, 1) := by decide +kernel
theorem dX5_ones_13 : decode cX5_ones 13 = .ok (.iconst 1, 1) := by decide +kernel
theorem dX5_ones_14 : decode cX5_ones 14 = .ok (.isub, 1) := by decide +kernel
theorem dX5_ones_15 : decode cX5_ones 15 = .ok (.iand, 1) := by decide +kernel
theorem dX5_ones_16 : decode cX5_ones 16 = .ok (.istore_n 2, 1) := by decide +kernel
theorem dX5_ones_17 : decode cX5_ones 17 = .ok (.goto (-13), 3) := by decide +kernel
theorem dX5_ones_20 : decode cX5_ones 20 = .ok (.iload_n 1, 1) := by decide +kernel
theorem dX5_ones_21 : decode cX5_ones 21 = .ok (.ireturn, 1) := by decide +kernel
set_option maxRecDepth 20000 in
theorem ggX5_isPerson_X5_in : GoodIn wsX5_isPerson wsX5_in := goodIn_r _ [5] (by decide +kernel) (by decide +kernel)
set_option maxRecDepth 20000 in
theorem gX5_isPerson_X5_in : GoodIn wsX5_isPerson (va_wsS RX5 53 yX5_in wsX5_in) := goodIn_app (goodIn_of _ (by decide +kernel)) ggX5_isPerson_X5_in
theorem dX5_isPerson_0 : decode cX5_isPerson 0 = .ok (.iload_n 0, 1) := by decide +kernel
theorem dX5_isPerson_1 : decode cX5_isPerson 1 = .ok (.i2l, 1) := by decide +kernel
theorem dX5_isPerson_2 : decode cX5_isPerson 2 = .ok (.lconst 0, 1) := by decide +kernel
theorem dX5_isPerson_3 : decode cX5_isPerson 3 = .ok (.ldc2_w 51, 3) := by decide +kernel
theorem dX5_isPerson_6 : decode cX5_isPerson 6 = .ok (.invokestatic 53, 3) := by decide +kernel
theorem dX5_isPerson_9 : decode cX5_isPerson 9 = .ok (.ireturn, 1) := by decide +kernel
set_option maxRecDepth 20000 in
theorem ggX5_isPlace_X5_in : GoodIn wsX5_isPlace wsX5_in := goodIn_r _ [5] (by decide +kernel) (by decide +kernel)
set_option maxRecDepth 20000 in
theorem gX5_isPlace_X5_in : GoodIn wsX5_isPlace (va_wsS RX5 53 yX5_in wsX5_in) := goodIn_app (goodIn_of _ (by decide +kernel)) ggX5_isPlace_X5_in
theorem dX5_isPlace_0 : decode cX5_isPlace 0 = .ok (.iload_n 0, 1) := by decide +kernel
theorem dX5_isPlace_1 : decode cX5_isPlace 1 = .ok (.i2l, 1) := by decide +kernel
theorem dX5_isPlace_2 : decode cX5_isPlace 2 = .ok (.lconst 0, 1) := by decide +kernel
theorem dX5_isPlace_3 : decode cX5_isPlace 3 = .ok (.ldc2_w 57, 3) := by decide +kernel
theorem dX5_isPlace_6 : decode cX5_isPlace 6 = .ok (.invokestatic 53, 3) := by decide +kernel
theorem dX5_isPlace_9 : decode cX5_isPlace 9 = .ok (.ireturn, 1) := by decide +kernel
set_option maxRecDepth 20000 in
theorem ggX5_isThere_X5_isPerson : GoodIn wsX5_isThere wsX5_isPerson := goodIn_r _ [5, 6, 7, 8, 4, 9] (by decide +kernel) (by decide +kernel)
set_option maxRecDepth 20000 in
theorem gX5_isThere_X5_isPerson : GoodIn wsX5_isThere (va_wsS RX5 59 yX5_isPerson wsX5_isPerson) := goodIn_app (goodIn_of _ (by decide +kernel)) ggX5_isThere_X5_isPerson
theorem dX5_isThere_0 : decode cX5_isThere 0 = .ok (.iload_n 1, 1) := by decide +kernel
theorem dX5_isThere_1 : decode cX5_isThere 1 = .ok (.invokestatic 59, 3) := by decide +kernel
theorem dX5_isThere_4 : decode cX5_isThere 4 = .ok (.ifCond .eq 19, 3) := by decide +kernel
theorem dX5_isThere_7 : decode cX5_isThere 7 = .ok (.aload_n 0, 1) := by decide +kernel
theorem dX5_isThere_8 : decode cX5_isThere 8 = .ok (.getfield 63, 3) := by decide +kernel
theorem dX5_isThere_11 : decode cX5_isThere 11 = .ok (.iload_n 1, 1) := by decide +kernel
theorem dX5_isThere_12 : decode cX5_isThere 12 = .ok (.ishr, 1) := by decide +kernel
theorem dX5_isThere_13 : decode cX5_isThere 13 = .ok (.iconst 1, 1) := by decide +kernel
theorem dX5_isThere_14 : decode cX5_isThere 14 = .ok (.iand, 1) := by decide +kernel
theorem dX5_isThere_15 : decode cX5_isThere 15 = .ok (.iconst 1, 1) := by decide +kernel
theorem dX5_isThere_16 : decode cX5_isThere 16 = .ok (.if_icmp .ne 7, 3) := by decide +kernel
theorem dX5_isThere_19 : decode cX5_isThere 19 = .ok (.iconst 1, 1) := by decide +kernel
theorem dX5_isThere_20 : decode cX5_isThere 20 = .ok (.goto 4, 3) := by decide +kernel
theorem dX5_isThere_23 : decode cX5_isThere 23 = .ok (.iconst 0, 1) := by decide +kernel
theorem dX5_isThere_24 : decode cX5_isThere 24 = .ok (.ireturn, 1) := by decide +kernel
set_option maxRecDepth 20000 in
theorem ggX5_stand_X5_isPerson : GoodIn wsX5_stand wsX5_isPerson := goodIn_r _ [10, 11, 12, 13, 9, 14] (by decide +kernel) (by decide +kernel)
set_option maxRecDepth 20000 in
theorem gX5_stand_X5_isPerson : GoodIn wsX5_stand (va_wsS RX5 59 yX5_isPerson wsX5_isPerson) := goodIn_app (goodIn_of _ (by decide +kernel)) ggX5_stand_X5_isPerson
set_option maxRecDepth 20000 in
theorem ggX5_stand_X5_isPlace : GoodIn wsX5_stand wsX5_isPlace := goodIn_r _ [17, 1, 12, 13, 9, 14] (by decide +kernel) (by decide +kernel)
set_option maxRecDepth 20000 in
theorem gX5_stand_X5_isPlace : GoodIn wsX5_stand (va_wsS RX5 66 yX5_isPlace wsX5_isPlace) := goodIn_app (goodIn_of _ (by decide +kernel)) ggX5_stand_X5_isPlace
set_option maxRecDepth 20000 in
theorem ggX5_stand_X5_in : GoodIn wsX5_stand wsX5_in := goodIn_r _ [14] (by decide +kernel) (by decide +kernel)
set_option maxRecDepth 20000 in
theorem gX5_stand_X5_in : GoodIn wsX5_stand (va_wsS RX5 53 yX5_in wsX5_in) := goodIn_app (goodIn_of _ (by decide +kernel)) ggX5_stand_X5_in
set_option maxRecDepth 20000 in
theorem ggX5_stand_X5_ones : GoodIn wsX5_stand wsX5_ones := goodIn_r _ [20] (by decide +kernel) (by decide +kernel)
set_option maxRecDepth 20000 in
theorem gX5_stand_X5_ones : GoodIn wsX5_stand (va_wsS RX5 72 yX5_ones wsX5_ones) := goodIn_app (goodIn_of _ (by decide +kernel)) ggX5_stand_X5_ones
theorem dX5_stand_0 : decode cX5_stand 0 = .ok (.iload_n 1, 1) := by decide +kernel
theorem dX5_stand_1 : decode cX5_stand 1 = .ok (.invokestatic 59, 3) := by decide +kernel
theorem dX5_stand_4 : decode cX5_stand 4 = .ok (.ifCond .eq 10, 3) := by decide +kernel
theorem dX5_stand_7 : decode cX5_stand 7 = .ok (.iload_n 2, 1) := by decide +kernel
theorem dX5_stand_8 : decode cX5_stand 8 = .ok (.invokestatic 66, 3) := by decide +kernel
theorem dX5_stand_11 : decode cX5_stand 11 = .ok (.ifCond .ne 5, 3) := by decide +kernel
theorem dX5_stand_14 : decode cX5_stand 14 = .ok (.iconst (-1), 1) := by decide +kernel
theorem dX5_stand_15 : decode cX5_stand 15 = .ok (.ireturn, 1) := by decide +kernel
theorem dX5_stand_16 : decode cX5_stand 16 = .ok (.iload_n 3, 1) := by decide +kernel
theorem dX5_stand_17 : decode cX5_stand 17 = .ok (.i2l, 1) := by decide +kernel
theorem dX5_stand_18 : decode cX5_stand 18 = .ok (.lconst 0, 1) := by decide +kernel
theorem dX5_stand_19 : decode cX5_stand 19 = .ok (.ldc2_w 57, 3) := by decide +kernel
theorem dX5_stand_22 : decode cX5_stand 22 = .ok (.invokestatic 53, 3) := by decide +kernel
theorem dX5_stand_25 : decode cX5_stand 25 = .ok (.ifCond .eq 14, 3) := by decide +kernel
theorem dX5_stand_28 : decode cX5_stand 28 = .ok (.iload 4, 2) := by decide +kernel
theorem dX5_stand_30 : decode cX5_stand 30 = .ok (.i2l, 1) := by decide +kernel
theorem dX5_stand_31 : decode cX5_stand 31 = .ok (.lconst 0, 1) := by decide +kernel
theorem dX5_stand_32 : decode cX5_stand 32 = .ok (.lconst 1, 1) := by decide +kernel
theorem dX5_stand_33 : decode cX5_stand 33 = .ok (.invokestatic 53, 3) := by decide +kernel
theorem dX5_stand_36 : decode cX5_stand 36 = .ok (.ifCond .ne 6, 3) := by decide +kernel
theorem dX5_stand_39 : decode cX5_stand 39 = .ok (.bipush (-2), 2) := by decide +kernel
theorem dX5_stand_41 : decode cX5_stand 41 = .ok (.ireturn, 1) := by decide +kernel
theorem dX5_stand_42 : decode cX5_stand 42 = .ok (.aload_n 0, 1) := by decide +kernel
theorem dX5_stand_43 : decode cX5_stand 43 = .ok (.getfield 7, 3) := by decide +kernel
theorem dX5_stand_46 : decode cX5_stand 46 = .ok (.iload_n 1, 1) := by decide +kernel
theorem dX5_stand_47 : decode cX5_stand 47 = .ok (.iload_n 2, 1) := by decide +kernel
theorem dX5_stand_48 : decode cX5_stand 48 = .ok (.iastore, 1) := by decide +kernel
theorem dX5_stand_49 : decode cX5_stand 49 = .ok (.aload_n 0, 1) := by decide +kernel
theorem dX5_stand_50 : decode cX5_stand 50 = .ok (.getfield 13, 3) := by decide +kernel
theorem dX5_stand_53 : decode cX5_stand 53 = .ok (.iload_n 1, 1) := by decide +kernel
theorem dX5_stand_54 : decode cX5_stand 54 = .ok (.iload_n 3, 1) := by decide +kernel
theorem dX5_stand_55 : decode cX5_stand 55 = .ok (.iastore, 1) := by decide +kernel
theorem dX5_stand_56 : decode cX5_stand 56 = .ok (.aload_n 0, 1) := by decide +kernel
theorem dX5_stand_57 : decode cX5_stand 57 = .ok (.getfield 16, 3) := by decide +kernel
theorem dX5_stand_60 : decode cX5_stand 60 = .ok (.iload_n 1, 1) := by decide +kernel
theorem dX5_stand_61 : decode cX5_stand 61 = .ok (.iload 4, 2) := by decide +kernel
theorem dX5_stand_63 : decode cX5_stand 63 = .ok (.iastore, 1) := by decide +kernel
theorem dX5_stand_64 : decode cX5_stand 64 = .ok (.aload_n 0, 1) := by decide +kernel
theorem dX5_stand_65 : decode cX5_stand 65 = .ok (.iload 5, 2) := by decide +kernel
theorem dX5_stand_67 : decode cX5_stand 67 = .ok (.ifCond .eq 14, 3) := by decide +kernel
theorem dX5_stand_70 : decode cX5_stand 70 = .ok (.aload_n 0, 1) := by decide +kernel
theorem dX5_stand_71 : decode cX5_stand 71 = .ok (.getfield 69, 3) := by decide +kernel
theorem dX5_stand_74 : decode cX5_stand 74 = .ok (.iconst 1, 1) := by decide +kernel
theorem dX5_stand_75 : decode cX5_stand 75 = .ok (.iload_n 1, 1) := by decide +kernel
theorem dX5_stand_76 : decode cX5_stand 76 = .ok (.ishl, 1) := by decide +kernel
theorem dX5_stand_77 : decode cX5_stand 77 = .ok (.ior, 1) := by decide +kernel
theorem dX5_stand_78 : decode cX5_stand 78 = .ok (.goto 13, 3) := by decide +kernel
theorem dX5_stand_81 : decode cX5_stand 81 = .ok (.aload_n 0, 1) := by decide +kernel
theorem dX5_stand_82 : decode cX5_stand 82 = .ok (.getfield 69, 3) := by decide +kernel
theorem dX5_stand_85 : decode cX5_stand 85 = .ok (.iconst 1, 1) := by decide +kernel
theorem dX5_stand_86 : decode cX5_stand 86 = .ok (.iload_n 1, 1) := by decide +kernel
theorem dX5_stand_87 : decode cX5_stand 87 = .ok (.ishl, 1) := by decide +kernel
theorem dX5_stand_88 : decode cX5_stand 88 = .ok (.iconst (-1), 1) := by decide +kernel
theorem dX5_stand_89 : decode cX5_stand 89 = .ok (.ixor, 1) := by decide +kernel
theorem dX5_stand_90 : decode cX5_stand 90 = .ok (.iand, 1) := by decide +kernel
theorem dX5_stand_91 : decode cX5_stand 91 = .ok (.putfield 69, 3) := by decide +kernel
theorem dX5_stand_94 : decode cX5_stand 94 = .ok (.aload_n 0, 1) := by decide +kernel
theorem dX5_stand_95 : decode cX5_stand 95 = .ok (.dup, 1) := by decide +kernel
theorem dX5_stand_96 : decode cX5_stand 96 = .ok (.getfield 63, 3) := by decide +kernel
theorem dX5_stand_99 : decode cX5_stand 99 = .ok (.iconst 1, 1) := by decide +kernel
theorem dX5_stand_100 : decode cX5_stand 100 = .ok (.iload_n 1, 1) := by decide +kernel
theorem dX5_stand_101 : decode cX5_stand 101 = .ok (.ishl, 1) := by decide +kernel
theorem dX5_stand_102 : decode cX5_stand 102 = .ok (.ior, 1) := by decide +kernel
theorem dX5_stand_103 : decode cX5_stand 103 = .ok (.putfield 63, 3) := by decide +kernel
theorem dX5_stand_106 : decode cX5_stand 106 = .ok (.aload_n 0, 1) := by decide +kernel
theorem dX5_stand_107 : decode cX5_stand 107 = .ok (.getfield 63, 3) := by decide +kernel
theorem dX5_stand_110 : decode cX5_stand 110 = .ok (.invokestatic 72, 3) := by decide +kernel
theorem dX5_stand_113 : decode cX5_stand 113 = .ok (.ireturn, 1) := by decide +kernel
set_option maxRecDepth 20000 in
theorem ggX5_leave_X5_isThere : GoodIn wsX5_leave wsX5_isThere := goodIn_r _ [6, 1, 7, 8, 5, 9, 10, 11, 12, 13, 17, 18, 19, 20, 21, 22, 23, 24, 25, 26, 27, 28, 29, 30, 31, 32, 33, 34, 35, 36, 37, 38, 39, 40] (by decide +kernel) (by decide +kernel)
set_option maxRecDepth 20000 in
theorem gX5_leave_X5_isThere : GoodIn wsX5_leave (wsV RX5 76 RX5 yX5_isThere wsX5_isThere) := goodIn_app (goodIn_of _ (by decide +kernel)) ggX5_leave_X5_isThere
set_option maxRecDepth 20000 in
theorem ggX5_leave_X5_ones : GoodIn wsX5_leave wsX5_ones := goodIn_r _ [16] (by decide +kernel) (by decide +kernel)
set_option maxRecDepth 20000 in
theorem gX5_leave_X5_ones : GoodIn wsX5_leave (va_wsS RX5 72 yX5_ones wsX5_ones) := goodIn_app (goodIn_of _ (by decide +kernel)) ggX5_leave_X5_ones
theorem dX5_leave_0 : decode cX5_leave 0 = .ok (.aload_n 0, 1) := by decide +kernel
theorem dX5_leave_1 : decode cX5_leave 1 = .ok (.iload_n 1, 1) := by decide +kernel
theorem dX5_leave_2 : decode cX5_leave 2 = .ok (.invokevirtual 76, 3) := by decide +kernel
theorem dX5_leave_5 : decode cX5_leave 5 = .ok (.ifCond .ne 5, 3) := by decide +kernel
theorem dX5_leave_8 : decode cX5_leave 8 = .ok (.iconst (-1), 1) := by decide +kernel
theorem dX5_leave_9 : decode cX5_leave 9 = .ok (.ireturn, 1) := by decide +kernel
theorem dX5_leave_10 : decode cX5_leave 10 = .ok (.aload_n 0, 1) := by decide +kernel
theorem dX5_leave_11 : decode cX5_leave 11 = .ok (.dup, 1) := by decide +kernel
theorem dX5_leave_12 : decode cX5_leave 12 = .ok (.getfield 63, 3) := by decide +kernel
theorem dX5_leave_15 : decode cX5_leave 15 = .ok (.iconst 1, 1) := by decide +kernel
theorem dX5_leave_16 : decode cX5_leave 16 = .ok (.iload_n 1, 1) := by decide +kernel
theorem dX5_leave_17 : decode cX5_leave 17 = .ok (.ishl, 1) := by decide +kernel
theorem dX5_leave_18 : decode cX5_leave 18 = .ok (.iconst (-1), 1) := by decide +kernel
theorem dX5_leave_19 : decode cX5_leave 19 = .ok (.ixor, 1) := by decide +kernel
theorem dX5_leave_20 : decode cX5_leave 20 = .ok (.iand, 1) := by decide +kernel
theorem dX5_leave_21 : decode cX5_leave 21 = .ok (.putfield 63, 3) := by decide +kernel
theorem dX5_leave_24 : decode cX5_leave 24 = .ok (.aload_n 0, 1) := by decide +kernel
theorem dX5_leave_25 : decode cX5_leave 25 = .ok (.getfield 63, 3) := by decide +kernel
theorem dX5_leave_28 : decode cX5_leave 28 = .ok (.invokestatic 72, 3) := by decide +kernel
theorem dX5_leave_31 : decode cX5_leave 31 = .ok (.ireturn, 1) := by decide +kernel
set_option maxRecDepth 20000 in
theorem ggX5_table_X5_isPlace : GoodIn wsX5_table wsX5_isPlace := goodIn_r _ [5, 6, 7, 8, 4, 9] (by decide +kernel) (by decide +kernel)
set_option maxRecDepth 20000 in
theorem gX5_table_X5_isPlace : GoodIn wsX5_table (va_wsS RX5 66 yX5_isPlace wsX5_isPlace) := goodIn_app (goodIn_of _ (by decide +kernel)) ggX5_table_X5_isPlace
theorem dX5_table_0 : decode cX5_table 0 = .ok (.iload_n 1, 1) := by decide +kernel
theorem dX5_table_1 : decode cX5_table 1 = .ok (.invokestatic 66, 3) := by decide +kernel
theorem dX5_table_4 : decode cX5_table 4 = .ok (.ifCond .ne 5, 3) := by decide +kernel
theorem dX5_table_7 : decode cX5_table 7 = .ok (.iconst (-1), 1) := by decide +kernel
theorem dX5_table_8 : decode cX5_table 8 = .ok (.ireturn, 1) := by decide +kernel
theorem dX5_table_9 : decode cX5_table 9 = .ok (.aload_n 0, 1) := by decide +kernel
theorem dX5_table_10 : decode cX5_table 10 = .ok (.iload_n 2, 1) := by decide +kernel
theorem dX5_table_11 : decode cX5_table 11 = .ok (.ifCond .eq 14, 3) := by decide +kernel
theorem dX5_table_14 : decode cX5_table 14 = .ok (.aload_n 0, 1) := by decide +kernel
theorem dX5_table_15 : decode cX5_table 15 = .ok (.getfield 79, 3) := by decide +kernel
theorem dX5_table_18 : decode cX5_table 18 = .ok (.iconst 1, 1) := by decide +kernel
theorem dX5_table_19 : decode cX5_table 19 = .ok (.iload_n 1, 1) := by decide +kernel
theorem dX5_table_20 : decode cX5_table 20 = .ok (.ishl, 1) := by decide +kernel
theorem dX5_table_21 : decode cX5_table 21 = .ok (.ior, 1) := by decide +kernel
theorem dX5_table_22 : decode cX5_table 22 = .ok (.goto 13, 3) := by decide +kernel
theorem dX5_table_25 : decode cX5_table 25 = .ok (.aload_n 0, 1) := by decide +kernel
theorem dX5_table_26 : decode cX5_table 26 = .ok (.getfield 79, 3) := by decide +kernel
theorem dX5_table_29 : decode cX5_table 29 = .ok (.iconst 1, 1) := by decide +kernel
theorem dX5_table_30 : decode cX5_table 30 = .ok (.iload_n 1, 1) := by decide +kernel
theorem dX5_table_31 : decode cX5_table 31 = .ok (.ishl, 1) := by decide +kernel
theorem dX5_table_32 : decode cX5_table 32 = .ok (.iconst (-1), 1) := by decide +kernel
theorem dX5_table_33 : decode cX5_table 33 = .ok (.ixor, 1) := by decide +kernel
theorem dX5_table_34 : decode cX5_table 34 = .ok (.iand, 1) := by decide +kernel
theorem dX5_table_35 : decode cX5_table 35 = .ok (.putfield 79, 3) := by decide +kernel
theorem dX5_table_38 : decode cX5_table 38 = .ok (.iconst 1, 1) := by decide +kernel
theorem dX5_table_39 : decode cX5_table 39 = .ok (.ireturn, 1) := by decide +kernel
set_option maxRecDepth 20000 in
theorem ggX5_set_X5_in : GoodIn wsX5_set wsX5_in := goodIn_r _ [7] (by decide +kernel) (by decide +kernel)
set_option maxRecDepth 20000 in
theorem gX5_set_X5_in : GoodIn wsX5_set (va_wsS RX5 53 yX5_in wsX5_in) := goodIn_app (goodIn_of _ (by decide +kernel)) ggX5_set_X5_in
theorem dX5_set_0 : decode cX5_set 0 = .ok (.iload_n 1, 1) := by decide +kernel
theorem dX5_set_1 : decode cX5_set 1 = .ok (.i2l, 1) := by decide +kernel
theorem dX5_set_2 : decode cX5_set 2 = .ok (.lconst 0, 1) := by decide +kernel
theorem dX5_set_3 : decode cX5_set 3 = .ok (.lconst 1, 1) := by decide +kernel
theorem dX5_set_4 : decode cX5_set 4 = .ok (.invokestatic 53, 3) := by decide +kernel
theorem dX5_set_7 : decode cX5_set 7 = .ok (.ifCond .eq 23, 3) := by decide +kernel
theorem dX5_set_10 : decode cX5_set 10 = .ok (.iload_n 2, 1) := by decide +kernel
theorem dX5_set_11 : decode cX5_set 11 = .ok (.i2l, 1) := by decide +kernel
theorem dX5_set_12 : decode cX5_set 12 = .ok (.iload_n 1, 1) := by decide +kernel
theorem dX5_set_13 : decode cX5_set 13 = .ok (.ifCond .ne 7, 3) := by decide +kernel
theorem dX5_set_16 : decode cX5_set 16 = .ok (.lconst 1, 1) := by decide +kernel
theorem dX5_set_17 : decode cX5_set 17 = .ok (.goto 4, 3) := by decide +kernel
theorem dX5_set_20 : decode cX5_set 20 = .ok (.lconst 0, 1) := by decide +kernel
theorem dX5_set_21 : decode cX5_set 21 = .ok (.ldc2_w 57, 3) := by decide +kernel
theorem dX5_set_24 : decode cX5_set 24 = .ok (.invokestatic 53, 3) := by decide +kernel
theorem dX5_set_27 : decode cX5_set 27 = .ok (.ifCond .ne 6, 3) := by decide +kernel
theorem dX5_set_30 : decode cX5_set 30 = .ok (.bipush (-2), 2) := by decide +kernel
theorem dX5_set_32 : decode cX5_set 32 = .ok (.ireturn, 1) := by decide +kernel
theorem dX5_set_33 : decode cX5_set 33 = .ok (.iload_n 1, 1) := by decide +kernel
theorem dX5_set_34 : decode cX5_set 34 = .ok (.ifCond .ne 10, 3) := by decide +kernel
theorem dX5_set_37 : decode cX5_set 37 = .ok (.aload_n 0, 1) := by decide +kernel
theorem dX5_set_38 : decode cX5_set 38 = .ok (.getfield 44, 3) := by decide +kernel
theorem dX5_set_41 : decode cX5_set 41 = .ok (.goto 7, 3) := by decide +kernel
theorem dX5_set_44 : decode cX5_set 44 = .ok (.aload_n 0, 1) := by decide +kernel
theorem dX5_set_45 : decode cX5_set 45 = .ok (.getfield 48, 3) := by decide +kernel
theorem dX5_set_48 : decode cX5_set 48 = .ok (.istore_n 3, 1) := by decide +kernel
theorem dX5_set_49 : decode cX5_set 49 = .ok (.aload_n 0, 1) := by decide +kernel
theorem dX5_set_50 : decode cX5_set 50 = .ok (.iload_n 1, 1) := by decide +kernel
theorem dX5_set_51 : decode cX5_set 51 = .ok (.ifCond .ne 7, 3) := by decide +kernel
theorem dX5_set_54 : decode cX5_set 54 = .ok (.iload_n 2, 1) := by decide +kernel
theorem dX5_set_55 : decode cX5_set 55 = .ok (.goto 7, 3) := by decide +kernel
theorem dX5_set_58 : decode cX5_set 58 = .ok (.aload_n 0, 1) := by decide +kernel
theorem dX5_set_59 : decode cX5_set 59 = .ok (.getfield 44, 3) := by decide +kernel
theorem dX5_set_62 : decode cX5_set 62 = .ok (.putfield 44, 3) := by decide +kernel
theorem dX5_set_65 : decode cX5_set 65 = .ok (.aload_n 0, 1) := by decide +kernel
theorem dX5_set_66 : decode cX5_set 66 = .ok (.iload_n 1, 1) := by decide +kernel
theorem dX5_set_67 : decode cX5_set 67 = .ok (.iconst 1, 1) := by decide +kernel
theorem dX5_set_68 : decode cX5_set 68 = .ok (.if_icmp .ne 7, 3) := by decide +kernel
theorem dX5_set_71 : decode cX5_set 71 = .ok (.iload_n 2, 1) := by decide +kernel
theorem dX5_set_72 : decode cX5_set 72 = .ok (.goto 7, 3) := by decide +kernel
theorem dX5_set_75 : decode cX5_set 75 = .ok (.aload_n 0, 1) := by decide +kernel
theorem dX5_set_76 : decode cX5_set 76 = .ok (.getfield 48, 3) := by decide +kernel
theorem dX5_set_79 : decode cX5_set 79 = .ok (.putfield 48, 3) := by decide +kernel
theorem dX5_set_82 : decode cX5_set 82 = .ok (.iload_n 3, 1) := by decide +kernel
theorem dX5_set_83 : decode cX5_set 83 = .ok (.ireturn, 1) := by decide +kernel
set_option maxRecDepth 20000 in
theorem ggX5_say_X5_in : GoodIn wsX5_say wsX5_in := goodIn_r _ [8] (by decide +kernel) (by decide +kernel)
set_option maxRecDepth 20000 in
theorem gX5_say_X5_in : GoodIn wsX5_say (va_wsS RX5 53 yX5_in wsX5_in) := goodIn_app (goodIn_of _ (by decide +kernel)) ggX5_say_X5_in
theorem dX5_say_0 : decode cX5_say 0 = .ok (.iload_n 1, 1) := by decide +kernel
theorem dX5_say_1 : decode cX5_say 1 = .ok (.i2l, 1) := by decide +kernel
theorem dX5_say_2 : decode cX5_say 2 = .ok (.ldc2_w 82, 3) := by decide +kernel
theorem dX5_say_5 : decode cX5_say 5 = .ok (.ldc2_w 84, 3) := by decide +kernel
theorem dX5_say_8 : decode cX5_say 8 = .ok (.invokestatic 53, 3) := by decide +kernel
theorem dX5_say_11 : decode cX5_say 11 = .ok (.ifCond .ne 6, 3) := by decide +kernel
theorem dX5_say_14 : decode cX5_say 14 = .ok (.bipush (-2), 2) := by decide +kernel
theorem dX5_say_16 : decode cX5_say 16 = .ok (.ireturn, 1) := by decide +kernel
theorem dX5_say_17 : decode cX5_say 17 = .ok (.aload_n 0, 1) := by decide +kernel
theorem dX5_say_18 : decode cX5_say 18 = .ok (.getfield 86, 3) := by decide +kernel
theorem dX5_say_21 : decode cX5_say 21 = .ok (.bipush 40, 2) := by decide +kernel
theorem dX5_say_23 : decode cX5_say 23 = .ok (.if_icmp .ne 6, 3) := by decide +kernel
theorem dX5_say_26 : decode cX5_say 26 = .ok (.bipush (-4), 2) := by decide +kernel
theorem dX5_say_28 : decode cX5_say 28 = .ok (.ireturn, 1) := by decide +kernel
theorem dX5_say_29 : decode cX5_say 29 = .ok (.aload_n 0, 1) := by decide +kernel
theorem dX5_say_30 : decode cX5_say 30 = .ok (.getfield 28, 3) := by decide +kernel
theorem dX5_say_33 : decode cX5_say 33 = .ok (.aload_n 0, 1) := by decide +kernel
theorem dX5_say_34 : decode cX5_say 34 = .ok (.getfield 86, 3) := by decide +kernel
theorem dX5_say_37 : decode cX5_say 37 = .ok (.iload_n 1, 1) := by decide +kernel
theorem dX5_say_38 : decode cX5_say 38 = .ok (.iastore, 1) := by decide +kernel
theorem dX5_say_39 : decode cX5_say 39 = .ok (.aload_n 0, 1) := by decide +kernel
theorem dX5_say_40 : decode cX5_say 40 = .ok (.dup, 1) := by decide +kernel
theorem dX5_say_41 : decode cX5_say 41 = .ok (.getfield 86, 3) := by decide +kernel
theorem dX5_say_44 : decode cX5_say 44 = .ok (.iconst 1, 1) := by decide +kernel
theorem dX5_say_45 : decode cX5_say 45 = .ok (.iadd, 1) := by decide +kernel
theorem dX5_say_46 : decode cX5_say 46 = .ok (.putfield 86, 3) := by decide +kernel
theorem dX5_say_49 : decode cX5_say 49 = .ok (.aload_n 0, 1) := by decide +kernel
theorem dX5_say_50 : decode cX5_say 50 = .ok (.getfield 86, 3) := by decide +kernel
theorem dX5_say_53 : decode cX5_say 53 = .ok (.ireturn, 1) := by decide +kernel
theorem dX5_wipe_0 : decode cX5_wipe 0 = .ok (.aload_n 0, 1) := by decide +kernel
theorem dX5_wipe_1 : decode cX5_wipe 1 = .ok (.getfield 86, 3) := by decide +kernel
theorem dX5_wipe_4 : decode cX5_wipe 4 = .ok (.istore_n 1, 1) := by decide +kernel
theorem dX5_wipe_5 : decode cX5_wipe 5 = .ok (.aload_n 0, 1) := by decide +kernel
theorem dX5_wipe_6 : decode cX5_wipe 6 = .ok (.iconst 0, 1) := by decide +kernel
theorem dX5_wipe_7 : decode cX5_wipe 7 = .ok (.putfield 86, 3) := by decide +kernel
theorem dX5_wipe_10 : decode cX5_wipe 10 = .ok (.iload_n 1, 1) := by decide +kernel
theorem dX5_wipe_11 : decode cX5_wipe 11 = .ok (.ireturn, 1) := by decide +kernel
set_option maxRecDepth 20000 in
theorem ggX5_canStand_X5_in : GoodIn wsX5_canStand wsX5_in := goodIn_r _ [8] (by decide +kernel) (by decide +kernel)
set_option maxRecDepth 20000 in
theorem gX5_canStand_X5_in : GoodIn wsX5_canStand (va_wsS RX5 53 yX5_in wsX5_in) := goodIn_app (goodIn_of _ (by decide +kernel)) ggX5_canStand_X5_in
theorem dX5_canStand_0 : decode cX5_canStand 0 = .ok (.iload_n 0, 1) := by decide +kernel
theorem dX5_canStand_1 : decode cX5_canStand 1 = .ok (.i2l, 1) := by decide +kernel
theorem dX5_canStand_2 : decode cX5_canStand 2 = .ok (.ldc2_w 89, 3) := by decide +kernel
theorem dX5_canStand_5 : decode cX5_canStand 5 = .ok (.ldc2_w 91, 3) := by decide +kernel
theorem dX5_canStand_8 : decode cX5_canStand 8 = .ok (.invokestatic 53, 3) := by decide +kernel
theorem dX5_canStand_11 : decode cX5_canStand 11 = .ok (.istore_n 2, 1) := by decide +kernel
theorem dX5_canStand_12 : decode cX5_canStand 12 = .ok (.iload_n 1, 1) := by decide +kernel
theorem dX5_canStand_13 : decode cX5_canStand 13 = .ok (.ifCond .ne 37, 3) := by decide +kernel
theorem dX5_canStand_16 : decode cX5_canStand 16 = .ok (.iload_n 2, 1) := by decide +kernel
theorem dX5_canStand_17 : decode cX5_canStand 17 = .ok (.ifCond .ne 27, 3) := by decide +kernel
theorem dX5_canStand_20 : decode cX5_canStand 20 = .ok (.iload_n 0, 1) := by decide +kernel
theorem dX5_canStand_21 : decode cX5_canStand 21 = .ok (.bipush 33, 2) := by decide +kernel
theorem dX5_canStand_23 : decode cX5_canStand 23 = .ok (.if_icmp .eq 21, 3) := by decide +kernel
theorem dX5_canStand_26 : decode cX5_canStand 26 = .ok (.iload_n 0, 1) := by decide +kernel
theorem dX5_canStand_27 : decode cX5_canStand 27 = .ok (.bipush 45, 2) := by decide +kernel
theorem dX5_canStand_29 : decode cX5_canStand 29 = .ok (.if_icmp .eq 15, 3) := by decide +kernel
theorem dX5_canStand_32 : decode cX5_canStand 32 = .ok (.iload_n 0, 1) := by decide +kernel
theorem dX5_canStand_33 : decode cX5_canStand 33 = .ok (.bipush 46, 2) := by decide +kernel
theorem dX5_canStand_35 : decode cX5_canStand 35 = .ok (.if_icmp .eq 9, 3) := by decide +kernel
theorem dX5_canStand_38 : decode cX5_canStand 38 = .ok (.iload_n 0, 1) := by decide +kernel
theorem dX5_canStand_39 : decode cX5_canStand 39 = .ok (.bipush 126, 2) := by decide +kernel
theorem dX5_canStand_41 : decode cX5_canStand 41 = .ok (.if_icmp .ne 7, 3) := by decide +kernel
theorem dX5_canStand_44 : decode cX5_canStand 44 = .ok (.iconst 1, 1) := by decide +kernel
theorem dX5_canStand_45 : decode cX5_canStand 45 = .ok (.goto 4, 3) := by decide +kernel
theorem dX5_canStand_48 : decode cX5_canStand 48 = .ok (.iconst 0, 1) := by decide +kernel
theorem dX5_canStand_49 : decode cX5_canStand 49 = .ok (.ireturn, 1) := by decide +kernel
theorem dX5_canStand_50 : decode cX5_canStand 50 = .ok (.iload_n 1, 1) := by decide +kernel
theorem dX5_canStand_51 : decode cX5_canStand 51 = .ok (.bipush 126, 2) := by decide +kernel
theorem dX5_canStand_53 : decode cX5_canStand 53 = .ok (.if_icmp .ne 17, 3) := by decide +kernel
theorem dX5_canStand_56 : decode cX5_canStand 56 = .ok (.iload_n 0, 1) := by decide +kernel
theorem dX5_canStand_57 : decode cX5_canStand 57 = .ok (.i2l, 1) := by decide +kernel
theorem dX5_canStand_58 : decode cX5_canStand 58 = .ok (.ldc2_w 93, 3) := by decide +kernel
theorem dX5_canStand_61 : decode cX5_canStand 61 = .ok (.ldc2_w 95, 3) := by decide +kernel
theorem dX5_canStand_64 : decode cX5_canStand 64 = .ok (.invokestatic 53, 3) := by decide +kernel
theorem dX5_canStand_67 : decode cX5_canStand 67 = .ok (.goto 24, 3) := by decide +kernel
theorem dX5_canStand_70 : decode cX5_canStand 70 = .ok (.iload_n 2, 1) := by decide +kernel
theorem dX5_canStand_71 : decode cX5_canStand 71 = .ok (.ifCond .eq 19, 3) := by decide +kernel
theorem dX5_canStand_74 : decode cX5_canStand 74 = .ok (.iload_n 1, 1) := by decide +kernel
theorem dX5_canStand_75 : decode cX5_canStand 75 = .ok (.bipush 33, 2) := by decide +kernel
theorem dX5_canStand_77 : decode cX5_canStand 77 = .ok (.if_icmp .eq 9, 3) := by decide +kernel
theorem dX5_canStand_80 : decode cX5_canStand 80 = .ok (.iload_n 0, 1) := by decide +kernel
theorem dX5_canStand_81 : decode cX5_canStand 81 = .ok (.bipush 48, 2) := by decide +kernel
theorem dX5_canStand_83 : decode cX5_canStand 83 = .ok (.if_icmp .eq 7, 3) := by decide +kernel
theorem dX5_canStand_86 : decode cX5_canStand 86 = .ok (.iconst 1, 1) := by decide +kernel
theorem dX5_canStand_87 : decode cX5_canStand 87 = .ok (.goto 4, 3) := by decide +kernel
theorem dX5_canStand_90 : decode cX5_canStand 90 = .ok (.iconst 0, 1) := by decide +kernel
theorem dX5_canStand_91 : decode cX5_canStand 91 = .ok (.ireturn, 1) := by decide +kernel
theorem dX5_isOpening_0 : decode cX5_isOpening 0 = .ok (.iload_n 1, 1) := by decide +kernel
theorem dX5_isOpening_1 : decode cX5_isOpening 1 = .ok (.ifCond .ne 25, 3) := by decide +kernel
theorem dX5_isOpening_4 : decode cX5_isOpening 4 = .ok (.iload_n 0, 1) := by decide +kernel
theorem dX5_isOpening_5 : decode cX5_isOpening 5 = .ok (.bipush 33, 2) := by decide +kernel
theorem dX5_isOpening_7 : decode cX5_isOpening 7 = .ok (.if_icmp .eq 15, 3) := by decide +kernel
theorem dX5_isOpening_10 : decode cX5_isOpening 10 = .ok (.iload_n 0, 1) := by decide +kernel
theorem dX5_isOpening_11 : decode cX5_isOpening 11 = .ok (.bipush 45, 2) := by decide +kernel
theorem dX5_isOpening_13 : decode cX5_isOpening 13 = .ok (.if_icmp .eq 9, 3) := by decide +kernel
theorem dX5_isOpening_16 : decode cX5_isOpening 16 = .ok (.iload_n 0, 1) := by decide +kernel
theorem dX5_isOpening_17 : decode cX5_isOpening 17 = .ok (.bipush 126, 2) := by decide +kernel
theorem dX5_isOpening_19 : decode cX5_isOpening 19 = .ok (.if_icmp .ne 7, 3) := by decide +kernel
theorem dX5_isOpening_22 : decode cX5_isOpening 22 = .ok (.iconst 1, 1) := by decide +kernel
theorem dX5_isOpening_23 : decode cX5_isOpening 23 = .ok (.goto 4, 3) := by decide +kernel
theorem dX5_isOpening_26 : decode cX5_isOpening 26 = .ok (.iconst 0, 1) := by decide +kernel
theorem dX5_isOpening_27 : decode cX5_isOpening 27 = .ok (.ireturn, 1) := by decide +kernel
set_option maxRecDepth 20000 in
theorem ggX5_fault_X5_canStand : GoodIn wsX5_fault wsX5_canStand := goodIn_r _ [6, 7, 8, 9, 10, 11, 12, 5, 13] (by decide +kernel) (by decide +kernel)
set_option maxRecDepth 20000 in
theorem gX5_fault_X5_canStand : GoodIn wsX5_fault (va_wsS RX5 97 yX5_canStand wsX5_canStand) := goodIn_app (goodIn_of _ (by decide +kernel)) ggX5_fault_X5_canStand
set_option maxRecDepth 20000 in
theorem ggX5_fault_X5_isOpening : GoodIn wsX5_fault wsX5_isOpening := goodIn_r _ [16] (by decide +kernel) (by decide +kernel)
set_option maxRecDepth 20000 in
theorem gX5_fault_X5_isOpening : GoodIn wsX5_fault (va_wsS RX5 101 yX5_isOpening wsX5_isOpening) := goodIn_app (goodIn_of _ (by decide +kernel)) ggX5_fault_X5_isOpening
theorem dX5_fault_0 : decode cX5_fault 0 = .ok (.iconst 0, 1) := by decide +kernel
theorem dX5_fault_1 : decode cX5_fault 1 = .ok (.istore_n 1, 1) := by decide +kernel
theorem dX5_fault_2 : decode cX5_fault 2 = .ok (.iconst 0, 1) := by decide +kernel
theorem dX5_fault_3 : decode cX5_fault 3 = .ok (.istore_n 2, 1) := by decide +kernel
theorem dX5_fault_4 : decode cX5_fault 4 = .ok (.iload_n 2, 1) := by decide +kernel
theorem dX5_fault_5 : decode cX5_fault 5 = .ok (.aload_n 0, 1) := by decide +kernel
theorem dX5_fault_6 : decode cX5_fault 6 = .ok (.getfield 86, 3) := by decide +kernel
theorem dX5_fault_9 : decode cX5_fault 9 = .ok (.if_icmp .ge 48, 3) := by decide +kernel
theorem dX5_fault_12 : decode cX5_fault 12 = .ok (.aload_n 0, 1) := by decide +kernel
theorem dX5_fault_13 : decode cX5_fault 13 = .ok (.getfield 28, 3) := by decide +kernel
theorem dX5_fault_16 : decode cX5_fault 16 = .ok (.iload_n 2, 1) := by decide +kernel
theorem dX5_fault_17 : decode cX5_fault 17 = .ok (.iaload, 1) := by decide +kernel
theorem dX5_fault_18 : decode cX5_fault 18 = .ok (.iload_n 1, 1) := by decide +kernel
theorem dX5_fault_19 : decode cX5_fault 19 = .ok (.invokestatic 97, 3) := by decide +kernel
theorem dX5_fault_22 : decode cX5_fault 22 = .ok (.ifCond .ne 5, 3) := by decide +kernel
theorem dX5_fault_25 : decode cX5_fault 25 = .ok (.iload_n 2, 1) := by decide +kernel
theorem dX5_fault_26 : decode cX5_fault 26 = .ok (.ireturn, 1) := by decide +kernel
theorem dX5_fault_27 : decode cX5_fault 27 = .ok (.aload_n 0, 1) := by decide +kernel
theorem dX5_fault_28 : decode cX5_fault 28 = .ok (.getfield 28, 3) := by decide +kernel
theorem dX5_fault_31 : decode cX5_fault 31 = .ok (.iload_n 2, 1) := by decide +kernel
theorem dX5_fault_32 : decode cX5_fault 32 = .ok (.iaload, 1) := by decide +kernel
theorem dX5_fault_33 : decode cX5_fault 33 = .ok (.iload_n 1, 1) := by decide +kernel
theorem dX5_fault_34 : decode cX5_fault 34 = .ok (.invokestatic 101, 3) := by decide +kernel
theorem dX5_fault_37 : decode cX5_fault 37 = .ok (.ifCond .eq 12, 3) := by decide +kernel
theorem dX5_fault_40 : decode cX5_fault 40 = .ok (.aload_n 0, 1) := by decide +kernel
theorem dX5_fault_41 : decode cX5_fault 41 = .ok (.getfield 28, 3) := by decide +kernel
theorem dX5_fault_44 : decode cX5_fault 44 = .ok (.iload_n 2, 1) := by decide +kernel
theorem dX5_fault_45 : decode cX5_fault 45 = .ok (.iaload, 1) := by decide +kernel
theorem dX5_fault_46 : decode cX5_fault 46 = .ok (.goto 4, 3) := by decide +kernel
theorem dX5_fault_49 : decode cX5_fault 49 = .ok (.iconst 0, 1) := by decide +kernel
theorem dX5_fault_50 : decode cX5_fault 50 = .ok (.istore_n 1, 1) := by decide +kernel
theorem dX5_fault_51 : decode cX5_fault 51 = .ok (.iinc 2 1, 3) := by decide +kernel
theorem dX5_fault_54 : decode cX5_fault 54 = .ok (.goto (-50), 3) := by decide +kernel
theorem dX5_fault_57 : decode cX5_fault 57 = .ok (.iload_n 1, 1) := by decide +kernel
theorem dX5_fault_58 : decode cX5_fault 58 = .ok (.ifCond .ne 8, 3) := by decide +kernel
theorem dX5_fault_61 : decode cX5_fault 61 = .ok (.bipush (-6), 2) := by decide +kernel
theorem dX5_fault_63 : decode cX5_fault 63 = .ok (.goto 7, 3) := by decide +kernel
theorem dX5_fault_66 : decode cX5_fault 66 = .ok (.aload_n 0, 1) := by decide +kernel
theorem dX5_fault_67 : decode cX5_fault 67 = .ok (.getfield 86, 3) := by decide +kernel
theorem dX5_fault_70 : decode cX5_fault 70 = .ok (.ireturn, 1) := by decide +kernel
set_option maxRecDepth 20000 in
theorem ggX5_opensAt_X5_isThere : GoodIn wsX5_opensAt wsX5_isThere := goodIn_r _ [11, 12, 13, 14, 10, 15, 16, 17, 18, 19, 20, 21, 22, 23, 24, 25, 26, 27, 28, 29, 30, 31, 32, 33, 34, 35, 36, 37, 38, 39, 40, 41, 42, 43] (by decide +kernel) (by decide +kernel)
set_option maxRecDepth 20000 in
theorem gX5_opensAt_X5_isThere : GoodIn wsX5_opensAt (wsV RX5 76 RX5 yX5_isThere wsX5_isThere) := goodIn_app (goodIn_of _ (by decide +kernel)) ggX5_opensAt_X5_isThere
theorem dX5_opensAt_0 : decode cX5_opensAt 0 = .ok (.aload_n 0, 1) := by decide +kernel
theorem dX5_opensAt_1 : decode cX5_opensAt 1 = .ok (.iload_n 1, 1) := by decide +kernel
theorem dX5_opensAt_2 : decode cX5_opensAt 2 = .ok (.invokevirtual 76, 3) := by decide +kernel
theorem dX5_opensAt_5 : decode cX5_opensAt 5 = .ok (.ifCond .eq 15, 3) := by decide +kernel
theorem dX5_opensAt_8 : decode cX5_opensAt 8 = .ok (.aload_n 0, 1) := by decide +kernel
theorem dX5_opensAt_9 : decode cX5_opensAt 9 = .ok (.getfield 69, 3) := by decide +kernel
theorem dX5_opensAt_12 : decode cX5_opensAt 12 = .ok (.iload_n 1, 1) := by decide +kernel
theorem dX5_opensAt_13 : decode cX5_opensAt 13 = .ok (.ishr, 1) := by decide +kernel
theorem dX5_opensAt_14 : decode cX5_opensAt 14 = .ok (.iconst 1, 1) := by decide +kernel
theorem dX5_opensAt_15 : decode cX5_opensAt 15 = .ok (.iand, 1) := by decide +kernel
theorem dX5_opensAt_16 : decode cX5_opensAt 16 = .ok (.iconst 1, 1) := by decide +kernel
theorem dX5_opensAt_17 : decode cX5_opensAt 17 = .ok (.if_icmp .ne 7, 3) := by decide +kernel
theorem dX5_opensAt_20 : decode cX5_opensAt 20 = .ok (.sipush 1000, 3) := by decide +kernel
theorem dX5_opensAt_23 : decode cX5_opensAt 23 = .ok (.ireturn, 1) := by decide +kernel
theorem dX5_opensAt_24 : decode cX5_opensAt 24 = .ok (.aload_n 0, 1) := by decide +kernel
theorem dX5_opensAt_25 : decode cX5_opensAt 25 = .ok (.getfield 7, 3) := by decide +kernel
theorem dX5_opensAt_28 : decode cX5_opensAt 28 = .ok (.iload_n 1, 1) := by decide +kernel
theorem dX5_opensAt_29 : decode cX5_opensAt 29 = .ok (.iaload, 1) := by decide +kernel
theorem dX5_opensAt_30 : decode cX5_opensAt 30 = .ok (.iload_n 2, 1) := by decide +kernel
theorem dX5_opensAt_31 : decode cX5_opensAt 31 = .ok (.if_icmp .le 14, 3) := by decide +kernel
theorem dX5_opensAt_34 : decode cX5_opensAt 34 = .ok (.aload_n 0, 1) := by decide +kernel
theorem dX5_opensAt_35 : decode cX5_opensAt 35 = .ok (.getfield 7, 3) := by decide +kernel
theorem dX5_opensAt_38 : decode cX5_opensAt 38 = .ok (.iload_n 1, 1) := by decide +kernel
theorem dX5_opensAt_39 : decode cX5_opensAt 39 = .ok (.iaload, 1) := by decide +kernel
theorem dX5_opensAt_40 : decode cX5_opensAt 40 = .ok (.iload_n 2, 1) := by decide +kernel
theorem dX5_opensAt_41 : decode cX5_opensAt 41 = .ok (.isub, 1) := by decide +kernel
theorem dX5_opensAt_42 : decode cX5_opensAt 42 = .ok (.goto 11, 3) := by decide +kernel
theorem dX5_opensAt_45 : decode cX5_opensAt 45 = .ok (.iload_n 2, 1) := by decide +kernel
theorem dX5_opensAt_46 : decode cX5_opensAt 46 = .ok (.aload_n 0, 1) := by decide +kernel
theorem dX5_opensAt_47 : decode cX5_opensAt 47 = .ok (.getfield 7, 3) := by decide +kernel
theorem dX5_opensAt_50 : decode cX5_opensAt 50 = .ok (.iload_n 1, 1) := by decide +kernel
theorem dX5_opensAt_51 : decode cX5_opensAt 51 = .ok (.iaload, 1) := by decide +kernel
theorem dX5_opensAt_52 : decode cX5_opensAt 52 = .ok (.isub, 1) := by decide +kernel
theorem dX5_opensAt_53 : decode cX5_opensAt 53 = .ok (.istore_n 3, 1) := by decide +kernel
theorem dX5_opensAt_54 : decode cX5_opensAt 54 = .ok (.aload_n 0, 1) := by decide +kernel
theorem dX5_opensAt_55 : decode cX5_opensAt 55 = .ok (.getfield 79, 3) := by decide +kernel
theorem dX5_opensAt_58 : decode cX5_opensAt 58 = .ok (.aload_n 0, 1) := by decide +kernel
theorem dX5_opensAt_59 : decode cX5_opensAt 59 = .ok (.getfield 7, 3) := by decide +kernel
theorem dX5_opensAt_62 : decode cX5_opensAt 62 = .ok (.iload_n 1, 1) := by decide +kernel
theorem dX5_opensAt_63 : decode cX5_opensAt 63 = .ok (.iaload, 1) := by decide +kernel
theorem dX5_opensAt_64 : decode cX5_opensAt 64 = .ok (.ishr, 1) := by decide +kernel
theorem dX5_opensAt_65 : decode cX5_opensAt 65 = .ok (.iconst 1, 1) := by decide +kernel
theorem dX5_opensAt_66 : decode cX5_opensAt 66 = .ok (.iand, 1) := by decide +kernel
theorem dX5_opensAt_67 : decode cX5_opensAt 67 = .ok (.iconst 1, 1) := by decide +kernel
theorem dX5_opensAt_68 : decode cX5_opensAt 68 = .ok (.if_icmp .ne 10, 3) := by decide +kernel
theorem dX5_opensAt_71 : decode cX5_opensAt 71 = .ok (.aload_n 0, 1) := by decide +kernel
theorem dX5_opensAt_72 : decode cX5_opensAt 72 = .ok (.getfield 48, 3) := by decide +kernel
theorem dX5_opensAt_75 : decode cX5_opensAt 75 = .ok (.goto 4, 3) := by decide +kernel
theorem dX5_opensAt_78 : decode cX5_opensAt 78 = .ok (.iconst 0, 1) := by decide +kernel
theorem dX5_opensAt_79 : decode cX5_opensAt 79 = .ok (.istore 4, 2) := by decide +kernel
theorem dX5_opensAt_81 : decode cX5_opensAt 81 = .ok (.aload_n 0, 1) := by decide +kernel
theorem dX5_opensAt_82 : decode cX5_opensAt 82 = .ok (.getfield 44, 3) := by decide +kernel
theorem dX5_opensAt_85 : decode cX5_opensAt 85 = .ok (.iload_n 3, 1) := by decide +kernel
theorem dX5_opensAt_86 : decode cX5_opensAt 86 = .ok (.imul, 1) := by decide +kernel
theorem dX5_opensAt_87 : decode cX5_opensAt 87 = .ok (.aload_n 0, 1) := by decide +kernel
theorem dX5_opensAt_88 : decode cX5_opensAt 88 = .ok (.getfield 13, 3) := by decide +kernel
theorem dX5_opensAt_91 : decode cX5_opensAt 91 = .ok (.iload_n 1, 1) := by decide +kernel
theorem dX5_opensAt_92 : decode cX5_opensAt 92 = .ok (.iaload, 1) := by decide +kernel
theorem dX5_opensAt_93 : decode cX5_opensAt 93 = .ok (.iadd, 1) := by decide +kernel
theorem dX5_opensAt_94 : decode cX5_opensAt 94 = .ok (.iload 4, 2) := by decide +kernel
theorem dX5_opensAt_96 : decode cX5_opensAt 96 = .ok (.iadd, 1) := by decide +kernel
theorem dX5_opensAt_97 : decode cX5_opensAt 97 = .ok (.ireturn, 1) := by decide +kernel
set_option maxRecDepth 20000 in
theorem ggX5_firstAt_X5_opensAt : GoodIn wsX5_firstAt wsX5_opensAt := goodIn_r _ [5, 6, 7, 8, 9, 10, 11, 12, 13, 14, 4, 15, 16, 17, 18, 19, 20, 21, 22, 23, 24, 25, 26, 27, 28, 29, 30, 31, 32, 33, 34, 35, 36, 37, 38, 39, 40, 41, 42, 43, 44, 45, 46, 47] (by decide +kernel) (by decide +kernel)
set_option maxRecDepth 20000 in
theorem gX5_firstAt_X5_opensAt : GoodIn wsX5_firstAt (wsV RX5 104 RX5 yX5_opensAt wsX5_opensAt) := goodIn_app (goodIn_of _ (by decide +kernel)) ggX5_firstAt_X5_opensAt
theorem dX5_firstAt_0 : decode cX5_firstAt 0 = .ok (.sipush 1000, 3) := by decide +kernel
theorem dX5_firstAt_3 : decode cX5_firstAt 3 = .ok (.istore_n 2, 1) := by decide +kernel
theorem dX5_firstAt_4 : decode cX5_firstAt 4 = .ok (.iconst 0, 1) := by decide +kernel
theorem dX5_firstAt_5 : decode cX5_firstAt 5 = .ok (.istore_n 3, 1) := by decide +kernel
theorem dX5_firstAt_6 : decode cX5_firstAt 6 = .ok (.iload_n 3, 1) := by decide +kernel
theorem dX5_firstAt_7 : decode cX5_firstAt 7 = .ok (.bipush 6, 2) := by decide +kernel
theorem dX5_firstAt_9 : decode cX5_firstAt 9 = .ok (.if_icmp .ge 30, 3) := by decide +kernel
theorem dX5_firstAt_12 : decode cX5_firstAt 12 = .ok (.aload_n 0, 1) := by decide +kernel
theorem dX5_firstAt_13 : decode cX5_firstAt 13 = .ok (.iload_n 3, 1) := by decide +kernel
theorem dX5_firstAt_14 : decode cX5_firstAt 14 = .ok (.iload_n 1, 1) := by decide +kernel
theorem dX5_firstAt_15 : decode cX5_firstAt 15 = .ok (.invokevirtual 104, 3) := by decide +kernel
theorem dX5_firstAt_18 : decode cX5_firstAt 18 = .ok (.istore 4, 2) := by decide +kernel
theorem dX5_firstAt_20 : decode cX5_firstAt 20 = .ok (.iload 4, 2) := by decide +kernel
theorem dX5_firstAt_22 : decode cX5_firstAt 22 = .ok (.iload_n 2, 1) := by decide +kernel
theorem dX5_firstAt_23 : decode cX5_firstAt 23 = .ok (.if_icmp .ge 8, 3) := by decide +kernel
theorem dX5_firstAt_26 : decode cX5_firstAt 26 = .ok (.iload 4, 2) := by decide +kernel
theorem dX5_firstAt_28 : decode cX5_firstAt 28 = .ok (.goto 4, 3) := by decide +kernel
theorem dX5_firstAt_31 : decode cX5_firstAt 31 = .ok (.iload_n 2, 1) := by decide +kernel
theorem dX5_firstAt_32 : decode cX5_firstAt 32 = .ok (.istore_n 2, 1) := by decide +kernel
theorem dX5_firstAt_33 : decode cX5_firstAt 33 = .ok (.iinc 3 1, 3) := by decide +kernel
theorem dX5_firstAt_36 : decode cX5_firstAt 36 = .ok (.goto (-30), 3) := by decide +kernel
theorem dX5_firstAt_39 : decode cX5_firstAt 39 = .ok (.iload_n 2, 1) := by decide +kernel
theorem dX5_firstAt_40 : decode cX5_firstAt 40 = .ok (.ireturn, 1) := by decide +kernel
set_option maxRecDepth 20000 in
theorem ggX5_rulersBy_X5_firstAt : GoodIn wsX5_rulersBy wsX5_firstAt := goodIn_r _ [5, 6, 7, 8, 4, 9, 10, 11, 12, 13, 14, 15, 16, 17, 18, 19, 20, 21, 22, 23, 24, 25, 26, 27, 28, 29, 30, 31, 32, 33, 34, 35, 36, 37, 38, 39, 40, 41, 42, 43, 44, 45, 46, 47, 48, 49, 50, 51] (by decide +kernel) (by decide +kernel)
set_option maxRecDepth 20000 in
theorem gX5_rulersBy_X5_firstAt : GoodIn wsX5_rulersBy (wsV RX5 108 RX5 yX5_firstAt wsX5_firstAt) := goodIn_app (goodIn_of _ (by decide +kernel)) ggX5_rulersBy_X5_firstAt
set_option maxRecDepth 20000 in
theorem ggX5_rulersBy_X5_opensAt : GoodIn wsX5_rulersBy wsX5_opensAt := goodIn_r _ [9, 10, 11, 12, 13, 14, 15, 16, 17, 18, 4, 19, 20, 21, 22, 23, 24, 25, 26, 27, 28, 29, 30, 31, 32, 33, 34, 35, 36, 37, 38, 39, 40, 41, 42, 43, 44, 45, 46, 47, 48, 49, 50, 51] (by decide +kernel) (by decide +kernel)
set_option maxRecDepth 20000 in
theorem gX5_rulersBy_X5_opensAt : GoodIn wsX5_rulersBy (wsV RX5 104 RX5 yX5_opensAt wsX5_opensAt) := goodIn_app (goodIn_of _ (by decide +kernel)) ggX5_rulersBy_X5_opensAt
theorem dX5_rulersBy_0 : decode cX5_rulersBy 0 = .ok (.aload_n 0, 1) := by decide +kernel
theorem dX5_rulersBy_1 : decode cX5_rulersBy 1 = .ok (.iload_n 1, 1) := by decide +kernel
theorem dX5_rulersBy_2 : decode cX5_rulersBy 2 = .ok (.invokevirtual 108, 3) := by decide +kernel
theorem dX5_rulersBy_5 : decode cX5_rulersBy 5 = .ok (.istore_n 2, 1) := by decide +kernel
theorem dX5_rulersBy_6 : decode cX5_rulersBy 6 = .ok (.iconst 0, 1) := by decide +kernel
theorem dX5_rulersBy_7 : decode cX5_rulersBy 7 = .ok (.istore_n 3, 1) := by decide +kernel
theorem dX5_rulersBy_8 : decode cX5_rulersBy 8 = .ok (.iconst 0, 1) := by decide +kernel
theorem dX5_rulersBy_9 : decode cX5_rulersBy 9 = .ok (.istore 4, 2) := by decide +kernel
theorem dX5_rulersBy_11 : decode cX5_rulersBy 11 = .ok (.iload 4, 2) := by decide +kernel
theorem dX5_rulersBy_13 : decode cX5_rulersBy 13 = .ok (.bipush 6, 2) := by decide +kernel
theorem dX5_rulersBy_15 : decode cX5_rulersBy 15 = .ok (.if_icmp .ge 38, 3) := by decide +kernel
theorem dX5_rulersBy_18 : decode cX5_rulersBy 18 = .ok (.iload_n 2, 1) := by decide +kernel
theorem dX5_rulersBy_19 : decode cX5_rulersBy 19 = .ok (.sipush 1000, 3) := by decide +kernel
theorem dX5_rulersBy_22 : decode cX5_rulersBy 22 = .ok (.if_icmp .ge 31, 3) := by decide +kernel
theorem dX5_rulersBy_25 : decode cX5_rulersBy 25 = .ok (.iload_n 3, 1) := by decide +kernel
theorem dX5_rulersBy_26 : decode cX5_rulersBy 26 = .ok (.aload_n 0, 1) := by decide +kernel
theorem dX5_rulersBy_27 : decode cX5_rulersBy 27 = .ok (.iload 4, 2) := by decide +kernel
theorem dX5_rulersBy_29 : decode cX5_rulersBy 29 = .ok (.iload_n 1, 1) := by decide +kernel
theorem dX5_rulersBy_30 : decode cX5_rulersBy 30 = .ok (.invokevirtual 104, 3) := by decide +kernel
theorem dX5_rulersBy_33 : decode cX5_rulersBy 33 = .ok (.iload_n 2, 1) := by decide +kernel
theorem dX5_rulersBy_34 : decode cX5_rulersBy 34 = .ok (.if_icmp .ne 10, 3) := by decide +kernel
theorem dX5_rulersBy_37 : decode cX5_rulersBy 37 = .ok (.iconst 1, 1) := by decide +kernel
theorem dX5_rulersBy_38 : decode cX5_rulersBy 38 = .ok (.iload 4, 2) := by decide +kernel
theorem dX5_rulersBy_40 : decode cX5_rulersBy 40 = .ok (.ishl, 1) := by decide +kernel
theorem dX5_rulersBy_41 : decode cX5_rulersBy 41 = .ok (.goto 4, 3) := by decide +kernel
theorem dX5_rulersBy_44 : decode cX5_rulersBy 44 = .ok (.iconst 0, 1) := by decide +kernel
theorem dX5_rulersBy_45 : decode cX5_rulersBy 45 = .ok (.ior, 1) := by decide +kernel
theorem dX5_rulersBy_46 : decode cX5_rulersBy 46 = .ok (.istore_n 3, 1) := by decide +kernel
theorem dX5_rulersBy_47 : decode cX5_rulersBy 47 = .ok (.iinc 4 1, 3) := by decide +kernel
theorem dX5_rulersBy_50 : decode cX5_rulersBy 50 = .ok (.goto (-39), 3) := by decide +kernel
theorem dX5_rulersBy_53 : decode cX5_rulersBy 53 = .ok (.iload_n 3, 1) := by decide +kernel
theorem dX5_rulersBy_54 : decode cX5_rulersBy 54 = .ok (.ireturn, 1) := by decide +kernel
set_option maxRecDepth 20000 in
theorem ggX5_sprinkledBy_X5_opensAt : GoodIn wsX5_sprinkledBy wsX5_opensAt := goodIn_r _ [6, 7, 1, 8, 9, 10, 11, 12, 13, 14, 5, 15, 16, 17, 18, 19, 20, 21, 22, 23, 24, 25, 26, 27, 28, 29, 30, 31, 32, 33, 34, 35, 36, 37, 38, 39, 40, 41, 42, 43, 44, 45, 46, 47] (by decide +kernel) (by decide +kernel)
set_option maxRecDepth 20000 in
theorem gX5_sprinkledBy_X5_opensAt : GoodIn wsX5_sprinkledBy (wsV RX5 104 RX5 yX5_opensAt wsX5_opensAt) := goodIn_app (goodIn_of _ (by decide +kernel)) ggX5_sprinkledBy_X5_opensAt
theorem dX5_sprinkledBy_0 : decode cX5_sprinkledBy 0 = .ok (.sipush 1000, 3) := by decide +kernel
theorem dX5_sprinkledBy_3 : decode cX5_sprinkledBy 3 = .ok (.istore_n 2, 1) := by decide +kernel
theorem dX5_sprinkledBy_4 : decode cX5_sprinkledBy 4 = .ok (.iconst 0, 1) := by decide +kernel
theorem dX5_sprinkledBy_5 : decode cX5_sprinkledBy 5 = .ok (.istore_n 3, 1) := by decide +kernel
theorem dX5_sprinkledBy_6 : decode cX5_sprinkledBy 6 = .ok (.iload_n 3, 1) := by decide +kernel
theorem dX5_sprinkledBy_7 : decode cX5_sprinkledBy 7 = .ok (.bipush 6, 2) := by decide +kernel
theorem dX5_sprinkledBy_9 : decode cX5_sprinkledBy 9 = .ok (.if_icmp .ge 46, 3) := by decide +kernel
theorem dX5_sprinkledBy_12 : decode cX5_sprinkledBy 12 = .ok (.aload_n 0, 1) := by decide +kernel
theorem dX5_sprinkledBy_13 : decode cX5_sprinkledBy 13 = .ok (.getfield 7, 3) := by decide +kernel
theorem dX5_sprinkledBy_16 : decode cX5_sprinkledBy 16 = .ok (.iload_n 3, 1) := by decide +kernel
theorem dX5_sprinkledBy_17 : decode cX5_sprinkledBy 17 = .ok (.iaload, 1) := by decide +kernel
theorem dX5_sprinkledBy_18 : decode cX5_sprinkledBy 18 = .ok (.iload_n 1, 1) := by decide +kernel
theorem dX5_sprinkledBy_19 : decode cX5_sprinkledBy 19 = .ok (.if_icmp .ne 12, 3) := by decide +kernel
theorem dX5_sprinkledBy_22 : decode cX5_sprinkledBy 22 = .ok (.aload_n 0, 1) := by decide +kernel
theorem dX5_sprinkledBy_23 : decode cX5_sprinkledBy 23 = .ok (.iload_n 3, 1) := by decide +kernel
theorem dX5_sprinkledBy_24 : decode cX5_sprinkledBy 24 = .ok (.iload_n 1, 1) := by decide +kernel
theorem dX5_sprinkledBy_25 : decode cX5_sprinkledBy 25 = .ok (.invokevirtual 104, 3) := by decide +kernel
theorem dX5_sprinkledBy_28 : decode cX5_sprinkledBy 28 = .ok (.goto 6, 3) := by decide +kernel
theorem dX5_sprinkledBy_31 : decode cX5_sprinkledBy 31 = .ok (.sipush 1000, 3) := by decide +kernel
theorem dX5_sprinkledBy_34 : decode cX5_sprinkledBy 34 = .ok (.istore 4, 2) := by decide +kernel
theorem dX5_sprinkledBy_36 : decode cX5_sprinkledBy 36 = .ok (.iload 4, 2) := by decide +kernel
theorem dX5_sprinkledBy_38 : decode cX5_sprinkledBy 38 = .ok (.iload_n 2, 1) := by decide +kernel
theorem dX5_sprinkledBy_39 : decode cX5_sprinkledBy 39 = .ok (.if_icmp .ge 8, 3) := by decide +kernel
theorem dX5_sprinkledBy_42 : decode cX5_sprinkledBy 42 = .ok (.iload 4, 2) := by decide +kernel
theorem dX5_sprinkledBy_44 : decode cX5_sprinkledBy 44 = .ok (.goto 4, 3) := by decide +kernel
theorem dX5_sprinkledBy_47 : decode cX5_sprinkledBy 47 = .ok (.iload_n 2, 1) := by decide +kernel
theorem dX5_sprinkledBy_48 : decode cX5_sprinkledBy 48 = .ok (.istore_n 2, 1) := by decide +kernel
theorem dX5_sprinkledBy_49 : decode cX5_sprinkledBy 49 = .ok (.iinc 3 1, 3) := by decide +kernel
theorem dX5_sprinkledBy_52 : decode cX5_sprinkledBy 52 = .ok (.goto (-46), 3) := by decide +kernel
theorem dX5_sprinkledBy_55 : decode cX5_sprinkledBy 55 = .ok (.iconst 0, 1) := by decide +kernel
theorem dX5_sprinkledBy_56 : decode cX5_sprinkledBy 56 = .ok (.istore_n 3, 1) := by decide +kernel
theorem dX5_sprinkledBy_57 : decode cX5_sprinkledBy 57 = .ok (.iconst 0, 1) := by decide +kernel
theorem dX5_sprinkledBy_58 : decode cX5_sprinkledBy 58 = .ok (.istore 4, 2) := by decide +kernel
theorem dX5_sprinkledBy_60 : decode cX5_sprinkledBy 60 = .ok (.iload 4, 2) := by decide +kernel
theorem dX5_sprinkledBy_62 : decode cX5_sprinkledBy 62 = .ok (.bipush 6, 2) := by decide +kernel
theorem dX5_sprinkledBy_64 : decode cX5_sprinkledBy 64 = .ok (.if_icmp .ge 49, 3) := by decide +kernel
theorem dX5_sprinkledBy_67 : decode cX5_sprinkledBy 67 = .ok (.iload_n 2, 1) := by decide +kernel
theorem dX5_sprinkledBy_68 : decode cX5_sprinkledBy 68 = .ok (.sipush 1000, 3) := by decide +kernel
theorem dX5_sprinkledBy_71 : decode cX5_sprinkledBy 71 = .ok (.if_icmp .ge 42, 3) := by decide +kernel
theorem dX5_sprinkledBy_74 : decode cX5_sprinkledBy 74 = .ok (.iload_n 3, 1) := by decide +kernel
theorem dX5_sprinkledBy_75 : decode cX5_sprinkledBy 75 = .ok (.aload_n 0, 1) := by decide +kernel
theorem dX5_sprinkledBy_76 : decode cX5_sprinkledBy 76 = .ok (.getfield 7, 3) := by decide +kernel
theorem dX5_sprinkledBy_79 : decode cX5_sprinkledBy 79 = .ok (.iload 4, 2) := by decide +kernel
theorem dX5_sprinkledBy_81 : decode cX5_sprinkledBy 81 = .ok (.iaload, 1) := by decide +kernel
theorem dX5_sprinkledBy_82 : decode cX5_sprinkledBy 82 = .ok (.iload_n 1, 1) := by decide +kernel
theorem dX5_sprinkledBy_83 : decode cX5_sprinkledBy 83 = .ok (.if_icmp .ne 21, 3) := by decide +kernel
theorem dX5_sprinkledBy_86 : decode cX5_sprinkledBy 86 = .ok (.aload_n 0, 1) := by decide +kernel
theorem dX5_sprinkledBy_87 : decode cX5_sprinkledBy 87 = .ok (.iload 4, 2) := by decide +kernel
theorem dX5_sprinkledBy_89 : decode cX5_sprinkledBy 89 = .ok (.iload_n 1, 1) := by decide +kernel
theorem dX5_sprinkledBy_90 : decode cX5_sprinkledBy 90 = .ok (.invokevirtual 104, 3) := by decide +kernel
theorem dX5_sprinkledBy_93 : decode cX5_sprinkledBy 93 = .ok (.iload_n 2, 1) := by decide +kernel
theorem dX5_sprinkledBy_94 : decode cX5_sprinkledBy 94 = .ok (.if_icmp .ne 10, 3) := by decide +kernel
theorem dX5_sprinkledBy_97 : decode cX5_sprinkledBy 97 = .ok (.iconst 1, 1) := by decide +kernel
theorem dX5_sprinkledBy_98 : decode cX5_sprinkledBy 98 = .ok (.iload 4, 2) := by decide +kernel
theorem dX5_sprinkledBy_100 : decode cX5_sprinkledBy 100 = .ok (.ishl, 1) := by decide +kernel
theorem dX5_sprinkledBy_101 : decode cX5_sprinkledBy 101 = .ok (.goto 4, 3) := by decide +kernel
theorem dX5_sprinkledBy_104 : decode cX5_sprinkledBy 104 = .ok (.iconst 0, 1) := by decide +kernel
theorem dX5_sprinkledBy_105 : decode cX5_sprinkledBy 105 = .ok (.ior, 1) := by decide +kernel
theorem dX5_sprinkledBy_106 : decode cX5_sprinkledBy 106 = .ok (.istore_n 3, 1) := by decide +kernel
theorem dX5_sprinkledBy_107 : decode cX5_sprinkledBy 107 = .ok (.iinc 4 1, 3) := by decide +kernel
theorem dX5_sprinkledBy_110 : decode cX5_sprinkledBy 110 = .ok (.goto (-50), 3) := by decide +kernel
theorem dX5_sprinkledBy_113 : decode cX5_sprinkledBy 113 = .ok (.iload_n 3, 1) := by decide +kernel
theorem dX5_sprinkledBy_114 : decode cX5_sprinkledBy 114 = .ok (.ireturn, 1) := by decide +kernel
set_option maxRecDepth 20000 in
theorem ggX5_rules_X5_isPlace : GoodIn wsX5_rules wsX5_isPlace := goodIn_r _ [4, 5, 6, 7, 3, 8] (by decide +kernel) (by decide +kernel)
set_option maxRecDepth 20000 in
theorem gX5_rules_X5_isPlace : GoodIn wsX5_rules (va_wsS RX5 66 yX5_isPlace wsX5_isPlace) := goodIn_app (goodIn_of _ (by decide +kernel)) ggX5_rules_X5_isPlace
set_option maxRecDepth 20000 in
theorem ggX5_rules_X5_in : GoodIn wsX5_rules wsX5_in := goodIn_r _ [8] (by decide +kernel) (by decide +kernel)
set_option maxRecDepth 20000 in
theorem gX5_rules_X5_in : GoodIn wsX5_rules (va_wsS RX5 53 yX5_in wsX5_in) := goodIn_app (goodIn_of _ (by decide +kernel)) ggX5_rules_X5_in
set_option maxRecDepth 20000 in
theorem ggX5_rules_X5_firstAt : GoodIn wsX5_rules wsX5_firstAt := goodIn_r _ [12, 13, 14, 15, 3, 16, 17, 18, 19, 20, 21, 22, 23, 24, 25, 26, 27, 28, 29, 30, 31, 6, 7, 8, 36, 37, 38, 39, 40, 41, 42, 43, 44, 45, 46, 47, 48, 49, 50, 51, 52, 53, 54, 55, 56, 57, 58, 59] (by decide +kernel) (by decide +kernel)
set_option maxRecDepth 20000 in
theorem gX5_rules_X5_firstAt : GoodIn wsX5_rules (wsV RX5 108 RX5 yX5_firstAt wsX5_firstAt) := goodIn_app (goodIn_of _ (by decide +kernel)) ggX5_rules_X5_firstAt
set_option maxRecDepth 20000 in
theorem ggX5_rules_X5_rulersBy : GoodIn wsX5_rules wsX5_rulersBy := goodIn_r _ [35, 9, 10, 11, 3, 12, 13, 14, 15, 16, 17, 18, 19, 20, 21, 22, 23, 24, 25, 26, 27, 28, 29, 30, 31, 6, 7, 8, 36, 37, 38, 39, 40, 41, 42, 43, 44, 45, 46, 47, 48, 49, 50, 51, 52, 53, 54, 55, 56, 57, 58, 59] (by decide +kernel) (by decide +kernel)
set_option maxRecDepth 20000 in
theorem gX5_rules_X5_rulersBy : GoodIn wsX5_rules (wsV RX5 111 RX5 yX5_rulersBy wsX5_rulersBy) := goodIn_app (goodIn_of _ (by decide +kernel)) ggX5_rules_X5_rulersBy
theorem dX5_rules_0 : decode cX5_rules 0 = .ok (.iload_n 1, 1) := by decide +kernel
theorem dX5_rules_1 : decode cX5_rules 1 = .ok (.invokestatic 66, 3) := by decide +kernel
theorem dX5_rules_4 : decode cX5_rules 4 = .ok (.ifCond .ne 5, 3) := by decide +kernel
theorem dX5_rules_7 : decode cX5_rules 7 = .ok (.iconst (-1), 1) := by decide +kernel
theorem dX5_rules_8 : decode cX5_rules 8 = .ok (.ireturn, 1) := by decide +kernel
theorem dX5_rules_9 : decode cX5_rules 9 = .ok (.iload_n 2, 1) := by decide +kernel
theorem dX5_rules_10 : decode cX5_rules 10 = .ok (.i2l, 1) := by decide +kernel
theorem dX5_rules_11 : decode cX5_rules 11 = .ok (.lconst 0, 1) := by decide +kernel
theorem dX5_rules_12 : decode cX5_rules 12 = .ok (.lconst 1, 1) := by decide +kernel
theorem dX5_rules_13 : decode cX5_rules 13 = .ok (.invokestatic 53, 3) := by decide +kernel
theorem dX5_rules_16 : decode cX5_rules 16 = .ok (.ifCond .ne 6, 3) := by decide +kernel
theorem dX5_rules_19 : decode cX5_rules 19 = .ok (.bipush (-2), 2) := by decide +kernel
theorem dX5_rules_21 : decode cX5_rules 21 = .ok (.ireturn, 1) := by decide +kernel
theorem dX5_rules_22 : decode cX5_rules 22 = .ok (.aload_n 0, 1) := by decide +kernel
theorem dX5_rules_23 : decode cX5_rules 23 = .ok (.iload_n 1, 1) := by decide +kernel
theorem dX5_rules_24 : decode cX5_rules 24 = .ok (.invokevirtual 108, 3) := by decide +kernel
theorem dX5_rules_27 : decode cX5_rules 27 = .ok (.istore_n 3, 1) := by decide +kernel
theorem dX5_rules_28 : decode cX5_rules 28 = .ok (.iload_n 3, 1) := by decide +kernel
theorem dX5_rules_29 : decode cX5_rules 29 = .ok (.sipush 1000, 3) := by decide +kernel
theorem dX5_rules_32 : decode cX5_rules 32 = .ok (.if_icmp .ne 8, 3) := by decide +kernel
theorem dX5_rules_35 : decode cX5_rules 35 = .ok (.bipush (-6), 2) := by decide +kernel
theorem dX5_rules_37 : decode cX5_rules 37 = .ok (.goto 16, 3) := by decide +kernel
theorem dX5_rules_40 : decode cX5_rules 40 = .ok (.iload_n 2, 1) := by decide +kernel
theorem dX5_rules_41 : decode cX5_rules 41 = .ok (.ifCond .ne 11, 3) := by decide +kernel
theorem dX5_rules_44 : decode cX5_rules 44 = .ok (.aload_n 0, 1) := by decide +kernel
theorem dX5_rules_45 : decode cX5_rules 45 = .ok (.iload_n 1, 1) := by decide +kernel
theorem dX5_rules_46 : decode cX5_rules 46 = .ok (.invokevirtual 111, 3) := by decide +kernel
theorem dX5_rules_49 : decode cX5_rules 49 = .ok (.goto 4, 3) := by decide +kernel
theorem dX5_rules_52 : decode cX5_rules 52 = .ok (.iload_n 3, 1) := by decide +kernel
theorem dX5_rules_53 : decode cX5_rules 53 = .ok (.ireturn, 1) := by decide +kernel
set_option maxRecDepth 20000 in
theorem ggX5_opens_X5_isThere : GoodIn wsX5_opens wsX5_isThere := goodIn_r _ [5, 6, 7, 8, 4, 9, 10, 11, 12, 13, 28, 29, 30, 31, 32, 33, 34, 35, 36, 37, 38, 39, 40, 41, 42, 43, 44, 45, 46, 47, 48, 49, 50, 51] (by decide +kernel) (by decide +kernel)
set_option maxRecDepth 20000 in
theorem gX5_opens_X5_isThere : GoodIn wsX5_opens (wsV RX5 76 RX5 yX5_isThere wsX5_isThere) := goodIn_app (goodIn_of _ (by decide +kernel)) ggX5_opens_X5_isThere
set_option maxRecDepth 20000 in
theorem ggX5_opens_X5_isPlace : GoodIn wsX5_opens wsX5_isPlace := goodIn_r _ [16, 17, 11, 12, 4, 13] (by decide +kernel) (by decide +kernel)
set_option maxRecDepth 20000 in
theorem gX5_opens_X5_isPlace : GoodIn wsX5_opens (va_wsS RX5 66 yX5_isPlace wsX5_isPlace) := goodIn_app (goodIn_of _ (by decide +kernel)) ggX5_opens_X5_isPlace
set_option maxRecDepth 20000 in
theorem ggX5_opens_X5_opensAt : GoodIn wsX5_opens wsX5_opensAt := goodIn_r _ [21, 22, 23, 24, 25, 26, 27, 1, 2, 3, 4, 5, 6, 7, 8, 9, 10, 11, 12, 13, 28, 29, 30, 31, 32, 33, 34, 35, 36, 37, 38, 39, 40, 41, 42, 43, 44, 45, 46, 47, 48, 49, 50, 51] (by decide +kernel) (by decide +kernel)
set_option maxRecDepth 20000 in
theorem gX5_opens_X5_opensAt : GoodIn wsX5_opens (wsV RX5 104 RX5 yX5_opensAt wsX5_opensAt) := goodIn_app (goodIn_of _ (by decide +kernel)) ggX5_opens_X5_opensAt
theorem dX5_opens_0 : decode cX5_opens 0 = .ok (.aload_n 0, 1) := by decide +kernel
theorem dX5_opens_1 : decode cX5_opens 1 = .ok (.iload_n 1, 1) := by decide +kernel
theorem dX5_opens_2 : decode cX5_opens 2 = .ok (.invokevirtual 76, 3) := by decide +kernel
theorem dX5_opens_5 : decode cX5_opens 5 = .ok (.ifCond .eq 10, 3) := by decide +kernel
theorem dX5_opens_8 : decode cX5_opens 8 = .ok (.iload_n 2, 1) := by decide +kernel
theorem dX5_opens_9 : decode cX5_opens 9 = .ok (.invokestatic 66, 3) := by decide +kernel
theorem dX5_opens_12 : decode cX5_opens 12 = .ok (.ifCond .ne 5, 3) := by decide +kernel
theorem dX5_opens_15 : decode cX5_opens 15 = .ok (.iconst (-1), 1) := by decide +kernel
theorem dX5_opens_16 : decode cX5_opens 16 = .ok (.ireturn, 1) := by decide +kernel
theorem dX5_opens_17 : decode cX5_opens 17 = .ok (.aload_n 0, 1) := by decide +kernel
theorem dX5_opens_18 : decode cX5_opens 18 = .ok (.iload_n 1, 1) := by decide +kernel
theorem dX5_opens_19 : decode cX5_opens 19 = .ok (.iload_n 2, 1) := by decide +kernel
theorem dX5_opens_20 : decode cX5_opens 20 = .ok (.invokevirtual 104, 3) := by decide +kernel
theorem dX5_opens_23 : decode cX5_opens 23 = .ok (.istore_n 3, 1) := by decide +kernel
theorem dX5_opens_24 : decode cX5_opens 24 = .ok (.iload_n 3, 1) := by decide +kernel
theorem dX5_opens_25 : decode cX5_opens 25 = .ok (.sipush 1000, 3) := by decide +kernel
theorem dX5_opens_28 : decode cX5_opens 28 = .ok (.if_icmp .ne 8, 3) := by decide +kernel
theorem dX5_opens_31 : decode cX5_opens 31 = .ok (.bipush (-6), 2) := by decide +kernel
theorem dX5_opens_33 : decode cX5_opens 33 = .ok (.goto 4, 3) := by decide +kernel
theorem dX5_opens_36 : decode cX5_opens 36 = .ok (.iload_n 3, 1) := by decide +kernel
theorem dX5_opens_37 : decode cX5_opens 37 = .ok (.ireturn, 1) := by decide +kernel
set_option maxRecDepth 20000 in
theorem ggX5_never_X5_rulersBy : GoodIn wsX5_never wsX5_rulersBy := goodIn_r _ [6, 7, 8, 9, 5, 10, 11, 12, 13, 14, 15, 16, 17, 18, 19, 20, 21, 22, 23, 24, 1, 25, 26, 27, 28, 29, 30, 31, 32, 33, 34, 35, 36, 37, 38, 39, 40, 41, 42, 43, 44, 45, 46, 47, 48, 49, 50, 51, 52, 53, 54, 55] (by decide +kernel) (by decide +kernel)
set_option maxRecDepth 20000 in
theorem gX5_never_X5_rulersBy : GoodIn wsX5_never (wsV RX5 111 RX5 yX5_rulersBy wsX5_rulersBy) := goodIn_app (goodIn_of _ (by decide +kernel)) ggX5_never_X5_rulersBy
theorem dX5_never_0 : decode cX5_never 0 = .ok (.iconst 0, 1) := by decide +kernel
theorem dX5_never_1 : decode cX5_never 1 = .ok (.istore_n 1, 1) := by decide +kernel
theorem dX5_never_2 : decode cX5_never 2 = .ok (.iconst 0, 1) := by decide +kernel
theorem dX5_never_3 : decode cX5_never 3 = .ok (.istore_n 2, 1) := by decide +kernel
theorem dX5_never_4 : decode cX5_never 4 = .ok (.iload_n 2, 1) := by decide +kernel
theorem dX5_never_5 : decode cX5_never 5 = .ok (.bipush 10, 2) := by decide +kernel
theorem dX5_never_7 : decode cX5_never 7 = .ok (.if_icmp .ge 17, 3) := by decide +kernel
theorem dX5_never_10 : decode cX5_never 10 = .ok (.iload_n 1, 1) := by decide +kernel
theorem dX5_never_11 : decode cX5_never 11 = .ok (.aload_n 0, 1) := by decide +kernel
theorem dX5_never_12 : decode cX5_never 12 = .ok (.iload_n 2, 1) := by decide +kernel
theorem dX5_never_13 : decode cX5_never 13 = .ok (.invokevirtual 111, 3) := by decide +kernel
theorem dX5_never_16 : decode cX5_never 16 = .ok (.ior, 1) := by decide +kernel
theorem dX5_never_17 : decode cX5_never 17 = .ok (.istore_n 1, 1) := by decide +kernel
theorem dX5_never_18 : decode cX5_never 18 = .ok (.iinc 2 1, 3) := by decide +kernel
theorem dX5_never_21 : decode cX5_never 21 = .ok (.goto (-17), 3) := by decide +kernel
theorem dX5_never_24 : decode cX5_never 24 = .ok (.aload_n 0, 1) := by decide +kernel
theorem dX5_never_25 : decode cX5_never 25 = .ok (.getfield 63, 3) := by decide +kernel
theorem dX5_never_28 : decode cX5_never 28 = .ok (.iload_n 1, 1) := by decide +kernel
theorem dX5_never_29 : decode cX5_never 29 = .ok (.iconst (-1), 1) := by decide +kernel
theorem dX5_never_30 : decode cX5_never 30 = .ok (.ixor, 1) := by decide +kernel
theorem dX5_never_31 : decode cX5_never 31 = .ok (.iand, 1) := by decide +kernel
theorem dX5_never_32 : decode cX5_never 32 = .ok (.ireturn, 1) := by decide +kernel
theorem dX5_rule_0 : decode cX5_rule 0 = .ok (.aload_n 0, 1) := by decide +kernel
theorem dX5_rule_1 : decode cX5_rule 1 = .ok (.dup, 1) := by decide +kernel
theorem dX5_rule_2 : decode cX5_rule 2 = .ok (.getfield 114, 3) := by decide +kernel
theorem dX5_rule_5 : decode cX5_rule 5 = .ok (.iload_n 1, 1) := by decide +kernel
theorem dX5_rule_6 : decode cX5_rule 6 = .ok (.ifCond .eq 15, 3) := by decide +kernel
theorem dX5_rule_9 : decode cX5_rule 9 = .ok (.iload_n 1, 1) := by decide +kernel
theorem dX5_rule_10 : decode cX5_rule 10 = .ok (.aload_n 0, 1) := by decide +kernel
theorem dX5_rule_11 : decode cX5_rule 11 = .ok (.getfield 117, 3) := by decide +kernel
theorem dX5_rule_14 : decode cX5_rule 14 = .ok (.if_icmp .eq 7, 3) := by decide +kernel
theorem dX5_rule_17 : decode cX5_rule 17 = .ok (.iconst 1, 1) := by decide +kernel
theorem dX5_rule_18 : decode cX5_rule 18 = .ok (.goto 4, 3) := by decide +kernel
theorem dX5_rule_21 : decode cX5_rule 21 = .ok (.iconst 0, 1) := by decide +kernel
theorem dX5_rule_22 : decode cX5_rule 22 = .ok (.iadd, 1) := by decide +kernel
theorem dX5_rule_23 : decode cX5_rule 23 = .ok (.putfield 114, 3) := by decide +kernel
theorem dX5_rule_26 : decode cX5_rule 26 = .ok (.aload_n 0, 1) := by decide +kernel
theorem dX5_rule_27 : decode cX5_rule 27 = .ok (.iload_n 1, 1) := by decide +kernel
theorem dX5_rule_28 : decode cX5_rule 28 = .ok (.putfield 117, 3) := by decide +kernel
theorem dX5_rule_31 : decode cX5_rule 31 = .ok (.return_, 1) := by decide +kernel
theorem dX5_goYears_0 : decode cX5_goYears 0 = .ok (.iconst 0, 1) := by decide +kernel
theorem dX5_goYears_1 : decode cX5_goYears 1 = .ok (.istore_n 2, 1) := by decide +kernel
theorem dX5_goYears_2 : decode cX5_goYears 2 = .ok (.iconst 0, 1) := by decide +kernel
theorem dX5_goYears_3 : decode cX5_goYears 3 = .ok (.istore_n 3, 1) := by decide +kernel
theorem dX5_goYears_4 : decode cX5_goYears 4 = .ok (.iload_n 3, 1) := by decide +kernel
theorem dX5_goYears_5 : decode cX5_goYears 5 = .ok (.bipush 6, 2) := by decide +kernel
theorem dX5_goYears_7 : decode cX5_goYears 7 = .ok (.if_icmp .ge 67, 3) := by decide +kernel
theorem dX5_goYears_10 : decode cX5_goYears 10 = .ok (.aload_n 0, 1) := by decide +kernel
theorem dX5_goYears_11 : decode cX5_goYears 11 = .ok (.getfield 117, 3) := by decide +kernel
theorem dX5_goYears_14 : decode cX5_goYears 14 = .ok (.iload_n 3, 1) := by decide +kernel
theorem dX5_goYears_15 : decode cX5_goYears 15 = .ok (.ishr, 1) := by decide +kernel
theorem dX5_goYears_16 : decode cX5_goYears 16 = .ok (.iconst 1, 1) := by decide +kernel
theorem dX5_goYears_17 : decode cX5_goYears 17 = .ok (.iand, 1) := by decide +kernel
theorem dX5_goYears_18 : decode cX5_goYears 18 = .ok (.iconst 1, 1) := by decide +kernel
theorem dX5_goYears_19 : decode cX5_goYears 19 = .ok (.if_icmp .ne 7, 3) := by decide +kernel
theorem dX5_goYears_22 : decode cX5_goYears 22 = .ok (.iconst 1, 1) := by decide +kernel
theorem dX5_goYears_23 : decode cX5_goYears 23 = .ok (.goto 4, 3) := by decide +kernel
theorem dX5_goYears_26 : decode cX5_goYears 26 = .ok (.iconst 0, 1) := by decide +kernel
theorem dX5_goYears_27 : decode cX5_goYears 27 = .ok (.istore 4, 2) := by decide +kernel
theorem dX5_goYears_29 : decode cX5_goYears 29 = .ok (.aload_n 0, 1) := by decide +kernel
theorem dX5_goYears_30 : decode cX5_goYears 30 = .ok (.getfield 31, 3) := by decide +kernel
theorem dX5_goYears_33 : decode cX5_goYears 33 = .ok (.iload_n 3, 1) := by decide +kernel
theorem dX5_goYears_34 : decode cX5_goYears 34 = .ok (.dup2, 1) := by decide +kernel
theorem dX5_goYears_35 : decode cX5_goYears 35 = .ok (.iaload, 1) := by decide +kernel
theorem dX5_goYears_36 : decode cX5_goYears 36 = .ok (.iload 4, 2) := by decide +kernel
theorem dX5_goYears_38 : decode cX5_goYears 38 = .ok (.ifCond .eq 7, 3) := by decide +kernel
theorem dX5_goYears_41 : decode cX5_goYears 41 = .ok (.iload_n 1, 1) := by decide +kernel
theorem dX5_goYears_42 : decode cX5_goYears 42 = .ok (.goto 4, 3) := by decide +kernel
theorem dX5_goYears_45 : decode cX5_goYears 45 = .ok (.iconst 0, 1) := by decide +kernel
theorem dX5_goYears_46 : decode cX5_goYears 46 = .ok (.iadd, 1) := by decide +kernel
theorem dX5_goYears_47 : decode cX5_goYears 47 = .ok (.iastore, 1) := by decide +kernel
theorem dX5_goYears_48 : decode cX5_goYears 48 = .ok (.iload_n 2, 1) := by decide +kernel
theorem dX5_goYears_49 : decode cX5_goYears 49 = .ok (.iload 4, 2) := by decide +kernel
theorem dX5_goYears_51 : decode cX5_goYears 51 = .ok (.ifCond .eq 14, 3) := by decide +kernel
theorem dX5_goYears_54 : decode cX5_goYears 54 = .ok (.iconst 1, 1) := by decide +kernel
theorem dX5_goYears_55 : decode cX5_goYears 55 = .ok (.aload_n 0, 1) := by decide +kernel
theorem dX5_goYears_56 : decode cX5_goYears 56 = .ok (.getfield 16, 3) := by decide +kernel
theorem dX5_goYears_59 : decode cX5_goYears 59 = .ok (.iload_n 3, 1) := by decide +kernel
theorem dX5_goYears_60 : decode cX5_goYears 60 = .ok (.iaload, 1) := by decide +kernel
theorem dX5_goYears_61 : decode cX5_goYears 61 = .ok (.ishl, 1) := by decide +kernel
theorem dX5_goYears_62 : decode cX5_goYears 62 = .ok (.goto 4, 3) := by decide +kernel
theorem dX5_goYears_65 : decode cX5_goYears 65 = .ok (.iconst 0, 1) := by decide +kernel
theorem dX5_goYears_66 : decode cX5_goYears 66 = .ok (.ior, 1) := by decide +kernel
theorem dX5_goYears_67 : decode cX5_goYears 67 = .ok (.istore_n 2, 1) := by decide +kernel
theorem dX5_goYears_68 : decode cX5_goYears 68 = .ok (.iinc 3 1, 3) := by decide +kernel
theorem dX5_goYears_71 : decode cX5_goYears 71 = .ok (.goto (-67), 3) := by decide +kernel
theorem dX5_goYears_74 : decode cX5_goYears 74 = .ok (.aload_n 0, 1) := by decide +kernel
theorem dX5_goYears_75 : decode cX5_goYears 75 = .ok (.getfield 31, 3) := by decide +kernel
theorem dX5_goYears_78 : decode cX5_goYears 78 = .ok (.bipush 6, 2) := by decide +kernel
theorem dX5_goYears_80 : decode cX5_goYears 80 = .ok (.dup2, 1) := by decide +kernel
theorem dX5_goYears_81 : decode cX5_goYears 81 = .ok (.iaload, 1) := by decide +kernel
theorem dX5_goYears_82 : decode cX5_goYears 82 = .ok (.iload_n 2, 1) := by decide +kernel
theorem dX5_goYears_83 : decode cX5_goYears 83 = .ok (.iconst 1, 1) := by decide +kernel
theorem dX5_goYears_84 : decode cX5_goYears 84 = .ok (.iand, 1) := by decide +kernel
theorem dX5_goYears_85 : decode cX5_goYears 85 = .ok (.iconst 1, 1) := by decide +kernel
theorem dX5_goYears_86 : decode cX5_goYears 86 = .ok (.if_icmp .ne 7, 3) := by decide +kernel
theorem dX5_goYears_89 : decode cX5_goYears 89 = .ok (.iload_n 1, 1) := by decide +kernel
theorem dX5_goYears_90 : decode cX5_goYears 90 = .ok (.goto 4, 3) := by decide +kernel
theorem dX5_goYears_93 : decode cX5_goYears 93 = .ok (.iconst 0, 1) := by decide +kernel
theorem dX5_goYears_94 : decode cX5_goYears 94 = .ok (.iadd, 1) := by decide +kernel
theorem dX5_goYears_95 : decode cX5_goYears 95 = .ok (.iastore, 1) := by decide +kernel
theorem dX5_goYears_96 : decode cX5_goYears 96 = .ok (.aload_n 0, 1) := by decide +kernel
theorem dX5_goYears_97 : decode cX5_goYears 97 = .ok (.getfield 31, 3) := by decide +kernel
theorem dX5_goYears_100 : decode cX5_goYears 100 = .ok (.bipush 7, 2) := by decide +kernel
theorem dX5_goYears_102 : decode cX5_goYears 102 = .ok (.dup2, 1) := by decide +kernel
theorem dX5_goYears_103 : decode cX5_goYears 103 = .ok (.iaload, 1) := by decide +kernel
theorem dX5_goYears_104 : decode cX5_goYears 104 = .ok (.iload_n 2, 1) := by decide +kernel
theorem dX5_goYears_105 : decode cX5_goYears 105 = .ok (.iconst 1, 1) := by decide +kernel
theorem dX5_goYears_106 : decode cX5_goYears 106 = .ok (.if_icmp .le 7, 3) := by decide +kernel
theorem dX5_goYears_109 : decode cX5_goYears 109 = .ok (.iload_n 1, 1) := by decide +kernel
theorem dX5_goYears_110 : decode cX5_goYears 110 = .ok (.goto 4, 3) := by decide +kernel
theorem dX5_goYears_113 : decode cX5_goYears 113 = .ok (.iconst 0, 1) := by decide +kernel
theorem dX5_goYears_114 : decode cX5_goYears 114 = .ok (.iadd, 1) := by decide +kernel
theorem dX5_goYears_115 : decode cX5_goYears 115 = .ok (.iastore, 1) := by decide +kernel
theorem dX5_goYears_116 : decode cX5_goYears 116 = .ok (.aload_n 0, 1) := by decide +kernel
theorem dX5_goYears_117 : decode cX5_goYears 117 = .ok (.getfield 31, 3) := by decide +kernel
theorem dX5_goYears_120 : decode cX5_goYears 120 = .ok (.bipush 8, 2) := by decide +kernel
theorem dX5_goYears_122 : decode cX5_goYears 122 = .ok (.dup2, 1) := by decide +kernel
theorem dX5_goYears_123 : decode cX5_goYears 123 = .ok (.iaload, 1) := by decide +kernel
theorem dX5_goYears_124 : decode cX5_goYears 124 = .ok (.aload_n 0, 1) := by decide +kernel
theorem dX5_goYears_125 : decode cX5_goYears 125 = .ok (.getfield 117, 3) := by decide +kernel
theorem dX5_goYears_128 : decode cX5_goYears 128 = .ok (.ifCond .ne 7, 3) := by decide +kernel
theorem dX5_goYears_131 : decode cX5_goYears 131 = .ok (.iload_n 1, 1) := by decide +kernel
theorem dX5_goYears_132 : decode cX5_goYears 132 = .ok (.goto 4, 3) := by decide +kernel
theorem dX5_goYears_135 : decode cX5_goYears 135 = .ok (.iconst 0, 1) := by decide +kernel
theorem dX5_goYears_136 : decode cX5_goYears 136 = .ok (.iadd, 1) := by decide +kernel
theorem dX5_goYears_137 : decode cX5_goYears 137 = .ok (.iastore, 1) := by decide +kernel
theorem dX5_goYears_138 : decode cX5_goYears 138 = .ok (.return_, 1) := by decide +kernel
set_option maxRecDepth 20000 in
theorem ggX5_happen_X5_goYears : GoodIn wsX5_happen wsX5_goYears := goodIn_r _ [7, 2, 8, 9, 48, 49, 50, 51, 52, 53, 54, 55, 56, 57, 58, 59, 60, 61, 62, 63, 64, 65, 66, 67, 68, 69, 70, 71] (by decide +kernel) (by decide +kernel)
set_option maxRecDepth 20000 in
theorem gX5_happen_X5_goYears : GoodIn wsX5_happen (wsV RX5 120 RX5 yX5_goYears wsX5_goYears) := goodIn_app (goodIn_of _ (by decide +kernel)) ggX5_happen_X5_goYears
set_option maxRecDepth 20000 in
theorem ggX5_happen_X5_rule : GoodIn wsX5_happen wsX5_rule := goodIn_r _ [13, 14, 2, 48, 49, 50, 51, 52, 53, 54, 55, 56, 57, 58, 59, 60, 61, 62, 63, 64, 65, 66, 67, 68, 69, 70, 71] (by decide +kernel) (by decide +kernel)
set_option maxRecDepth 20000 in
theorem gX5_happen_X5_rule : GoodIn wsX5_happen (wsV RX5 124 RX5 yX5_rule wsX5_rule) := goodIn_app (goodIn_of _ (by decide +kernel)) ggX5_happen_X5_rule
set_option maxRecDepth 20000 in
theorem ggX5_happen_X5_isThere : GoodIn wsX5_happen wsX5_isThere := goodIn_r _ [18, 19, 20, 21, 6, 22, 23, 24, 25, 26, 48, 49, 50, 51, 52, 53, 54, 55, 56, 57, 58, 59, 60, 61, 62, 63, 64, 65, 66, 67, 68, 69, 70, 71] (by decide +kernel) (by decide +kernel)
set_option maxRecDepth 20000 in
theorem gX5_happen_X5_isThere : GoodIn wsX5_happen (wsV RX5 76 RX5 yX5_isThere wsX5_isThere) := goodIn_app (goodIn_of _ (by decide +kernel)) ggX5_happen_X5_isThere
set_option maxRecDepth 20000 in
theorem ggX5_happen_X5_rulersBy : GoodIn wsX5_happen wsX5_rulersBy := goodIn_r _ [30, 31, 32, 33, 6, 34, 35, 36, 37, 38, 1, 39, 40, 41, 42, 43, 15, 16, 17, 18, 19, 20, 21, 22, 23, 24, 25, 26, 48, 49, 50, 51, 52, 53, 54, 55, 56, 57, 58, 59, 60, 61, 62, 63, 64, 65, 66, 67, 68, 69, 70, 71] (by decide +kernel) (by decide +kernel)
set_option maxRecDepth 20000 in
theorem gX5_happen_X5_rulersBy : GoodIn wsX5_happen (wsV RX5 111 RX5 yX5_rulersBy wsX5_rulersBy) := goodIn_app (goodIn_of _ (by decide +kernel)) ggX5_happen_X5_rulersBy
set_option maxRecDepth 20000 in
theorem ggX5_happen_X5_sprinkledBy : GoodIn wsX5_happen wsX5_sprinkledBy := goodIn_r _ [47, 39, 35, 36, 37, 6, 38, 1, 40, 41, 42, 43, 15, 16, 17, 18, 19, 20, 21, 22, 23, 24, 25, 26, 48, 49, 50, 51, 52, 53, 54, 55, 56, 57, 58, 59, 60, 61, 62, 63, 64, 65, 66, 67, 68, 69, 70, 71] (by decide +kernel) (by decide +kernel)
set_option maxRecDepth 20000 in
theorem gX5_happen_X5_sprinkledBy : GoodIn wsX5_happen (wsV RX5 127 RX5 yX5_sprinkledBy wsX5_sprinkledBy) := goodIn_app (goodIn_of _ (by decide +kernel)) ggX5_happen_X5_sprinkledBy
theorem dX5_happen_0 : decode cX5_happen 0 = .ok (.iload_n 1, 1) := by decide +kernel
theorem dX5_happen_1 : decode cX5_happen 1 = .ok (.ifCond .ne 17, 3) := by decide +kernel
theorem dX5_happen_4 : decode cX5_happen 4 = .ok (.iload_n 2, 1) := by decide +kernel
theorem dX5_happen_5 : decode cX5_happen 5 = .ok (.bipush 46, 2) := by decide +kernel
theorem dX5_happen_7 : decode cX5_happen 7 = .ok (.if_icmp .ne 11, 3) := by decide +kernel
theorem dX5_happen_10 : decode cX5_happen 10 = .ok (.aload_n 0, 1) := by decide +kernel
theorem dX5_happen_11 : decode cX5_happen 11 = .ok (.iconst 1, 1) := by decide +kernel
theorem dX5_happen_12 : decode cX5_happen 12 = .ok (.invokevirtual 120, 3) := by decide +kernel
theorem dX5_happen_15 : decode cX5_happen 15 = .ok (.goto 113, 3) := by decide +kernel
theorem dX5_happen_18 : decode cX5_happen 18 = .ok (.iload_n 1, 1) := by decide +kernel
theorem dX5_happen_19 : decode cX5_happen 19 = .ok (.bipush 45, 2) := by decide +kernel
theorem dX5_happen_21 : decode cX5_happen 21 = .ok (.if_icmp .ne 19, 3) := by decide +kernel
theorem dX5_happen_24 : decode cX5_happen 24 = .ok (.aload_n 0, 1) := by decide +kernel
theorem dX5_happen_25 : decode cX5_happen 25 = .ok (.iconst 0, 1) := by decide +kernel
theorem dX5_happen_26 : decode cX5_happen 26 = .ok (.invokevirtual 124, 3) := by decide +kernel
theorem dX5_happen_29 : decode cX5_happen 29 = .ok (.aload_n 0, 1) := by decide +kernel
theorem dX5_happen_30 : decode cX5_happen 30 = .ok (.iload_n 2, 1) := by decide +kernel
theorem dX5_happen_31 : decode cX5_happen 31 = .ok (.bipush 48, 2) := by decide +kernel
theorem dX5_happen_33 : decode cX5_happen 33 = .ok (.isub, 1) := by decide +kernel
theorem dX5_happen_34 : decode cX5_happen 34 = .ok (.invokevirtual 120, 3) := by decide +kernel
theorem dX5_happen_37 : decode cX5_happen 37 = .ok (.goto 91, 3) := by decide +kernel
theorem dX5_happen_40 : decode cX5_happen 40 = .ok (.iload_n 1, 1) := by decide +kernel
theorem dX5_happen_41 : decode cX5_happen 41 = .ok (.bipush 126, 2) := by decide +kernel
theorem dX5_happen_43 : decode cX5_happen 43 = .ok (.if_icmp .ne 45, 3) := by decide +kernel
theorem dX5_happen_46 : decode cX5_happen 46 = .ok (.iload_n 2, 1) := by decide +kernel
theorem dX5_happen_47 : decode cX5_happen 47 = .ok (.bipush 65, 2) := by decide +kernel
theorem dX5_happen_49 : decode cX5_happen 49 = .ok (.isub, 1) := by decide +kernel
theorem dX5_happen_50 : decode cX5_happen 50 = .ok (.istore_n 3, 1) := by decide +kernel
theorem dX5_happen_51 : decode cX5_happen 51 = .ok (.aload_n 0, 1) := by decide +kernel
theorem dX5_happen_52 : decode cX5_happen 52 = .ok (.iload_n 3, 1) := by decide +kernel
theorem dX5_happen_53 : decode cX5_happen 53 = .ok (.invokevirtual 76, 3) := by decide +kernel
theorem dX5_happen_56 : decode cX5_happen 56 = .ok (.ifCond .eq 29, 3) := by decide +kernel
theorem dX5_happen_59 : decode cX5_happen 59 = .ok (.aload_n 0, 1) := by decide +kernel
theorem dX5_happen_60 : decode cX5_happen 60 = .ok (.dup, 1) := by decide +kernel
theorem dX5_happen_61 : decode cX5_happen 61 = .ok (.getfield 69, 3) := by decide +kernel
theorem dX5_happen_64 : decode cX5_happen 64 = .ok (.iconst 1, 1) := by decide +kernel
theorem dX5_happen_65 : decode cX5_happen 65 = .ok (.iload_n 3, 1) := by decide +kernel
theorem dX5_happen_66 : decode cX5_happen 66 = .ok (.ishl, 1) := by decide +kernel
theorem dX5_happen_67 : decode cX5_happen 67 = .ok (.ior, 1) := by decide +kernel
theorem dX5_happen_68 : decode cX5_happen 68 = .ok (.putfield 69, 3) := by decide +kernel
theorem dX5_happen_71 : decode cX5_happen 71 = .ok (.aload_n 0, 1) := by decide +kernel
theorem dX5_happen_72 : decode cX5_happen 72 = .ok (.aload_n 0, 1) := by decide +kernel
theorem dX5_happen_73 : decode cX5_happen 73 = .ok (.getfield 117, 3) := by decide +kernel
theorem dX5_happen_76 : decode cX5_happen 76 = .ok (.iconst 1, 1) := by decide +kernel
theorem dX5_happen_77 : decode cX5_happen 77 = .ok (.iload_n 3, 1) := by decide +kernel
theorem dX5_happen_78 : decode cX5_happen 78 = .ok (.ishl, 1) := by decide +kernel
theorem dX5_happen_79 : decode cX5_happen 79 = .ok (.iconst (-1), 1) := by decide +kernel
theorem dX5_happen_80 : decode cX5_happen 80 = .ok (.ixor, 1) := by decide +kernel
theorem dX5_happen_81 : decode cX5_happen 81 = .ok (.iand, 1) := by decide +kernel
theorem dX5_happen_82 : decode cX5_happen 82 = .ok (.invokevirtual 124, 3) := by decide +kernel
theorem dX5_happen_85 : decode cX5_happen 85 = .ok (.goto 43, 3) := by decide +kernel
theorem dX5_happen_88 : decode cX5_happen 88 = .ok (.iload_n 1, 1) := by decide +kernel
theorem dX5_happen_89 : decode cX5_happen 89 = .ok (.ifCond .ne 14, 3) := by decide +kernel
theorem dX5_happen_92 : decode cX5_happen 92 = .ok (.aload_n 0, 1) := by decide +kernel
theorem dX5_happen_93 : decode cX5_happen 93 = .ok (.iload_n 2, 1) := by decide +kernel
theorem dX5_happen_94 : decode cX5_happen 94 = .ok (.bipush 48, 2) := by decide +kernel
theorem dX5_happen_96 : decode cX5_happen 96 = .ok (.isub, 1) := by decide +kernel
theorem dX5_happen_97 : decode cX5_happen 97 = .ok (.invokevirtual 111, 3) := by decide +kernel
theorem dX5_happen_100 : decode cX5_happen 100 = .ok (.goto 11, 3) := by decide +kernel
theorem dX5_happen_103 : decode cX5_happen 103 = .ok (.aload_n 0, 1) := by decide +kernel
theorem dX5_happen_104 : decode cX5_happen 104 = .ok (.iload_n 2, 1) := by decide +kernel
theorem dX5_happen_105 : decode cX5_happen 105 = .ok (.bipush 48, 2) := by decide +kernel
theorem dX5_happen_107 : decode cX5_happen 107 = .ok (.isub, 1) := by decide +kernel
theorem dX5_happen_108 : decode cX5_happen 108 = .ok (.invokevirtual 127, 3) := by decide +kernel
theorem dX5_happen_111 : decode cX5_happen 111 = .ok (.istore_n 3, 1) := by decide +kernel
theorem dX5_happen_112 : decode cX5_happen 112 = .ok (.aload_n 0, 1) := by decide +kernel
theorem dX5_happen_113 : decode cX5_happen 113 = .ok (.iload_n 3, 1) := by decide +kernel
theorem dX5_happen_114 : decode cX5_happen 114 = .ok (.ifCond .ne 10, 3) := by decide +kernel
theorem dX5_happen_117 : decode cX5_happen 117 = .ok (.aload_n 0, 1) := by decide +kernel
theorem dX5_happen_118 : decode cX5_happen 118 = .ok (.getfield 117, 3) := by decide +kernel
theorem dX5_happen_121 : decode cX5_happen 121 = .ok (.goto 4, 3) := by decide +kernel
theorem dX5_happen_124 : decode cX5_happen 124 = .ok (.iload_n 3, 1) := by decide +kernel
theorem dX5_happen_125 : decode cX5_happen 125 = .ok (.invokevirtual 124, 3) := by decide +kernel
theorem dX5_happen_128 : decode cX5_happen 128 = .ok (.return_, 1) := by decide +kernel
set_option maxRecDepth 20000 in
theorem ggX5_goParts_X5_isOpening : GoodIn wsX5_goParts wsX5_isOpening := goodIn_r _ [10] (by decide +kernel) (by decide +kernel)
set_option maxRecDepth 20000 in
theorem gX5_goParts_X5_isOpening : GoodIn wsX5_goParts (va_wsS RX5 101 yX5_isOpening wsX5_isOpening) := goodIn_app (goodIn_of _ (by decide +kernel)) ggX5_goParts_X5_isOpening
set_option maxRecDepth 20000 in
theorem ggX5_goParts_X5_happen : GoodIn wsX5_goParts wsX5_happen := goodIn_r _ [14, 4, 3, 15, 16, 17, 9, 18, 1, 19, 20, 21, 22, 23, 2, 24, 25, 26, 27, 28, 29, 30, 31, 32, 33, 34, 35, 36, 37, 38, 39, 40, 41, 42, 43, 44, 45, 46, 47, 48, 49, 50, 51, 52, 53, 54, 55, 56, 57, 58, 59, 60, 61, 62, 63, 64, 65, 66, 67, 68, 69, 70, 71, 72, 73, 74, 75, 76, 77, 78, 79, 80] (by decide +kernel) (by decide +kernel)
set_option maxRecDepth 20000 in
theorem gX5_goParts_X5_happen : GoodIn wsX5_goParts (wsV RX5 130 RX5 yX5_happen wsX5_happen) := goodIn_app (goodIn_of _ (by decide +kernel)) ggX5_goParts_X5_happen
theorem dX5_goParts_0 : decode cX5_goParts 0 = .ok (.iconst 0, 1) := by decide +kernel
theorem dX5_goParts_1 : decode cX5_goParts 1 = .ok (.istore_n 2, 1) := by decide +kernel
theorem dX5_goParts_2 : decode cX5_goParts 2 = .ok (.iload_n 2, 1) := by decide +kernel
theorem dX5_goParts_3 : decode cX5_goParts 3 = .ok (.bipush 9, 2) := by decide +kernel
theorem dX5_goParts_5 : decode cX5_goParts 5 = .ok (.if_icmp .ge 16, 3) := by decide +kernel
theorem dX5_goParts_8 : decode cX5_goParts 8 = .ok (.aload_n 0, 1) := by decide +kernel
theorem dX5_goParts_9 : decode cX5_goParts 9 = .ok (.getfield 31, 3) := by decide +kernel
theorem dX5_goParts_12 : decode cX5_goParts 12 = .ok (.iload_n 2, 1) := by decide +kernel
theorem dX5_goParts_13 : decode cX5_goParts 13 = .ok (.iconst 0, 1) := by decide +kernel
theorem dX5_goParts_14 : decode cX5_goParts 14 = .ok (.iastore, 1) := by decide +kernel
theorem dX5_goParts_15 : decode cX5_goParts 15 = .ok (.iinc 2 1, 3) := by decide +kernel
theorem dX5_goParts_18 : decode cX5_goParts 18 = .ok (.goto (-16), 3) := by decide +kernel
theorem dX5_goParts_21 : decode cX5_goParts 21 = .ok (.aload_n 0, 1) := by decide +kernel
theorem dX5_goParts_22 : decode cX5_goParts 22 = .ok (.iconst 0, 1) := by decide +kernel
theorem dX5_goParts_23 : decode cX5_goParts 23 = .ok (.putfield 114, 3) := by decide +kernel
theorem dX5_goParts_26 : decode cX5_goParts 26 = .ok (.aload_n 0, 1) := by decide +kernel
theorem dX5_goParts_27 : decode cX5_goParts 27 = .ok (.iconst 0, 1) := by decide +kernel
theorem dX5_goParts_28 : decode cX5_goParts 28 = .ok (.putfield 117, 3) := by decide +kernel
theorem dX5_goParts_31 : decode cX5_goParts 31 = .ok (.aload_n 0, 1) := by decide +kernel
theorem dX5_goParts_32 : decode cX5_goParts 32 = .ok (.getfield 69, 3) := by decide +kernel
theorem dX5_goParts_35 : decode cX5_goParts 35 = .ok (.istore_n 2, 1) := by decide +kernel
theorem dX5_goParts_36 : decode cX5_goParts 36 = .ok (.iconst 0, 1) := by decide +kernel
theorem dX5_goParts_37 : decode cX5_goParts 37 = .ok (.istore_n 3, 1) := by decide +kernel
theorem dX5_goParts_38 : decode cX5_goParts 38 = .ok (.iconst 0, 1) := by decide +kernel
theorem dX5_goParts_39 : decode cX5_goParts 39 = .ok (.istore 4, 2) := by decide +kernel
theorem dX5_goParts_41 : decode cX5_goParts 41 = .ok (.iconst 0, 1) := by decide +kernel
theorem dX5_goParts_42 : decode cX5_goParts 42 = .ok (.istore 5, 2) := by decide +kernel
theorem dX5_goParts_44 : decode cX5_goParts 44 = .ok (.iload 5, 2) := by decide +kernel
theorem dX5_goParts_46 : decode cX5_goParts 46 = .ok (.aload_n 0, 1) := by decide +kernel
theorem dX5_goParts_47 : decode cX5_goParts 47 = .ok (.getfield 86, 3) := by decide +kernel
theorem dX5_goParts_50 : decode cX5_goParts 50 = .ok (.if_icmp .ge 61, 3) := by decide +kernel
theorem dX5_goParts_53 : decode cX5_goParts 53 = .ok (.aload_n 0, 1) := by decide +kernel
theorem dX5_goParts_54 : decode cX5_goParts 54 = .ok (.getfield 28, 3) := by decide +kernel
theorem dX5_goParts_57 : decode cX5_goParts 57 = .ok (.iload 5, 2) := by decide +kernel
theorem dX5_goParts_59 : decode cX5_goParts 59 = .ok (.iaload, 1) := by decide +kernel
theorem dX5_goParts_60 : decode cX5_goParts 60 = .ok (.iload_n 3, 1) := by decide +kernel
theorem dX5_goParts_61 : decode cX5_goParts 61 = .ok (.invokestatic 101, 3) := by decide +kernel
theorem dX5_goParts_64 : decode cX5_goParts 64 = .ok (.ifCond .eq 14, 3) := by decide +kernel
theorem dX5_goParts_67 : decode cX5_goParts 67 = .ok (.aload_n 0, 1) := by decide +kernel
theorem dX5_goParts_68 : decode cX5_goParts 68 = .ok (.getfield 28, 3) := by decide +kernel
theorem dX5_goParts_71 : decode cX5_goParts 71 = .ok (.iload 5, 2) := by decide +kernel
theorem dX5_goParts_73 : decode cX5_goParts 73 = .ok (.iaload, 1) := by decide +kernel
theorem dX5_goParts_74 : decode cX5_goParts 74 = .ok (.istore_n 3, 1) := by decide +kernel
theorem dX5_goParts_75 : decode cX5_goParts 75 = .ok (.goto 30, 3) := by decide +kernel
theorem dX5_goParts_78 : decode cX5_goParts 78 = .ok (.iload_n 1, 1) := by decide +kernel
theorem dX5_goParts_79 : decode cX5_goParts 79 = .ok (.ifCond .lt 9, 3) := by decide +kernel
theorem dX5_goParts_82 : decode cX5_goParts 82 = .ok (.iload 4, 2) := by decide +kernel
theorem dX5_goParts_84 : decode cX5_goParts 84 = .ok (.iload_n 1, 1) := by decide +kernel
theorem dX5_goParts_85 : decode cX5_goParts 85 = .ok (.if_icmp .ge 15, 3) := by decide +kernel
theorem dX5_goParts_88 : decode cX5_goParts 88 = .ok (.aload_n 0, 1) := by decide +kernel
theorem dX5_goParts_89 : decode cX5_goParts 89 = .ok (.iload_n 3, 1) := by decide +kernel
theorem dX5_goParts_90 : decode cX5_goParts 90 = .ok (.aload_n 0, 1) := by decide +kernel
theorem dX5_goParts_91 : decode cX5_goParts 91 = .ok (.getfield 28, 3) := by decide +kernel
theorem dX5_goParts_94 : decode cX5_goParts 94 = .ok (.iload 5, 2) := by decide +kernel
theorem dX5_goParts_96 : decode cX5_goParts 96 = .ok (.iaload, 1) := by decide +kernel
theorem dX5_goParts_97 : decode cX5_goParts 97 = .ok (.invokevirtual 130, 3) := by decide +kernel
theorem dX5_goParts_100 : decode cX5_goParts 100 = .ok (.iinc 4 1, 3) := by decide +kernel
theorem dX5_goParts_103 : decode cX5_goParts 103 = .ok (.iconst 0, 1) := by decide +kernel
theorem dX5_goParts_104 : decode cX5_goParts 104 = .ok (.istore_n 3, 1) := by decide +kernel
theorem dX5_goParts_105 : decode cX5_goParts 105 = .ok (.iinc 5 1, 3) := by decide +kernel
theorem dX5_goParts_108 : decode cX5_goParts 108 = .ok (.goto (-64), 3) := by decide +kernel
theorem dX5_goParts_111 : decode cX5_goParts 111 = .ok (.aload_n 0, 1) := by decide +kernel
theorem dX5_goParts_112 : decode cX5_goParts 112 = .ok (.iload_n 2, 1) := by decide +kernel
theorem dX5_goParts_113 : decode cX5_goParts 113 = .ok (.putfield 69, 3) := by decide +kernel
theorem dX5_goParts_116 : decode cX5_goParts 116 = .ok (.iload 4, 2) := by decide +kernel
theorem dX5_goParts_118 : decode cX5_goParts 118 = .ok (.ireturn, 1) := by decide +kernel
set_option maxRecDepth 20000 in
theorem ggX5_reign_X5_fault : GoodIn wsX5_reign wsX5_fault := goodIn_r _ [7, 8, 9, 10, 11, 6, 12, 13, 14, 15, 16, 17, 18, 19, 20, 21, 22, 73, 74, 75, 76, 77, 78, 79, 80, 81, 82, 83, 84, 85, 86, 87, 88, 89, 90, 91, 92, 93, 94, 95, 96] (by decide +kernel) (by decide +kernel)
set_option maxRecDepth 20000 in
theorem gX5_reign_X5_fault : GoodIn wsX5_reign (wsV RX5 134 RX5 yX5_fault wsX5_fault) := goodIn_app (goodIn_of _ (by decide +kernel)) ggX5_reign_X5_fault
set_option maxRecDepth 20000 in
theorem ggX5_reign_X5_goParts : GoodIn wsX5_reign wsX5_goParts := goodIn_r _ [26, 27, 28, 2, 29, 8, 9, 20, 21, 6, 22, 30, 31, 32, 33, 34, 35, 36, 37, 38, 39, 40, 41, 42, 43, 44, 45, 46, 47, 48, 49, 50, 51, 17, 18, 19, 52, 53, 54, 55, 56, 57, 58, 59, 60, 61, 62, 63, 64, 65, 66, 67, 68, 69, 70, 71, 72, 73, 74, 75, 76, 77, 78, 79, 80, 81, 82, 83, 84, 85, 86, 87, 88, 89, 90, 91, 92, 93, 94, 95, 96] (by decide +kernel) (by decide +kernel)
set_option maxRecDepth 20000 in
theorem gX5_reign_X5_goParts : GoodIn wsX5_reign (wsV RX5 138 RX5 yX5_goParts wsX5_goParts) := goodIn_app (goodIn_of _ (by decide +kernel)) ggX5_reign_X5_goParts
set_option maxRecDepth 20000 in
theorem ggX5_reign_X5_in : GoodIn wsX5_reign wsX5_in := goodIn_r _ [19] (by decide +kernel) (by decide +kernel)
set_option maxRecDepth 20000 in
theorem gX5_reign_X5_in : GoodIn wsX5_reign (va_wsS RX5 53 yX5_in wsX5_in) := goodIn_app (goodIn_of _ (by decide +kernel)) ggX5_reign_X5_in
theorem dX5_reign_0 : decode cX5_reign 0 = .ok (.aload_n 0, 1) := by decide +kernel
theorem dX5_reign_1 : decode cX5_reign 1 = .ok (.invokevirtual 134, 3) := by decide +kernel
theorem dX5_reign_4 : decode cX5_reign 4 = .ok (.ifCond .lt 6, 3) := by decide +kernel
theorem dX5_reign_7 : decode cX5_reign 7 = .ok (.bipush (-5), 2) := by decide +kernel
theorem dX5_reign_9 : decode cX5_reign 9 = .ok (.ireturn, 1) := by decide +kernel
theorem dX5_reign_10 : decode cX5_reign 10 = .ok (.aload_n 0, 1) := by decide +kernel
theorem dX5_reign_11 : decode cX5_reign 11 = .ok (.iload_n 1, 1) := by decide +kernel
theorem dX5_reign_12 : decode cX5_reign 12 = .ok (.invokevirtual 138, 3) := by decide +kernel
theorem dX5_reign_15 : decode cX5_reign 15 = .ok (.istore_n 2, 1) := by decide +kernel
theorem dX5_reign_16 : decode cX5_reign 16 = .ok (.iload_n 1, 1) := by decide +kernel
theorem dX5_reign_17 : decode cX5_reign 17 = .ok (.i2l, 1) := by decide +kernel
theorem dX5_reign_18 : decode cX5_reign 18 = .ok (.ldc2_w 141, 3) := by decide +kernel
theorem dX5_reign_21 : decode cX5_reign 21 = .ok (.iload_n 2, 1) := by decide +kernel
theorem dX5_reign_22 : decode cX5_reign 22 = .ok (.i2l, 1) := by decide +kernel
theorem dX5_reign_23 : decode cX5_reign 23 = .ok (.invokestatic 53, 3) := by decide +kernel
theorem dX5_reign_26 : decode cX5_reign 26 = .ok (.ifCond .ne 6, 3) := by decide +kernel
theorem dX5_reign_29 : decode cX5_reign 29 = .ok (.bipush (-2), 2) := by decide +kernel
theorem dX5_reign_31 : decode cX5_reign 31 = .ok (.ireturn, 1) := by decide +kernel
theorem dX5_reign_32 : decode cX5_reign 32 = .ok (.aload_n 0, 1) := by decide +kernel
theorem dX5_reign_33 : decode cX5_reign 33 = .ok (.getfield 117, 3) := by decide +kernel
theorem dX5_reign_36 : decode cX5_reign 36 = .ok (.ifCond .ne 8, 3) := by decide +kernel
theorem dX5_reign_39 : decode cX5_reign 39 = .ok (.bipush (-6), 2) := by decide +kernel
theorem dX5_reign_41 : decode cX5_reign 41 = .ok (.goto 7, 3) := by decide +kernel
theorem dX5_reign_44 : decode cX5_reign 44 = .ok (.aload_n 0, 1) := by decide +kernel
theorem dX5_reign_45 : decode cX5_reign 45 = .ok (.getfield 117, 3) := by decide +kernel
theorem dX5_reign_48 : decode cX5_reign 48 = .ok (.ireturn, 1) := by decide +kernel
set_option maxRecDepth 20000 in
theorem ggX5_years_X5_fault : GoodIn wsX5_years wsX5_fault := goodIn_r _ [8, 9, 10, 11, 12, 7, 13, 14, 15, 16, 17, 18, 19, 20, 21, 22, 23, 73, 74, 75, 76, 77, 78, 79, 80, 81, 82, 83, 84, 85, 86, 87, 88, 89, 90, 91, 92, 93, 94, 95, 96] (by decide +kernel) (by decide +kernel)
set_option maxRecDepth 20000 in
theorem gX5_years_X5_fault : GoodIn wsX5_years (wsV RX5 134 RX5 yX5_fault wsX5_fault) := goodIn_app (goodIn_of _ (by decide +kernel)) ggX5_years_X5_fault
set_option maxRecDepth 20000 in
theorem ggX5_years_X5_in : GoodIn wsX5_years wsX5_in := goodIn_r _ [20] (by decide +kernel) (by decide +kernel)
set_option maxRecDepth 20000 in
theorem gX5_years_X5_in : GoodIn wsX5_years (va_wsS RX5 53 yX5_in wsX5_in) := goodIn_app (goodIn_of _ (by decide +kernel)) ggX5_years_X5_in
set_option maxRecDepth 20000 in
theorem ggX5_years_X5_goParts : GoodIn wsX5_years wsX5_goParts := goodIn_r _ [27, 3, 2, 28, 29, 9, 10, 21, 22, 7, 23, 30, 31, 32, 33, 34, 35, 36, 37, 38, 39, 40, 41, 42, 43, 44, 45, 46, 47, 48, 49, 50, 51, 18, 19, 20, 52, 53, 54, 55, 56, 57, 58, 59, 60, 61, 62, 63, 64, 65, 66, 67, 68, 69, 70, 71, 72, 73, 74, 75, 76, 77, 78, 79, 80, 81, 82, 83, 84, 85, 86, 87, 88, 89, 90, 91, 92, 93, 94, 95, 96] (by decide +kernel) (by decide +kernel)
set_option maxRecDepth 20000 in
theorem gX5_years_X5_goParts : GoodIn wsX5_years (wsV RX5 138 RX5 yX5_goParts wsX5_goParts) := goodIn_app (goodIn_of _ (by decide +kernel)) ggX5_years_X5_goParts
theorem dX5_years_0 : decode cX5_years 0 = .ok (.aload_n 0, 1) := by decide +kernel
theorem dX5_years_1 : decode cX5_years 1 = .ok (.invokevirtual 134, 3) := by decide +kernel
theorem dX5_years_4 : decode cX5_years 4 = .ok (.ifCond .lt 6, 3) := by decide +kernel
theorem dX5_years_7 : decode cX5_years 7 = .ok (.bipush (-5), 2) := by decide +kernel
theorem dX5_years_9 : decode cX5_years 9 = .ok (.ireturn, 1) := by decide +kernel
theorem dX5_years_10 : decode cX5_years 10 = .ok (.iload_n 1, 1) := by decide +kernel
theorem dX5_years_11 : decode cX5_years 11 = .ok (.i2l, 1) := by decide +kernel
theorem dX5_years_12 : decode cX5_years 12 = .ok (.lconst 0, 1) := by decide +kernel
theorem dX5_years_13 : decode cX5_years 13 = .ok (.ldc2_w 57, 3) := by decide +kernel
theorem dX5_years_16 : decode cX5_years 16 = .ok (.invokestatic 53, 3) := by decide +kernel
theorem dX5_years_19 : decode cX5_years 19 = .ok (.ifCond .ne 6, 3) := by decide +kernel
theorem dX5_years_22 : decode cX5_years 22 = .ok (.bipush (-2), 2) := by decide +kernel
theorem dX5_years_24 : decode cX5_years 24 = .ok (.ireturn, 1) := by decide +kernel
theorem dX5_years_25 : decode cX5_years 25 = .ok (.aload_n 0, 1) := by decide +kernel
theorem dX5_years_26 : decode cX5_years 26 = .ok (.iconst (-1), 1) := by decide +kernel
theorem dX5_years_27 : decode cX5_years 27 = .ok (.invokevirtual 138, 3) := by decide +kernel
theorem dX5_years_30 : decode cX5_years 30 = .ok (.pop, 1) := by decide +kernel
theorem dX5_years_31 : decode cX5_years 31 = .ok (.iload_n 1, 1) := by decide +kernel
theorem dX5_years_32 : decode cX5_years 32 = .ok (.bipush 9, 2) := by decide +kernel
theorem dX5_years_34 : decode cX5_years 34 = .ok (.if_icmp .ne 10, 3) := by decide +kernel
theorem dX5_years_37 : decode cX5_years 37 = .ok (.aload_n 0, 1) := by decide +kernel
theorem dX5_years_38 : decode cX5_years 38 = .ok (.getfield 114, 3) := by decide +kernel
theorem dX5_years_41 : decode cX5_years 41 = .ok (.goto 9, 3) := by decide +kernel
theorem dX5_years_44 : decode cX5_years 44 = .ok (.aload_n 0, 1) := by decide +kernel
theorem dX5_years_45 : decode cX5_years 45 = .ok (.getfield 31, 3) := by decide +kernel
theorem dX5_years_48 : decode cX5_years 48 = .ok (.iload_n 1, 1) := by decide +kernel
theorem dX5_years_49 : decode cX5_years 49 = .ok (.iaload, 1) := by decide +kernel
theorem dX5_years_50 : decode cX5_years 50 = .ok (.ireturn, 1) := by decide +kernel
theorem dX5_weights_0 : decode cX5_weights 0 = .ok (.iconst 0, 1) := by decide +kernel
theorem dX5_weights_1 : decode cX5_weights 1 = .ok (.istore_n 1, 1) := by decide +kernel
theorem dX5_weights_2 : decode cX5_weights 2 = .ok (.iconst 0, 1) := by decide +kernel
theorem dX5_weights_3 : decode cX5_weights 3 = .ok (.istore_n 2, 1) := by decide +kernel
theorem dX5_weights_4 : decode cX5_weights 4 = .ok (.iload_n 2, 1) := by decide +kernel
theorem dX5_weights_5 : decode cX5_weights 5 = .ok (.bipush 10, 2) := by decide +kernel
theorem dX5_weights_7 : decode cX5_weights 7 = .ok (.if_icmp .ge 18, 3) := by decide +kernel
theorem dX5_weights_10 : decode cX5_weights 10 = .ok (.iload_n 1, 1) := by decide +kernel
theorem dX5_weights_11 : decode cX5_weights 11 = .ok (.aload_n 0, 1) := by decide +kernel
theorem dX5_weights_12 : decode cX5_weights 12 = .ok (.getfield 19, 3) := by decide +kernel
theorem dX5_weights_15 : decode cX5_weights 15 = .ok (.iload_n 2, 1) := by decide +kernel
