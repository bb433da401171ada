theorem dX5_sprinkledBy_83 : decode cX5_sprinkledBy 83 = .ok (.if_icmp .ne 21, 3) := by decide +kernel
theorem dX5_sprinkledBy_86 : decode cX5_sprinkledBy 86 = .ok (.aload_n 0, 1) := by decide +kernel
theorem dX5_sprinkledBy_87 : decode cX5_sprinkledBy 87 = .ok (.iload 4, 2) := by decide +kernel
theorem dX5_sprinkledBy_89 : decode cX5_sprinkledBy 89 = .ok (.iload_n 1, 1) := by decide +kernel
theorem dX5_sprinkledBy_90 : decode cX5_sprinkledBy 90 = .ok (.invokevirtual 104, 3) := by decide +kernel
theorem dX5_sprinkledBy_93 : decode cX5_sprinkledBy 93 = .ok (.iload_n 2, 1) := by decide +kernel
theorem dX5_sprinkledBy_94 : decode cX5_sprinkledBy 94 = .ok (.if_icmp .ne 10, 3) := by decide +kernel
theorem dX5_sprinkledBy_97 : decode cX5_sprinkledBy 97 = .ok (.iconst 1, 1) := by decide +kernel
theorem dX5_sprinkledBy_98 : decode cX5_sprinkledBy 98 = .ok (.iload 4, 2) := by decide +kernel
theorem dX5_sprinkledBy_100 : decode cX5_sprinkledBy 100 = .ok (.ishl, 1) := by decide +kernel
theorem dX5_sprinkledBy_101 : decode cX5_sprinkledBy 101 = .ok (.goto 4, 3) := by decide +kernel
theorem dX5_sprinkledBy_104 : decode cX5_sprinkledBy 104 = .ok (.iconst 0, 1) := by decide +kernel
theorem dX5_sprinkledBy_105 : decode cX5_sprinkledBy 105 = .ok (.ior, 1) := by decide +kernel
theorem dX5_sprinkledBy_106 : decode cX5_sprinkledBy 106 = .ok (.istore_n 3, 1) := by decide +kernel
theorem dX5_sprinkledBy_107 : decode cX5_sprinkledBy 107 = .ok (.iinc 4 1, 3) := by decide +kernel
theorem dX5_sprinkledBy_110 : decode cX5_sprinkledBy 110 = .ok (.goto (-50), 3) := by decide +kernel
theorem dX5_sprinkledBy_113 : decode cX5_sprinkledBy 113 = .ok (.iload_n 3, 1) := by decide +kernel
theorem dX5_sprinkledBy_114 : decode cX5_sprinkledBy 114 = .ok (.ireturn, 1) := by decide +kernel
set_option maxRecDepth 20000 in
theorem ggX5_rules_X5_isPlace : GoodIn wsX5_rules wsX5_isPlace := goodIn_r _ [4, 5, 6, 7, 3, 8] (by decide +kernel) (by decide +kernel)
set_option maxRecDepth 20000 in
theorem gX5_rules_X5_isPlace : GoodIn wsX5_rules (va_wsS RX5 66 yX5_isPlace wsX5_isPlace) := goodIn_app (goodIn_of _ (by decide +kernel)) ggX5_rules_X5_isPlace
set_option maxRecDepth 20000 in
theorem ggX5_rules_X5_in : GoodIn wsX5_rules wsX5_in := goodIn_r _ [8] (by decide +kernel) (by decide +kernel)
set_option maxRecDepth 20000 in
theorem gX5_rules_X5_in : GoodIn wsX5_rules (va_wsS RX5 53 yX5_in wsX5_in) := goodIn_app (goodIn_of _ (by decide +kernel)) ggX5_rules_X5_in
set_option maxRecDepth 20000 in
theorem ggX5_rules_X5_firstAt : GoodIn wsX5_rules wsX5_firstAt := goodIn_r _ [12, 13, 14, 15, 3, 16, 17, 18, 19, 20, 21, 22, 23, 24, 25, 26, 27, 28, 29, 30, 31, 6, 7, 8, 36, 37, 38, 39, 40, 41, 42, 43, 44, 45, 46, 47, 48, 49, 50, 51, 52, 53, 54, 55, 56, 57, 58, 59] (by decide +kernel) (by decide +kernel)
set_option maxRecDepth 20000 in
theorem gX5_rules_X5_firstAt : GoodIn wsX5_rules (wsV RX5 108 RX5 yX5_firstAt wsX5_firstAt) := goodIn_app (goodIn_of _ (by decide +kernel)) ggX5_rules_X5_firstAt
set_option maxRecDepth 20000 in
theorem ggX5_rules_X5_rulersBy : GoodIn wsX5_rules wsX5_rulersBy := goodIn_r _ [35, 9, 10, 11, 3, 12, 13, 14, 15, 16, 17, 18, 19, 20, 21, 22, 23, 24, 25, 26, 27, 28, 29, 30, 31, 6, 7, 8, 36, 37, 38, 39, 40, 41, 42, 43, 44, 45, 46, 47, 48, 49, 50, 51, 52, 53, 54, 55, 56, 57, 58, 59] (by decide +kernel) (by decide +kernel)
set_option maxRecDepth 20000 in
theorem gX5_rules_X5_rulersBy : GoodIn wsX5_rules (wsV RX5 111 RX5 yX5_rulersBy wsX5_rulersBy) := goodIn_app (goodIn_of _ (by decide +kernel)) ggX5_rules_X5_rulersBy
theorem dX5_rules_0 : decode cX5_rules 0 = .ok (.iload_n 1, 1) := by decide +kernel
theorem dX5_rules_1 : decode cX5_rules 1 = .ok (.invokestatic 66, 3) := by decide +kernel
theorem dX5_rules_4 : decode cX5_rules 4 = .ok (.ifCond .ne 5, 3) := by decide +kernel
theorem dX5_rules_7 : decode cX5_rules 7 = .ok (.iconst (-1), 1) := by decide +kernel
theorem dX5_rules_8 : decode cX5_rules 8 = .ok (.ireturn, 1) := by decide +kernel
theorem dX5_rules_9 : decode cX5_rules 9 = .ok (.iload_n 2, 1) := by decide +kernel
theorem dX5_rules_10 : decode cX5_rules 10 = .ok (.i2l, 1) := by decide +kernel
theorem dX5_rules_11 : decode cX5_rules 11 = .ok (.lconst 0, 1) := by decide +kernel
theorem dX5_rules_12 : decode cX5_rules 12 = .ok (.lconst 1, 1) := by decide +kernel
theorem dX5_rules_13 : decode cX5_rules 13 = .ok (.invokestatic 53, 3) := by decide +kernel
theorem dX5_rules_16 : decode cX5_rules 16 = .ok (.ifCond .ne 6, 3) := by decide +kernel
theorem dX5_rules_19 : decode cX5_rules 19 = .ok (.bipush (-2), 2) := by decide +kernel
theorem dX5_rules_21 : decode cX5_rules 21 = .ok (.ireturn, 1) := by decide +kernel
theorem dX5_rules_22 : decode cX5_rules 22 = .ok (.aload_n 0, 1) := by decide +kernel
theorem dX5_rules_23 : decode cX5_rules 23 = .ok (.iload_n 1, 1) := by decide +kernel
theorem dX5_rules_24 : decode cX5_rules 24 = .ok (.invokevirtual 108, 3) := by decide +kernel
theorem dX5_rules_27 : decode cX5_rules 27 = .ok (.istore_n 3, 1) := by decide +kernel
theorem dX5_rules_28 : decode cX5_rules 28 = .ok (.iload_n 3, 1) := by decide +kernel
theorem dX5_rules_29 : decode cX5_rules 29 = .ok (.sipush 1000, 3) := by decide +kernel
theorem dX5_rules_32 : decode cX5_rules 32 = .ok (.if_icmp .ne 8, 3) := by decide +kernel
theorem dX5_rules_35 : decode cX5_rules 35 = .ok (.bipush (-6), 2) := by decide +kernel
theorem dX5_rules_37 : decode cX5_rules 37 = .ok (.goto 16, 3) := by decide +kernel
theorem dX5_rules_40 : decode cX5_rules 40 = .ok (.iload_n 2, 1) := by decide +kernel
theorem dX5_rules_41 : decode cX5_rules 41 = .ok (.ifCond .ne 11, 3) := by decide +kernel
theorem dX5_rules_44 : decode cX5_rules 44 = .ok (.aload_n 0, 1) := by decide +kernel
theorem dX5_rules_45 : decode cX5_rules 45 = .ok (.iload_n 1, 1) := by decide +kernel
theorem dX5_rules_46 : decode cX5_rules 46 = .ok (.invokevirtual 111, 3) := by decide +kernel
theorem dX5_rules_49 : decode cX5_rules 49 = .ok (.goto 4, 3) := by decide +kernel
theorem dX5_rules_52 : decode cX5_rules 52 = .ok (.iload_n 3, 1) := by decide +kernel
theorem dX5_rules_53 : decode cX5_rules 53 = .ok (.ireturn, 1) := by decide +kernel
set_option maxRecDepth 20000 in
theorem ggX5_opens_X5_isThere : GoodIn wsX5_opens wsX5_isThere := goodIn_r _ [5, 6, 7, 8, 4, 9, 10, 11, 12, 13, 28, 29, 30, 31, 32, 33, 34, 35, 36, 37, 38, 39, 40, 41, 42, 43, 44, 45, 46, 47, 48, 49, 50, 51] (by decide +kernel) (by decide +kernel)
set_option maxRecDepth 20000 in
theorem gX5_opens_X5_isThere : GoodIn wsX5_opens (wsV RX5 76 RX5 yX5_isThere wsX5_isThere) := goodIn_app (goodIn_of _ (by decide +kernel)) ggX5_opens_X5_isThere
set_option maxRecDepth 20000 in
theorem ggX5_opens_X5_isPlace : GoodIn wsX5_opens wsX5_isPlace := goodIn_r _ [16, 17, 11, 12, 4, 13] (by decide +kernel) (by decide +kernel)
set_option maxRecDepth 20000 in
theorem gX5_opens_X5_isPlace : GoodIn wsX5_opens (va_wsS RX5 66 yX5_isPlace wsX5_isPlace) := goodIn_app (goodIn_of _ (by decide +kernel)) ggX5_opens_X5_isPlace
set_option maxRecDepth 20000 in
theorem ggX5_opens_X5_opensAt : GoodIn wsX5_opens wsX5_opensAt := goodIn_r _ [21, 22, 23, 24, 25, 26, 27, 1, 2, 3, 4, 5, 6, 7, 8, 9, 10, 11, 12, 13, 28, 29, 30, 31, 32, 33, 34, 35, 36, 37, 38, 39, 40, 41, 42, 43, 44, 45, 46, 47, 48, 49, 50, 51] (by decide +kernel) (by decide +kernel)
set_option maxRecDepth 20000 in
theorem gX5_opens_X5_opensAt : GoodIn wsX5_opens (wsV RX5 104 RX5 yX5_opensAt wsX5_opensAt) := goodIn_app (goodIn_of _ (by decide +kernel)) ggX5_opens_X5_opensAt
theorem dX5_opens_0 : decode cX5_opens 0 = .ok (.aload_n 0, 1) := by decide +kernel
theorem dX5_opens_1 : decode cX5_opens 1 = .ok (.iload_n 1, 1) := by decide +kernel
theorem dX5_opens_2 : decode cX5_opens 2 = .ok (.invokevirtual 76, 3) := by decide +kernel
theorem dX5_opens_5 : decode cX5_opens 5 = .ok (.ifCond .eq 10, 3) := by decide +kernel
theorem dX5_opens_8 : decode cX5_opens 8 = .ok (.iload_n 2, 1) := by decide +kernel
theorem dX5_opens_9 : decode cX5_opens 9 = .ok (.invokestatic 66, 3) := by decide +kernel
theorem dX5_opens_12 : decode cX5_opens 12 = .ok (.ifCond .ne 5, 3) := by decide +kernel
theorem dX5_opens_15 : decode cX5_opens 15 = .ok (.iconst (-1), 1) := by decide +kernel
theorem dX5_opens_16 : decode cX5_opens 16 = .ok (.ireturn, 1) := by decide +kernel
theorem dX5_opens_17 : decode cX5_opens 17 = .ok (.aload_n 0, 1) := by decide +kernel
theorem dX5_opens_18 : decode cX5_opens 18 = .ok (.iload_n 1, 1) := by decide +kernel
theorem dX5_opens_19 : decode cX5_opens 19 = .ok (.iload_n 2, 1) := by decide +kernel
theorem dX5_opens_20 : decode cX5_opens 20 = .ok (.invokevirtual 104, 3) := by decide +kernel
theorem dX5_opens_23 : decode cX5_opens 23 = .ok (.istore_n 3, 1) := by decide +kernel
theorem dX5_opens_24 : decode cX5_opens 24 = .ok (.iload_n 3, 1) := by decide +kernel
theorem dX5_opens_25 : decode cX5_opens 25 = .ok (.sipush 1000, 3) := by decide +kernel
theorem dX5_opens_28 : decode cX5_opens 28 = .ok (.if_icmp .ne 8, 3) := by decide +kernel
theorem dX5_opens_31 : decode cX5_opens 31 = .ok (.bipush (-6), 2) := by decide +kernel
theorem dX5_opens_33 : decode cX5_opens 33 = .ok (.goto 4, 3) := by decide +kernel
theorem dX5_opens_36 : decode cX5_opens 36 = .ok (.iload_n 3, 1) := by decide +kernel
theorem dX5_opens_37 : decode cX5_opens 37 = .ok (.ireturn, 1) := by decide +kernel
set_option maxRecDepth 20000 in
theorem ggX5_never_X5_rulersBy : GoodIn wsX5_never wsX5_rulersBy := goodIn_r _ [6, 7, 8, 9, 5, 10, 11, 12, 13, 14, 15, 16, 17, 18, 19, 20, 21, 22, 23, 24, 1, 25, 26, 27, 28, 29, 30, 31, 32, 33, 34, 35, 36, 37, 38, 39, 40, 41, 42, 43, 44, 45, 46, 47, 48, 49, 50, 51, 52, 53, 54, 55] (by decide +kernel) (by decide +kernel)
set_option maxRecDepth 20000 in
theorem gX5_never_X5_rulersBy : GoodIn wsX5_never (wsV RX5 111 RX5 yX5_rulersBy wsX5_rulersBy) := goodIn_app (goodIn_of _ (by decide +kernel)) ggX5_never_X5_rulersBy
theorem dX5_never_0 : decode cX5_never 0 = .ok (.iconst 0, 1) := by decide +kernel
theorem dX5_never_1 : decode cX5_never 1 = .ok (.istore_n 1, 1) := by decide +kernel
theorem dX5_never_2 : decode cX5_never 2 = .ok (.iconst 0, 1) := by decide +kernel
theorem dX5_never_3 : decode cX5_never 3 = .ok (.istore_n 2, 1) := by decide +kernel
theorem dX5_never_4 : decode cX5_never 4 = .ok (.iload_n 2, 1) := by decide +kernel
theorem dX5_never_5 : decode cX5_never 5 = .ok (.bipush 10, 2) := by decide +kernel
theorem dX5_never_7 : decode cX5_never 7 = .ok (.if_icmp .ge 17, 3) := by decide +kernel
theorem dX5_never_10 : decode cX5_never 10 = .ok (.iload_n 1, 1) := by decide +kernel
theorem dX5_never_11 : decode cX5_never 11 = .ok (.aload_n 0, 1) := by decide +kernel
theorem dX5_never_12 : decode cX5_never 12 = .ok (.iload_n 2, 1) := by decide +kernel
theorem dX5_never_13 : decode cX5_never 13 = .ok (.invokevirtual 111, 3) := by decide +kernel
theorem dX5_never_16 : decode cX5_never 16 = .ok (.ior, 1) := by decide +kernel
theorem dX5_never_17 : decode cX5_never 17 = .ok (.istore_n 1, 1) := by decide +kernel
theorem dX5_never_18 : decode cX5_never 18 = .ok (.iinc 2 1, 3) := by decide +kernel
theorem dX5_never_21 : decode cX5_never 21 = .ok (.goto (-17), 3) := by decide +kernel
theorem dX5_never_24 : decode cX5_never 24 = .ok (.aload_n 0, 1) := by decide +kernel
theorem dX5_never_25 : decode cX5_never 25 = .ok (.getfield 63, 3) := by decide +kernel
theorem dX5_never_28 : decode cX5_never 28 = .ok (.iload_n 1, 1) := by decide +kernel
theorem dX5_never_29 : decode cX5_never 29 = .ok (.iconst (-1), 1) := by decide +kernel
theorem dX5_never_30 : decode cX5_never 30 = .ok (.ixor, 1) := by decide +kernel
theorem dX5_never_31 : decode cX5_never 31 = .ok (.iand, 1) := by decide +kernel
theorem dX5_never_32 : decode cX5_never 32 = .ok (.ireturn, 1) := by decide +kernel
theorem dX5_rule_0 : decode cX5_rule 0 = .ok (.aload_n 0, 1) := by decide +kernel
theorem dX5_rule_1 : decode cX5_rule 1 = .ok (.dup, 1) := by decide +kernel
theorem dX5_rule_2 : decode cX5_rule 2 = .ok (.getfield 114, 3) := by decide +kernel
theorem dX5_rule_5 : decode cX5_rule 5 = .ok (.iload_n 1, 1) := by decide +kernel
theorem dX5_rule_6 : decode cX5_rule 6 = .ok (.ifCond .eq 15, 3) := by decide +kernel
theorem dX5_rule_9 : decode cX5_rule 9 = .ok (.iload_n 1, 1) := by decide +kernel
theorem dX5_rule_10 : decode cX5_rule 10 = .ok (.aload_n 0, 1) := by decide +kernel
theorem dX5_rule_11 : decode cX5_rule 11 = .ok (.getfield 117, 3) := by decide +kernel
theorem dX5_rule_14 : decode cX5_rule 14 = .ok (.if_icmp .eq 7, 3) := by decide +kernel
theorem dX5_rule_17 : decode cX5_rule 17 = .ok (.iconst 1, 1) := by decide +kernel
theorem dX5_rule_18 : decode cX5_rule 18 = .ok (.goto 4, 3) := by decide +kernel
theorem dX5_rule_21 : decode cX5_rule 21 = .ok (.iconst 0, 1) := by decide +kernel
theorem dX5_rule_22 : decode cX5_rule 22 = .ok (.iadd, 1) := by decide +kernel
theorem dX5_rule_23 : decode cX5_rule 23 = .ok (.putfield 114, 3) := by decide +kernel
theorem dX5_rule_26 : decode cX5_rule 26 = .ok (.aload_n 0, 1) := by decide +kernel
theorem dX5_rule_27 : decode cX5_rule 27 = .ok (.iload_n 1, 1) := by decide +kernel
theorem dX5_rule_28 : decode cX5_rule 28 = .ok (.putfield 117, 3) := by decide +kernel
theorem dX5_rule_31 : decode cX5_rule 31 = .ok (.return_, 1) := by decide +kernel
theorem dX5_goYears_0 : decode cX5_goYears 0 = .ok (.iconst 0, 1) := by decide +kernel
theorem dX5_goYears_1 : decode cX5_goYears 1 = .ok (.istore_n 2, 1) := by decide +kernel
theorem dX5_goYears_2 : decode cX5_goYears 2 = .ok (.iconst 0, 1) := by decide +kernel
theorem dX5_goYears_3 : decode cX5_goYears 3 = .ok (.istore_n 3, 1) := by decide +kernel
theorem dX5_goYears_4 : decode cX5_goYears 4 = .ok (.iload_n 3, 1) := by decide +kernel
theorem dX5_goYears_5 : decode cX5_goYears 5 = .ok (.bipush 6, 2) := by decide +kernel
theorem dX5_goYears_7 : decode cX5_goYears 7 = .ok (.if_icmp .ge 67, 3) := by decide +kernel
theorem dX5_goYears_10 : decode cX5_goYears 10 = .ok (.aload_n 0, 1) := by decide +kernel
theorem dX5_goYears_11 : decode cX5_goYears 11 = .ok (.getfield 117, 3) := by decide +kernel
theorem dX5_goYears_14 : decode cX5_goYears 14 = .ok (.iload_n 3, 1) := by decide +kernel
theorem dX5_goYears_15 : decode cX5_goYears 15 = .ok (.ishr, 1) := by decide +kernel
theorem dX5_goYears_16 : decode cX5_goYears 16 = .ok (.iconst 1, 1) := by decide +kernel
theorem dX5_goYears_17 : decode cX5_goYears 17 = .ok (.iand, 1) := by decide +kernel
theorem dX5_goYears_18 : decode cX5_goYears 18 = .ok (.iconst 1, 1) := by decide +kernel
theorem dX5_goYears_19 : decode cX5_goYears 19 = .ok (.if_icmp .ne 7, 3) := by decide +kernel
theorem dX5_goYears_22 : decode cX5_goYears 22 = .ok (.iconst 1, 1) := by decide +kernel
theorem dX5_goYears_23 : decode cX5_goYears 23 = .ok (.goto 4, 3) := by decide +kernel
theorem dX5_goYears_26 : decode cX5_goYears 26 = .ok (.iconst 0, 1) := by decide +kernel
theorem dX5_goYears_27 : decode cX5_goYears 27 = .ok (.istore 4, 2) := by decide +kernel
theorem dX5_goYears_29 : decode cX5_goYears 29 = .ok (.aload_n 0, 1) := by decide +kernel
theorem dX5_goYears_30 : decode cX5_goYears 30 = .ok (.getfield 31, 3) := by decide +kernel
theorem dX5_goYears_33 : decode cX5_goYears 33 = .ok (.iload_n 3, 1) := by decide +kernel
theorem dX5_goYears_34 : decode cX5_goYears 34 = .ok (.dup2, 1) := by decide +kernel
theorem dX5_goYears_35 : decode cX5_goYears 35 = .ok (.iaload, 1) := by decide +kernel
theorem dX5_goYears_36 : decode cX5_goYears 36 = .ok (.iload 4, 2) := by decide +kernel
theorem dX5_goYears_38 : decode cX5_goYears 38 = .ok (.ifCond .eq 7, 3) := by decide +kernel
theorem dX5_goYears_41 : decode cX5_goYears 41 = .ok (.iload_n 1, 1) := by decide +kernel
theorem dX5_goYears_42 : decode cX5_goYears 42 = .ok (.goto 4, 3) := by decide +kernel
theorem dX5_goYears_45 : decode cX5_goYears 45 = .ok (.iconst 0, 1) := by decide +kernel
theorem dX5_goYears_46 : decode cX5_goYears 46 = .ok (.iadd, 1) := by decide +kernel
theorem dX5_goYears_47 : decode cX5_goYears 47 = .ok (.iastore, 1) := by decide +kernel
theorem dX5_goYears_48 : decode cX5_goYears 48 = .ok (.iload_n 2, 1) := by decide +kernel
theorem dX5_goYears_49 : decode cX5_goYears 49 = .ok (.iload 4, 2) := by decide +kernel
theorem dX5_goYears_51 : decode cX5_goYears 51 = .ok (.ifCond .eq 14, 3) := by decide +kernel
theorem dX5_goYears_54 : decode cX5_goYears 54 = .ok (.iconst 1, 1) := by decide +kernel
theorem dX5_goYears_55 : decode cX5_goYears 55 = .ok (.aload_n 0, 1) := by decide +kernel
theorem dX5_goYears_56 : decode cX5_goYears 56 = .ok (.getfield 16, 3) := by decide +kernel
theorem dX5_goYears_59 : decode cX5_goYears 59 = .ok (.iload_n 3, 1) := by decide +kernel
theorem dX5_goYears_60 : decode cX5_goYears 60 = .ok (.iaload, 1) := by decide +kernel
theorem dX5_goYears_61 : decode cX5_goYears 61 = .ok (.ishl, 1) := by decide +kernel
theorem dX5_goYears_62 : decode cX5_goYears 62 = .ok (.goto 4, 3) := by decide +kernel
theorem dX5_goYears_65 : decode cX5_goYears 65 = .ok (.iconst 0, 1) := by decide +kernel
theorem dX5_goYears_66 : decode cX5_goYears 66 = .ok (.ior, 1) := by decide +kernel
theorem dX5_goYears_67 : decode cX5_goYears 67 = .ok (.istore_n 2, 1) := by decide +kernel
theorem dX5_goYears_68 : decode cX5_goYears 68 = .ok (.iinc 3 1, 3) := by decide +kernel
theorem dX5_goYears_71 : decode cX5_goYears 71 = .ok (.goto (-67), 3) := by decide +kernel
theorem dX5_goYears_74 : decode cX5_goYears 74 = .ok (.aload_n 0, 1) := by decide +kernel
theorem dX5_goYears_75 : decode cX5_goYears 75 = .ok (.getfield 31, 3) := by decide +kernel
theorem dX5_goYears_78 : decode cX5_goYears 78 = .ok (.bipush 6, 2) := by decide +kernel
theorem dX5_goYears_80 : decode cX5_goYears 80 = .ok (.dup2, 1) := by decide +kernel
theorem dX5_goYears_81 : decode cX5_goYears 81 = .ok (.iaload, 1) := by decide +kernel
theorem dX5_goYears_82 : decode cX5_goYears 82 = .ok (.iload_n 2, 1) := by decide +kernel
theorem dX5_goYears_83 : decode cX5_goYears 83 = .ok (.iconst 1, 1) := by decide +kernel
theorem dX5_goYears_84 : decode cX5_goYears 84 = .ok (.iand, 1) := by decide +kernel
theorem dX5_goYears_85 : decode cX5_goYears 85 = .ok (.iconst 1, 1) := by decide +kernel
theorem dX5_goYears_86 : decode cX5_goYears 86 = .ok (.if_icmp .ne 7, 3) := by decide +kernel
theorem dX5_goYears_89 : decode cX5_goYears 89 = .ok (.iload_n 1, 1) := by decide +kernel
theorem dX5_goYears_90 : decode cX5_goYears 90 = .ok (.goto 4, 3) := by decide +kernel
theorem dX5_goYears_93 : decode cX5_goYears 93 = .ok (.iconst 0, 1) := by decide +kernel
theorem dX5_goYears_94 : decode cX5_goYears 94 = .ok (.iadd, 1) := by decide +kernel
theorem dX5_goYears_95 : decode cX5_goYears 95 = .ok (.iastore, 1) := by decide +kernel
theorem dX5_goYears_96 : decode cX5_goYears 96 = .ok (.aload_n 0, 1) := by decide +kernel
theorem dX5_goYears_97 : decode cX5_goYears 97 = .ok (.getfield 31, 3) := by decide +kernel
theorem dX5_goYears_100 : decode cX5_goYears 100 = .ok (.bipush 7, 2) := by decide +kernel
theorem dX5_goYears_102 : decode cX5_goYears 102 = .ok (.dup2, 1) := by decide +kernel
theorem dX5_goYears_103 : decode cX5_goYears 103 = .ok (.iaload, 1) := by decide +kernel
theorem dX5_goYears_104 : decode cX5_goYears 104 = .ok (.iload_n 2, 1) := by decide +kernel
theorem dX5_goYears_105 : decode cX5_goYears 105 = .ok (.iconst 1, 1) := by decide +kernel
theorem dX5_goYears_106 : decode cX5_goYears 106 = .ok (.if_icmp .le 7, 3) := by decide +kernel
theorem dX5_goYears_109 : decode cX5_goYears 109 = .ok (.iload_n 1, 1) := by decide +kernel
theorem dX5_goYears_110 : decode cX5_goYears 110 = .ok (.goto 4, 3) := by decide +kernel
theorem dX5_goYears_113 : decode cX5_goYears 113 = .ok (.iconst 0, 1) := by decide +kernel
theorem dX5_goYears_114 : decode cX5_goYears 114 = .ok (.iadd, 1) := by decide +kernel
theorem dX5_goYears_115 : decode cX5_goYears 115 = .ok (.iastore, 1) := by decide +kernel
theorem dX5_goYears_116 : decode cX5_goYears 116 = .ok (.aload_n 0, 1) := by decide +kernel
theorem dX5_goYears_117 : decode cX5_goYears 117 = .ok (.getfield 31, 3) := by decide +kernel
theorem dX5_goYears_120 : decode cX5_goYears 120 = .ok (.bipush 8, 2) := by decide +kernel
theorem dX5_goYears_122 : decode cX5_goYears 122 = .ok (.dup2, 1) := by decide +kernel
theorem dX5_goYears_123 : decode cX5_goYears 123 = .ok (.iaload, 1) := by decide +kernel
theorem dX5_goYears_124 : decode cX5_goYears 124 = .ok (.aload_n 0, 1) := by decide +kernel
theorem dX5_goYears_125 : decode cX5_goYears 125 = .ok (.getfield 117, 3) := by decide +kernel
theorem dX5_goYears_128 : decode cX5_goYears 128 = .ok (.ifCond .ne 7, 3) := by decide +kernel
theorem dX5_goYears_131 : decode cX5_goYears 131 = .ok (.iload_n 1, 1) := by decide +kernel
theorem dX5_goYears_132 : decode cX5_goYears 132 = .ok (.goto 4, 3) := by decide +kernel
theorem dX5_goYears_135 : decode cX5_goYears 135 = .ok (.iconst 0, 1) := by decide +kernel
theorem dX5_goYears_136 : decode cX5_goYears 136 = .ok (.iadd, 1) := by decide +kernel
theorem dX5_goYears_137 : decode cX5_goYears 137 = .ok (.iastore, 1) := by decide +kernel
theorem dX5_goYears_138 : decode cX5_goYears 138 = .ok (.return_, 1) := by decide +kernel
set_option maxRecDepth 20000 in
theorem ggX5_happen_X5_goYears : GoodIn wsX5_happen wsX5_goYears := goodIn_r _ [7, 2, 8, 9, 48, 49, 50, 51, 52, 53, 54, 55, 56, 57, 58, 59, 60, 61, 62, 63, 64, 65, 66, 67, 68, 69, 70, 71] (by decide +kernel) (by decide +kernel)
set_option maxRecDepth 20000 in
theorem gX5_happen_X5_goYears : GoodIn wsX5_happen (wsV RX5 120 RX5 yX5_goYears wsX5_goYears) := goodIn_app (goodIn_of _ (by decide +kernel)) ggX5_happen_X5_goYears
set_option maxRecDepth 20000 in
theorem ggX5_happen_X5_rule : GoodIn wsX5_happen wsX5_rule := goodIn_r _ [13, 14, 2, 48, 49, 50, 51, 52, 53, 54, 55, 56, 57, 58, 59, 60, 61, 62, 63, 64, 65, 66, 67, 68, 69, 70, 71] (by decide +kernel) (by decide +kernel)
set_option maxRecDepth 20000 in
theorem gX5_happen_X5_rule : GoodIn wsX5_happen (wsV RX5 124 RX5 yX5_rule wsX5_rule) := goodIn_app (goodIn_of _ (by decide +kernel)) ggX5_happen_X5_rule
set_option maxRecDepth 20000 in
theorem ggX5_happen_X5_isThere : GoodIn wsX5_happen wsX5_isThere := goodIn_r _ [18, 19, 20, 21, 6, 22, 23, 24, 25, 26, 48, 49, 50, 51, 52, 53, 54, 55, 56, 57, 58, 59, 60, 61, 62, 63, 64, 65, 66, 67, 68, 69, 70, 71] (by decide +kernel) (by decide +kernel)
set_option maxRecDepth 20000 in
theorem gX5_happen_X5_isThere : GoodIn wsX5_happen (wsV RX5 76 RX5 yX5_isThere wsX5_isThere) := goodIn_app (goodIn_of _ (by decide +kernel)) ggX5_happen_X5_isThere
set_option maxRecDepth 20000 in
theorem ggX5_happen_X5_rulersBy : GoodIn wsX5_happen wsX5_rulersBy := goodIn_r _ [30, 31, 32, 33, 6, 34, 35, 36, 37, 38, 1, 39, 40, 41, 42, 43, 15, 16, 17, 18, 19, 20, 21, 22, 23, 24, 25, 26, 48, 49, 50, 51, 52, 53, 54, 55, 56, 57, 58, 59, 60, 61, 62, 63, 64, 65, 66, 67, 68, 69, 70, 71] (by decide +kernel) (by decide +kernel)
set_option maxRecDepth 20000 in
theorem gX5_happen_X5_rulersBy : GoodIn wsX5_happen (wsV RX5 111 RX5 yX5_rulersBy wsX5_rulersBy) := goodIn_app (goodIn_of _ (by decide +kernel)) ggX5_happen_X5_rulersBy
set_option maxRecDepth 20000 in
theorem ggX5_happen_X5_sprinkledBy : GoodIn wsX5_happen wsX5_sprinkledBy := goodIn_r _ [47, 39, 35, 36, 37, 6, 38, 1, 40, 41, 42, 43, 15, 16, 17, 18, 19, 20, 21, 22, 23, 24, 25, 26, 48, 49, 50, 51, 52, 53, 54, 55, 56, 57, 58, 59, 60, 61, 62, 63, 64, 65, 66, 67, 68, 69, 70, 71] (by decide +kernel) (by decide +kernel)
set_option maxRecDepth 20000 in
theorem gX5_happen_X5_sprinkledBy : GoodIn wsX5_happen (wsV RX5 127 RX5 yX5_sprinkledBy wsX5_sprinkledBy) := goodIn_app (goodIn_of _ (by decide +kernel)) ggX5_happen_X5_sprinkledBy
theorem dX5_happen_0 : decode cX5_happen 0 = .ok (.iload_n 1, 1) := by decide +kernel
theorem dX5_happen_1 : decode cX5_happen 1 = .ok (.ifCond .ne 17, 3) := by decide +kernel
theorem dX5_happen_4 : decode cX5_happen 4 = .ok (.iload_n 2, 1) := by decide +kernel
theorem dX5_happen_5 : decode cX5_happen 5 = .ok (.bipush 46, 2) := by decide +kernel
theorem dX5_happen_7 : decode cX5_happen 7 = .ok (.if_icmp .ne 11, 3) := by decide +kernel
theorem dX5_happen_10 : decode cX5_happen 10 = .ok (.aload_n 0, 1) := by decide +kernel
theorem dX5_happen_11 : decode cX5_happen 11 = .ok (.iconst 1, 1) := by decide +kernel
theorem dX5_happen_12 : decode cX5_happen 12 = .ok (.invokevirtual 120, 3) := by decide +kernel
theorem dX5_happen_15 : decode cX5_happen 15 = .ok (.goto 113, 3) := by decide +kernel
theorem dX5_happen_18 : decode cX5_happen 18 = .ok (.iload_n 1, 1) := by decide +kernel
theorem dX5_happen_19 : decode cX5_happen 19 = .ok (.bipush 45, 2) := by decide +kernel
theorem dX5_happen_21 : decode cX5_happen 21 = .ok (.if_icmp .ne 19, 3) := by decide +kernel
theorem dX5_happen_24 : decode cX5_happen 24 = .ok (.aload_n 0, 1) := by decide +kernel
theorem dX5_happen_25 : decode cX5_happen 25 = .ok (.iconst 0, 1) := by decide +kernel
theorem dX5_happen_26 : decode cX5_happen 26 = .ok (.invokevirtual 124, 3) := by decide +kernel
theorem dX5_happen_29 : decode cX5_happen 29 = .ok (.aload_n 0, 1) := by decide +kernel
theorem dX5_happen_30 : decode cX5_happen 30 = .ok (.iload_n 2, 1) := by decide +kernel
theorem dX5_happen_31 : decode cX5_happen 31 = .ok (.bipush 48, 2) := by decide +kernel
theorem dX5_happen_33 : decode cX5_happen 33 = .ok (.isub, 1) := by decide +kernel
theorem dX5_happen_34 : decode cX5_happen 34 = .ok (.invokevirtual 120, 3) := by decide +kernel
theorem dX5_happen_37 : decode cX5_happen 37 = .ok (.goto 91, 3) := by decide +kernel
theorem dX5_happen_40 : decode cX5_happen 40 = .ok (.iload_n 1, 1) := by decide +kernel
theorem dX5_happen_41 : decode cX5_happen 41 = .ok (.bipush 126, 2) := by decide +kernel
theorem dX5_happen_43 : decode cX5_happen 43 = .ok (.if_icmp .ne 45, 3) := by decide +kernel
theorem dX5_happen_46 : decode cX5_happen 46 = .ok (.iload_n 2, 1) := by decide +kernel
theorem dX5_happen_47 : decode cX5_happen 47 = .ok (.bipush 65, 2) := by decide +kernel
theorem dX5_happen_49 : decode cX5_happen 49 = .ok (.isub, 1) := by decide +kernel
theorem dX5_happen_50 : decode cX5_happen 50 = .ok (.istore_n 3, 1) := by decide +kernel
theorem dX5_happen_51 : decode cX5_happen 51 = .ok (.aload_n 0, 1) := by decide +kernel
theorem dX5_happen_52 : decode cX5_happen 52 = .ok (.iload_n 3, 1) := by decide +kernel
theorem dX5_happen_53 : decode cX5_happen 53 = .ok (.invokevirtual 76, 3) := by decide +kernel
theorem dX5_happen_56 : decode cX5_happen 56 = .ok (.ifCond .eq 29, 3) := by decide +kernel
theorem dX5_happen_59 : decode cX5_happen 59 = .ok (.aload_n 0, 1) := by decide +kernel
theorem dX5_happen_60 : decode cX5_happen 60 = .ok (.dup, 1) := by decide +kernel
theorem dX5_happen_61 : decode cX5_happen 61 = .ok (.getfield 69, 3) := by decide +kernel
theorem dX5_happen_64 : decode cX5_happen 64 = .ok (.iconst 1, 1) := by decide +kernel
theorem dX5_happen_65 : decode cX5_happen 65 = .ok (.iload_n 3, 1) := by decide +kernel
theorem dX5_happen_66 : decode cX5_happen 66 = .ok (.ishl, 1) := by decide +kernel
theorem dX5_happen_67 : decode cX5_happen 67 = .ok (.ior, 1) := by decide +kernel
theorem dX5_happen_68 : decode cX5_happen 68 = .ok (.putfield 69, 3) := by decide +kernel
theorem dX5_happen_71 : decode cX5_happen 71 = .ok (.aload_n 0, 1) := by decide +kernel
theorem dX5_happen_72 : decode cX5_happen 72 = .ok (.aload_n 0, 1) := by decide +kernel
theorem dX5_happen_73 : decode cX5_happen 73 = .ok (.getfield 117, 3) := by decide +kernel
theorem dX5_happen_76 : decode cX5_happen 76 = .ok (.iconst 1, 1) := by decide +kernel
theorem dX5_happen_77 : decode cX5_happen 77 = .ok (.iload_n 3, 1) := by decide +kernel
theorem dX5_happen_78 : decode cX5_happen 78 = .ok (.ishl, 1) := by decide +kernel
theorem dX5_happen_79 : decode cX5_happen 79 = .ok (.iconst (-1), 1) := by decide +kernel
theorem dX5_happen_80 : decode cX5_happen 80 = .ok (.ixor, 1) := by decide +kernel
theorem dX5_happen_81 : decode cX5_happen 81 = .ok (.iand, 1) := by decide +kernel
theorem dX5_happen_82 : decode cX5_happen 82 = .ok (.invokevirtual 124, 3) := by decide +kernel
theorem dX5_happen_85 : decode cX5_happen 85 = .ok (.goto 43, 3) := by decide +kernel
theorem dX5_happen_88 : decode cX5_happen 88 = .ok (.iload_n 1, 1) := by decide +kernel
theorem dX5_happen_89 : decode cX5_happen 89 = .ok (.ifCond .ne 14, 3) := by decide +kernel
theorem dX5_happen_92 : decode cX5_happen 92 = .ok (.aload_n 0, 1) := by decide +kernel
theorem dX5_happen_93 : decode cX5_happen 93 = .ok (.iload_n 2, 1) := by decide +kernel
theorem dX5_happen_94 : decode cX5_happen 94 = .ok (.bipush 48, 2) := by decide +kernel
theorem dX5_happen_96 : decode cX5_happen 96 = .ok (.isub, 1) := by decide +kernel
theorem dX5_happen_97 : decode cX5_happen 97 = .ok (.invokevirtual 111, 3) := by decide +kernel
theorem dX5_happen_100 : decode cX5_happen 100 = .ok (.goto 11, 3) := by decide +kernel
theorem dX5_happen_103 : decode cX5_happen 103 = .ok (.aload_n 0, 1) := by decide +kernel
theorem dX5_happen_104 : decode cX5_happen 104 = .ok (.iload_n 2, 1) := by decide +kernel
theorem dX5_happen_105 : decode cX5_happen 105 = .ok (.bipush 48, 2) := by decide +kernel
theorem dX5_happen_107 : decode cX5_happen 107 = .ok (.isub, 1) := by decide +kernel
theorem dX5_happen_108 : decode cX5_happen 108 = .ok (.invokevirtual 127, 3) := by decide +kernel
theorem dX5_happen_111 : decode cX5_happen 111 = .ok (.istore_n 3, 1) := by decide +kernel
theorem dX5_happen_112 : decode cX5_happen 112 = .ok (.aload_n 0, 1) := by decide +kernel
theorem dX5_happen_113 : decode cX5_happen 113 = .ok (.iload_n 3, 1) := by decide +kernel
theorem dX5_happen_114 : decode cX5_happen 114 = .ok (.ifCond .ne 10, 3) := by decide +kernel
theorem dX5_happen_117 : decode cX5_happen 117 = .ok (.aload_n 0, 1) := by decide +kernel
theorem dX5_happen_118 : decode cX5_happen 118 = .ok (.getfield 117, 3) := by decide +kernel
theorem dX5_happen_121 : decode cX5_happen 121 = .ok (.goto 4, 3) := by decide +kernel
theorem dX5_happen_124 : decode cX5_happen 124 = .ok (.iload_n 3, 1) := by decide +kernel
theorem dX5_happen_125 : decode cX5_happen 125 = .ok (.invokevirtual 124, 3) := by decide +kernel
theorem dX5_happen_128 : decode cX5_happen 128 = .ok (.return_, 1) := by decide +kernel
set_option maxRecDepth 20000 in
theorem ggX5_goParts_X5_isOpening : GoodIn wsX5_goParts wsX5_isOpening := goodIn_r _ [10] (by decide +kernel) (by decide +kernel)
set_option maxRecDepth 20000 in
theorem gX5_goParts_X5_isOpening : GoodIn wsX5_goParts (va_wsS RX5 101 yX5_isOpening wsX5_isOpening) := goodIn_app (goodIn_of _ (by decide +kernel)) ggX5_goParts_X5_isOpening
set_option maxRecDepth 20000 in
theorem ggX5_goParts_X5_happen : GoodIn wsX5_goParts wsX5_happen := goodIn_r _ [14, 4, 3, 15, 16, 17, 9, 18, 1, 19, 20, 21, 22, 23, 2, 24, 25, 26, 27, 28, 29, 30, 31, 32, 33, 34, 35, 36, 37, 38, 39, 40, 41, 42, 43, 44, 45, 46, 47, 48, 49, 50, 51, 52, 53, 54, 55, 56, 57, 58, 59, 60, 61, 62, 63, 64, 65, 66, 67, 68, 69, 70, 71, 72, 73, 74, 75, 76, 77, 78, 79, 80] (by decide +kernel) (by decide +kernel)
set_option maxRecDepth 20000 in
theorem gX5_goParts_X5_happen : GoodIn wsX5_goParts (wsV RX5 130 RX5 yX5_happen wsX5_happen) := goodIn_app (goodIn_of _ (by decide +kernel)) ggX5_goParts_X5_happen
theorem dX5_goParts_0 : decode cX5_goParts 0 = .ok (.iconst 0, 1) := by decide +kernel
theorem dX5_goParts_1 : decode cX5_goParts 1 = .ok (.istore_n 2, 1) := by decide +kernel
theorem dX5_goParts_2 : decode cX5_goParts 2 = .ok (.iload_n 2, 1) := by decide +kernel
theorem dX5_goParts_3 : decode cX5_goParts 3 = .ok (.bipush 9, 2) := by decide +kernel
theorem dX5_goParts_5 : decode cX5_goParts 5 = .ok (.if_icmp .ge 16, 3) := by decide +kernel
theorem dX5_goParts_8 : decode cX5_goParts 8 = .ok (.aload_n 0, 1) := by decide +kernel
theorem dX5_goParts_9 : decode cX5_goParts 9 = .ok (.getfield 31, 3) := by decide +kernel
theorem dX5_goParts_12 : decode cX5_goParts 12 = .ok (.iload_n 2, 1) := by decide +kernel
theorem dX5_goParts_13 : decode cX5_goParts 13 = .ok (.iconst 0, 1) := by decide +kernel
theorem dX5_goParts_14 : decode cX5_goParts 14 = .ok (.iastore, 1) := by decide +kernel
theorem dX5_goParts_15 : decode cX5_goParts 15 = .ok (.iinc 2 1, 3) := by decide +kernel
theorem dX5_goParts_18 : decode cX5_goParts 18 = .ok (.goto (-16), 3) := by decide +kernel
theorem dX5_goParts_21 : decode cX5_goParts 21 = .ok (.aload_n 0, 1) := by decide +kernel
theorem dX5_goParts_22 : decode cX5_goParts 22 = .ok (.iconst 0, 1) := by decide +kernel
theorem dX5_goParts_23 : decode cX5_goParts 23 = .ok (.putfield 114, 3) := by decide +kernel
theorem dX5_goParts_26 : decode cX5_goParts 26 = .ok (.aload_n 0, 1) := by decide +kernel
theorem dX5_goParts_27 : decode cX5_goParts 27 = .ok (.iconst 0, 1) := by decide +kernel
theorem dX5_goParts_28 : decode cX5_goParts 28 = .ok (.putfield 117, 3) := by decide +kernel
theorem dX5_goParts_31 : decode cX5_goParts 31 = .ok (.aload_n 0, 1) := by decide +kernel
theorem dX5_goParts_32 : decode cX5_goParts 32 = .ok (.getfield 69, 3) := by decide +kernel
theorem dX5_goParts_35 : decode cX5_goParts 35 = .ok (.istore_n 2, 1) := by decide +kernel
theorem dX5_goParts_36 : decode cX5_goParts 36 = .ok (.iconst 0, 1) := by decide +kernel
theorem dX5_goParts_37 : decode cX5_goParts 37 = .ok (.istore_n 3, 1) := by decide +kernel
theorem dX5_goParts_38 : decode cX5_goParts 38 = .ok (.iconst 0, 1) := by decide +kernel
theorem dX5_goParts_39 : decode cX5_goParts 39 = .ok (.istore 4, 2) := by decide +kernel
theorem dX5_goParts_41 : decode cX5_goParts 41 = .ok (.iconst 0, 1) := by decide +kernel
theorem dX5_goParts_42 : decode cX5_goParts 42 = .ok (.istore 5, 2) := by decide +kernel
theorem dX5_goParts_44 : decode cX5_goParts 44 = .ok (.iload 5, 2) := by decide +kernel
theorem dX5_goParts_46 : decode cX5_goParts 46 = .ok (.aload_n 0, 1) := by decide +kernel
theorem dX5_goParts_47 : decode cX5_goParts 47 = .ok (.getfield 86, 3) := by decide +kernel
theorem dX5_goParts_50 : decode cX5_goParts 50 = .ok (.if_icmp .ge 61, 3) := by decide +kernel
theorem dX5_goParts_53 : decode cX5_goParts 53 = .ok (.aload_n 0, 1) := by decide +kernel
theorem dX5_goParts_54 : decode cX5_goParts 54 = .ok (.getfield 28, 3) := by decide +kernel
theorem dX5_goParts_57 : decode cX5_goParts 57 = .ok (.iload 5, 2) := by decide +kernel
theorem dX5_goParts_59 : decode cX5_goParts 59 = .ok (.iaload, 1) := by decide +kernel
theorem dX5_goParts_60 : decode cX5_goParts 60 = .ok (.iload_n 3, 1) := by decide +kernel
theorem dX5_goParts_61 : decode cX5_goParts 61 = .ok (.invokestatic 101, 3) := by decide +kernel
theorem dX5_goParts_64 : decode cX5_goParts 64 = .ok (.ifCond .eq 14, 3) := by decide +kernel
theorem dX5_goParts_67 : decode cX5_goParts 67 = .ok (.aload_n 0, 1) := by decide +kernel
theorem dX5_goParts_68 : decode cX5_goParts 68 = .ok (.getfield 28, 3) := by decide +kernel
theorem dX5_goParts_71 : decode cX5_goParts 71 = .ok (.iload 5, 2) := by decide +kernel
theorem dX5_goParts_73 : decode cX5_goParts 73 = .ok (.iaload, 1) := by decide +kernel
theorem dX5_goParts_74 : decode cX5_goParts 74 = .ok (.istore_n 3, 1) := by decide +kernel
theorem dX5_goParts_75 : decode cX5_goParts 75 = .ok (.goto 30, 3) := by decide +kernel
theorem dX5_goParts_78 : decode cX5_goParts 78 = .ok (.iload_n 1, 1) := by decide +kernel
theorem dX5_goParts_79 : decode cX5_goParts 79 = .ok (.ifCond .lt 9, 3) := by decide +kernel
theorem dX5_goParts_82 : decode cX5_goParts 82 = .ok (.iload 4, 2) := by decide +kernel
theorem dX5_goParts_84 : decode cX5_goParts 84 = .ok (.iload_n 1, 1) := by decide +kernel
theorem dX5_goParts_85 : decode cX5_goParts 85 = .ok (.if_icmp .ge 15, 3) := by decide +kernel
theorem dX5_goParts_88 : decode cX5_goParts 88 = .ok (.aload_n 0, 1) := by decide +kernel
theorem dX5_goParts_89 : decode cX5_goParts 89 = .ok (.iload_n 3, 1) := by decide +kernel
theorem dX5_goParts_90 : decode cX5_goParts 90 = .ok (.aload_n 0, 1) := by decide +kernel
theorem dX5_goParts_91 : decode cX5_goParts 91 = .ok (.getfield 28, 3) := by decide +kernel
theorem dX5_goParts_94 : decode cX5_goParts 94 = .ok (.iload 5, 2) := by decide +kernel
theorem dX5_goParts_96 : decode cX5_goParts 96 = .ok (.iaload, 1) := by decide +kernel
theorem dX5_goParts_97 : decode cX5_goParts 97 = .ok (.invokevirtual 130, 3) := by decide +kernel
theorem dX5_goParts_100 : decode cX5_goParts 100 = .ok (.iinc 4 1, 3) := by decide +kernel
theorem dX5_goParts_103 : decode cX5_goParts 103 = .ok (.iconst 0, 1) := by decide +kernel
theorem dX5_goParts_104 : decode cX5_goParts 104 = .ok (.istore_n 3, 1) := by decide +kernel
theorem dX5_goParts_105 : decode cX5_goParts 105 = .ok (.iinc 5 1, 3) := by decide +kernel
theorem dX5_goParts_108 : decode cX5_goParts 108 = .ok (.goto (-64), 3) := by decide +kernel
theorem dX5_goParts_111 : decode cX5_goParts 111 = .ok (.aload_n 0, 1) := by decide +kernel
theorem dX5_goParts_112 : decode cX5_goParts 112 = .ok (.iload_n 2, 1) := by decide +kernel
theorem dX5_goParts_113 : decode cX5_goParts 113 = .ok (.putfield 69, 3) := by decide +kernel
theorem dX5_goParts_116 : decode cX5_goParts 116 = .ok (.iload 4, 2) := by decide +kernel
theorem dX5_goParts_118 : decode cX5_goParts 118 = .ok (.ireturn, 1) := by decide +kernel
set_option maxRecDepth 20000 in
theorem ggX5_reign_X5_fault : GoodIn wsX5_reign wsX5_fault := goodIn_r _ [7, 8, 9, 10, 11, 6, 12, 13, 14, 15, 16, 17, 18, 19, 20, 21, 22, 73, 74, 75, 76, 77, 78, 79, 80, 81, 82, 83, 84, 85, 86, 87, 88, 89, 90, 91, 92, 93, 94, 95, 96] (by decide +kernel) (by decide +kernel)
set_option maxRecDepth 20000 in
theorem gX5_reign_X5_fault : GoodIn wsX5_reign (wsV RX5 134 RX5 yX5_fault wsX5_fault) := goodIn_app (goodIn_of _ (by decide +kernel)) ggX5_reign_X5_fault
set_option maxRecDepth 20000 in
theorem ggX5_reign_X5_goParts : GoodIn wsX5_reign wsX5_goParts := goodIn_r _ [26, 27, 28, 2, 29, 8, 9, 20, 21, 6, 22, 30, 31, 32, 33, 34, 35, 36, 37, 38, 39, 40, 41, 42, 43, 44, 45, 46, 47, 48, 49, 50, 51, 17, 18, 19, 52, 53, 54, 55, 56, 57, 58, 59, 60, 61, 62, 63, 64, 65, 66, 67, 68, 69, 70, 71, 72, 73, 74, 75, 76, 77, 78, 79, 80, 81, 82, 83, 84, 85, 86, 87, 88, 89, 90, 91, 92, 93, 94, 95, 96] (by decide +kernel) (by decide +kernel)
set_option maxRecDepth 20000 in
theorem gX5_reign_X5_goParts : GoodIn wsX5_reign (wsV RX5 138 RX5 yX5_goParts wsX5_goParts) := goodIn_app (goodIn_of _ (by decide +kernel)) ggX5_reign_X5_goParts
set_option maxRecDepth 20000 in
theorem ggX5_reign_X5_in : GoodIn wsX5_reign wsX5_in := goodIn_r _ [19] (by decide +kernel) (by decide +kernel)
set_option maxRecDepth 20000 in
theorem gX5_reign_X5_in : GoodIn wsX5_reign (va_wsS RX5 53 yX5_in wsX5_in) := goodIn_app (goodIn_of _ (by decide +kernel)) ggX5_reign_X5_in
theorem dX5_reign_0 : decode cX5_reign 0 = .ok (.aload_n 0, 1) := by decide +kernel
theorem dX5_reign_1 : decode cX5_reign 1 = .ok (.invokevirtual 134, 3) := by decide +kernel
theorem dX5_reign_4 : decode cX5_reign 4 = .ok (.ifCond .lt 6, 3) := by decide +kernel
theorem dX5_reign_7 : decode cX5_reign 7 = .ok (.bipush (-5), 2) := by decide +kernel
theorem dX5_reign_9 : decode cX5_reign 9 = .ok (.ireturn, 1) := by decide +kernel
theorem dX5_reign_10 : decode cX5_reign 10 = .ok (.aload_n 0, 1) := by decide +kernel
theorem dX5_reign_11 : decode cX5_reign 11 = .ok (.iload_n 1, 1) := by decide +kernel
theorem dX5_reign_12 : decode cX5_reign 12 = .ok (.invokevirtual 138, 3) := by decide +kernel
theorem dX5_reign_15 : decode cX5_reign 15 = .ok (.istore_n 2, 1) := by decide +kernel
theorem dX5_reign_16 : decode cX5_reign 16 = .ok (.iload_n 1, 1) := by decide +kernel
theorem dX5_reign_17 : decode cX5_reign 17 = .ok (.i2l, 1) := by decide +kernel
theorem dX5_reign_18 : decode cX5_reign 18 = .ok (.ldc2_w 141, 3) := by decide +kernel
theorem dX5_reign_21 : decode cX5_reign 21 = .ok (.iload_n 2, 1) := by decide +kernel
theorem dX5_reign_22 : decode cX5_reign 22 = .ok (.i2l, 1) := by decide +kernel
theorem dX5_reign_23 : decode cX5_reign 23 = .ok (.invokestatic 53, 3) := by decide +kernel
theorem dX5_reign_26 : decode cX5_reign 26 = .ok (.ifCond .ne 6, 3) := by decide +kernel
theorem dX5_reign_29 : decode cX5_reign 29 = .ok (.bipush (-2), 2) := by decide +kernel
theorem dX5_reign_31 : decode cX5_reign 31 = .ok (.ireturn, 1) := by decide +kernel
theorem dX5_reign_32 : decode cX5_reign 32 = .ok (.aload_n 0, 1) := by decide +kernel
theorem dX5_reign_33 : decode cX5_reign 33 = .ok (.getfield 117, 3) := by decide +kernel
theorem dX5_reign_36 : decode cX5_reign 36 = .ok (.ifCond .ne 8, 3) := by decide +kernel
theorem dX5_reign_39 : decode cX5_reign 39 = .ok (.bipush (-6), 2) := by decide +kernel
theorem dX5_reign_41 : decode cX5_reign 41 = .ok (.goto 7, 3) := by decide +kernel
theorem dX5_reign_44 : decode cX5_reign 44 = .ok (.aload_n 0, 1) := by decide +kernel
theorem dX5_reign_45 : decode cX5_reign 45 = .ok (.getfield 117, 3) := by decide +kernel
theorem dX5_reign_48 : decode cX5_reign 48 = .ok (.ireturn, 1) := by decide +kernel
set_option maxRecDepth 20000 in
theorem ggX5_years_X5_fault : GoodIn wsX5_years wsX5_fault := goodIn_r _ [8, 9, 10, 11, 12, 7, 13, 14, 15, 16, 17, 18, 19, 20, 21, 22, 23, 73, 74, 75, 76, 77, 78, 79, 80, 81, 82, 83, 84, 85, 86, 87, 88, 89, 90, 91, 92, 93, 94, 95, 96] (by decide +kernel) (by decide +kernel)
set_option maxRecDepth 20000 in
theorem gX5_years_X5_fault : GoodIn wsX5_years (wsV RX5 134 RX5 yX5_fault wsX5_fault) := goodIn_app (goodIn_of _ (by decide +kernel)) ggX5_years_X5_fault
set_option maxRecDepth 20000 in
theorem ggX5_years_X5_in : GoodIn wsX5_years wsX5_in := goodIn_r _ [20] (by decide +kernel) (by decide +kernel)
set_option maxRecDepth 20000 in
theorem gX5_years_X5_in : GoodIn wsX5_years (va_wsS RX5 53 yX5_in wsX5_in) := goodIn_app (goodIn_of _ (by decide +kernel)) ggX5_years_X5_in
set_option maxRecDepth 20000 in
theorem ggX5_years_X5_goParts : GoodIn wsX5_years wsX5_goParts := goodIn_r _ [27, 3, 2, 28, 29, 9, 10, 21, 22, 7, 23, 30, 31, 32, 33, 34, 35, 36, 37, 38, 39, 40, 41, 42, 43, 44, 45, 46, 47, 48, 49, 50, 51, 18, 19, 20, 52, 53, 54, 55, 56, 57, 58, 59, 60, 61, 62, 63, 64, 65, 66, 67, 68, 69, 70, 71, 72, 73, 74, 75, 76, 77, 78, 79, 80, 81, 82, 83, 84, 85, 86, 87, 88, 89, 90, 91, 92, 93, 94, 95, 96] (by decide +kernel) (by decide +kernel)
set_option maxRecDepth 20000 in
theorem gX5_years_X5_goParts : GoodIn wsX5_years (wsV RX5 138 RX5 yX5_goParts wsX5_goParts) := goodIn_app (goodIn_of _ (by decide +kernel)) ggX5_years_X5_goParts
theorem dX5_years_0 : decode cX5_years 0 = .ok (.aload_n 0, 1) := by decide +kernel
theorem dX5_years_1 : decode cX5_years 1 = .ok (.invokevirtual 134, 3) := by decide +kernel
theorem dX5_years_4 : decode cX5_years 4 = .ok (.ifCond .lt 6, 3) := by decide +kernel
theorem dX5_years_7 : decode cX5_years 7 = .ok (.bipush (-5), 2) := by decide +kernel
theorem dX5_years_9 : decode cX5_years 9 = .ok (.ireturn, 1) := by decide +kernel
theorem dX5_years_10 : decode cX5_years 10 = .ok (.iload_n 1, 1) := by decide +kernel
theorem dX5_years_11 : decode cX5_years 11 = .ok (.i2l, 1) := by decide +kernel
theorem dX5_years_12 : decode cX5_years 12 = .ok (.lconst 0, 1) := by decide +kernel
theorem dX5_years_13 : decode cX5_years 13 = .ok (.ldc2_w 57, 3) := by decide +kernel
theorem dX5_years_16 : decode cX5_years 16 = .ok (.invokestatic 53, 3) := by decide +kernel
theorem dX5_years_19 : decode cX5_years 19 = .ok (.ifCond .ne 6, 3) := by decide +kernel
theorem dX5_years_22 : decode cX5_years 22 = .ok (.bipush (-2), 2) := by decide +kernel
theorem dX5_years_24 : decode cX5_years 24 = .ok (.ireturn, 1) := by decide +kernel
theorem dX5_years_25 : decode cX5_years 25 = .ok (.aload_n 0, 1) := by decide +kernel
theorem dX5_years_26 : decode cX5_years 26 = .ok (.iconst (-1), 1) := by decide +kernel
theorem dX5_years_27 : decode cX5_years 27 = .ok (.invokevirtual 138, 3) := by decide +kernel
theorem dX5_years_30 : decode cX5_years 30 = .ok (.pop, 1) := by decide +kernel
theorem dX5_years_31 : decode cX5_years 31 = .ok (.iload_n 1, 1) := by decide +kernel
theorem dX5_years_32 : decode cX5_years 32 = .ok (.bipush 9, 2) := by decide +kernel
theorem dX5_years_34 : decode cX5_years 34 = .ok (.if_icmp .ne 10, 3) := by decide +kernel
theorem dX5_years_37 : decode cX5_years 37 = .ok (.aload_n 0, 1) := by decide +kernel
theorem dX5_years_38 : decode cX5_years 38 = .ok (.getfield 114, 3) := by decide +kernel
theorem dX5_years_41 : decode cX5_years 41 = .ok (.goto 9, 3) := by decide +kernel
theorem dX5_years_44 : decode cX5_years 44 = .ok (.aload_n 0, 1) := by decide +kernel
theorem dX5_years_45 : decode cX5_years 45 = .ok (.getfield 31, 3) := by decide +kernel
theorem dX5_years_48 : decode cX5_years 48 = .ok (.iload_n 1, 1) := by decide +kernel
theorem dX5_years_49 : decode cX5_years 49 = .ok (.iaload, 1) := by decide +kernel
theorem dX5_years_50 : decode cX5_years 50 = .ok (.ireturn, 1) := by decide +kernel
theorem dX5_weights_0 : decode cX5_weights 0 = .ok (.iconst 0, 1) := by decide +kernel
theorem dX5_weights_1 : decode cX5_weights 1 = .ok (.istore_n 1, 1) := by decide +kernel
theorem dX5_weights_2 : decode cX5_weights 2 = .ok (.iconst 0, 1) := by decide +kernel
theorem dX5_weights_3 : decode cX5_weights 3 = .ok (.istore_n 2, 1) := by decide +kernel
theorem dX5_weights_4 : decode cX5_weights 4 = .ok (.iload_n 2, 1) := by decide +kernel
theorem dX5_weights_5 : decode cX5_weights 5 = .ok (.bipush 10, 2) := by decide +kernel
theorem dX5_weights_7 : decode cX5_weights 7 = .ok (.if_icmp .ge 18, 3) := by decide +kernel
theorem dX5_weights_10 : decode cX5_weights 10 = .ok (.iload_n 1, 1) := by decide +kernel
theorem dX5_weights_11 : decode cX5_weights 11 = .ok (.aload_n 0, 1) := by decide +kernel
theorem dX5_weights_12 : decode cX5_weights 12 = .ok (.getfield 19, 3) := by decide +kernel
theorem dX5_weights_15 : decode cX5_weights 15 = .ok (.iload_n 2, 1) := by decide +kernel
theorem dX5_weights_16 : decode cX5_weights 16 = .ok (.iaload, 1) := by decide +kernel
theorem dX5_weights_17 : decode cX5_weights 17 = .ok (.iadd, 1) := by decide +kernel
theorem dX5_weights_18 : decode cX5_weights 18 = .ok (.istore_n 1, 1) := by decide +kernel
theorem dX5_weights_19 : decode cX5_weights 19 = .ok (.iinc 2 1, 3) := by decide +kernel
theorem dX5_weights_22 : decode cX5_weights 22 = .ok (.goto (-18), 3) := by decide +kernel
theorem dX5_weights_25 : decode cX5_weights 25 = .ok (.iload_n 1, 1) := by decide +kernel
theorem dX5_weights_26 : decode cX5_weights 26 = .ok (.ireturn, 1) := by decide +kernel
set_option maxRecDepth 20000 in
theorem ggX5_weight_X5_isPlace : GoodIn wsX5_weight wsX5_isPlace := goodIn_r _ [6, 1, 7, 8, 5, 9] (by decide +kernel) (by decide +kernel)
set_option maxRecDepth 20000 in
theorem gX5_weight_X5_isPlace : GoodIn wsX5_weight (va_wsS RX5 66 yX5_isPlace wsX5_isPlace) := goodIn_app (goodIn_of _ (by decide +kernel)) ggX5_weight_X5_isPlace
set_option maxRecDepth 20000 in
theorem ggX5_weight_X5_in : GoodIn wsX5_weight wsX5_in := goodIn_r _ [9] (by decide +kernel) (by decide +kernel)
set_option maxRecDepth 20000 in
theorem gX5_weight_X5_in : GoodIn wsX5_weight (va_wsS RX5 53 yX5_in wsX5_in) := goodIn_app (goodIn_of _ (by decide +kernel)) ggX5_weight_X5_in
set_option maxRecDepth 20000 in
theorem ggX5_weight_X5_weights : GoodIn wsX5_weight wsX5_weights := goodIn_r _ [13, 2, 14, 15, 16, 17, 18, 19, 20, 21, 22, 23, 24, 25, 26, 27, 28, 29, 30, 31, 32, 33, 34, 35, 36, 37] (by decide +kernel) (by decide +kernel)
set_option maxRecDepth 20000 in
theorem gX5_weight_X5_weights : GoodIn wsX5_weight (wsV RX5 143 RX5 yX5_weights wsX5_weights) := goodIn_app (goodIn_of _ (by decide +kernel)) ggX5_weight_X5_weights
theorem dX5_weight_0 : decode cX5_weight 0 = .ok (.iload_n 1, 1) := by decide +kernel
theorem dX5_weight_1 : decode cX5_weight 1 = .ok (.invokestatic 66, 3) := by decide +kernel
theorem dX5_weight_4 : decode cX5_weight 4 = .ok (.ifCond .ne 5, 3) := by decide +kernel
theorem dX5_weight_7 : decode cX5_weight 7 = .ok (.iconst (-1), 1) := by decide +kernel
theorem dX5_weight_8 : decode cX5_weight 8 = .ok (.ireturn, 1) := by decide +kernel
theorem dX5_weight_9 : decode cX5_weight 9 = .ok (.iload_n 2, 1) := by decide +kernel
theorem dX5_weight_10 : decode cX5_weight 10 = .ok (.i2l, 1) := by decide +kernel
theorem dX5_weight_11 : decode cX5_weight 11 = .ok (.lconst 0, 1) := by decide +kernel
theorem dX5_weight_12 : decode cX5_weight 12 = .ok (.ldc2_w 57, 3) := by decide +kernel
theorem dX5_weight_15 : decode cX5_weight 15 = .ok (.invokestatic 53, 3) := by decide +kernel
theorem dX5_weight_18 : decode cX5_weight 18 = .ok (.ifCond .eq 20, 3) := by decide +kernel
theorem dX5_weight_21 : decode cX5_weight 21 = .ok (.aload_n 0, 1) := by decide +kernel
theorem dX5_weight_22 : decode cX5_weight 22 = .ok (.invokevirtual 143, 3) := by decide +kernel
theorem dX5_weight_25 : decode cX5_weight 25 = .ok (.aload_n 0, 1) := by decide +kernel
theorem dX5_weight_26 : decode cX5_weight 26 = .ok (.getfield 19, 3) := by decide +kernel
theorem dX5_weight_29 : decode cX5_weight 29 = .ok (.iload_n 1, 1) := by decide +kernel
theorem dX5_weight_30 : decode cX5_weight 30 = .ok (.iaload, 1) := by decide +kernel
theorem dX5_weight_31 : decode cX5_weight 31 = .ok (.isub, 1) := by decide +kernel
theorem dX5_weight_32 : decode cX5_weight 32 = .ok (.iload_n 2, 1) := by decide +kernel
theorem dX5_weight_33 : decode cX5_weight 33 = .ok (.iadd, 1) := by decide +kernel
theorem dX5_weight_34 : decode cX5_weight 34 = .ok (.iconst 1, 1) := by decide +kernel
theorem dX5_weight_35 : decode cX5_weight 35 = .ok (.if_icmp .ge 6, 3) := by decide +kernel
theorem dX5_weight_38 : decode cX5_weight 38 = .ok (.bipush (-2), 2) := by decide +kernel
theorem dX5_weight_40 : decode cX5_weight 40 = .ok (.ireturn, 1) := by decide +kernel
theorem dX5_weight_41 : decode cX5_weight 41 = .ok (.aload_n 0, 1) := by decide +kernel
theorem dX5_weight_42 : decode cX5_weight 42 = .ok (.getfield 19, 3) := by decide +kernel
theorem dX5_weight_45 : decode cX5_weight 45 = .ok (.iload_n 1, 1) := by decide +kernel
theorem dX5_weight_46 : decode cX5_weight 46 = .ok (.iaload, 1) := by decide +kernel
theorem dX5_weight_47 : decode cX5_weight 47 = .ok (.istore_n 3, 1) := by decide +kernel
theorem dX5_weight_48 : decode cX5_weight 48 = .ok (.aload_n 0, 1) := by decide +kernel
theorem dX5_weight_49 : decode cX5_weight 49 = .ok (.getfield 19, 3) := by decide +kernel
theorem dX5_weight_52 : decode cX5_weight 52 = .ok (.iload_n 1, 1) := by decide +kernel
theorem dX5_weight_53 : decode cX5_weight 53 = .ok (.iload_n 2, 1) := by decide +kernel
theorem dX5_weight_54 : decode cX5_weight 54 = .ok (.iastore, 1) := by decide +kernel
theorem dX5_weight_55 : decode cX5_weight 55 = .ok (.iload_n 3, 1) := by decide +kernel
theorem dX5_weight_56 : decode cX5_weight 56 = .ok (.ireturn, 1) := by decide +kernel
set_option maxRecDepth 20000 in
theorem ggX5_sixtieths_X5_rulersBy : GoodIn wsX5_sixtieths wsX5_rulersBy := goodIn_r _ [7, 8, 9, 10, 6, 11, 12, 13, 14, 15, 16, 17, 18, 19, 20, 21, 22, 23, 24, 25, 26, 27, 28, 29, 30, 31, 32, 33, 37, 38, 39, 40, 41, 42, 43, 44, 45, 46, 47, 48, 49, 50, 51, 52, 53, 54, 55, 56, 57, 58, 59, 60] (by decide +kernel) (by decide +kernel)
set_option maxRecDepth 20000 in
theorem gX5_sixtieths_X5_rulersBy : GoodIn wsX5_sixtieths (wsV RX5 111 RX5 yX5_rulersBy wsX5_rulersBy) := goodIn_app (goodIn_of _ (by decide +kernel)) ggX5_sixtieths_X5_rulersBy
set_option maxRecDepth 20000 in
theorem ggX5_sixtieths_X5_ones : GoodIn wsX5_sixtieths wsX5_ones := goodIn_r _ [36] (by decide +kernel) (by decide +kernel)
set_option maxRecDepth 20000 in
theorem gX5_sixtieths_X5_ones : GoodIn wsX5_sixtieths (va_wsS RX5 72 yX5_ones wsX5_ones) := goodIn_app (goodIn_of _ (by decide +kernel)) ggX5_sixtieths_X5_ones
theorem dX5_sixtieths_0 : decode cX5_sixtieths 0 = .ok (.iconst 0, 1) := by decide +kernel
theorem dX5_sixtieths_1 : decode cX5_sixtieths 1 = .ok (.istore_n 2, 1) := by decide +kernel
theorem dX5_sixtieths_2 : decode cX5_sixtieths 2 = .ok (.iconst 0, 1) := by decide +kernel
theorem dX5_sixtieths_3 : decode cX5_sixtieths 3 = .ok (.istore_n 3, 1) := by decide +kernel
theorem dX5_sixtieths_4 : decode cX5_sixtieths 4 = .ok (.iload_n 3, 1) := by decide +kernel
theorem dX5_sixtieths_5 : decode cX5_sixtieths 5 = .ok (.bipush 10, 2) := by decide +kernel
theorem dX5_sixtieths_7 : decode cX5_sixtieths 7 = .ok (.if_icmp .ge 127, 3) := by decide +kernel
theorem dX5_sixtieths_10 : decode cX5_sixtieths 10 = .ok (.aload_n 0, 1) := by decide +kernel
theorem dX5_sixtieths_11 : decode cX5_sixtieths 11 = .ok (.iload_n 3, 1) := by decide +kernel
theorem dX5_sixtieths_12 : decode cX5_sixtieths 12 = .ok (.invokevirtual 111, 3) := by decide +kernel
theorem dX5_sixtieths_15 : decode cX5_sixtieths 15 = .ok (.istore 4, 2) := by decide +kernel
theorem dX5_sixtieths_17 : decode cX5_sixtieths 17 = .ok (.iconst 0, 1) := by decide +kernel
theorem dX5_sixtieths_18 : decode cX5_sixtieths 18 = .ok (.istore 5, 2) := by decide +kernel
theorem dX5_sixtieths_20 : decode cX5_sixtieths 20 = .ok (.iconst 0, 1) := by decide +kernel
theorem dX5_sixtieths_21 : decode cX5_sixtieths 21 = .ok (.istore 6, 2) := by decide +kernel
theorem dX5_sixtieths_23 : decode cX5_sixtieths 23 = .ok (.iload 6, 2) := by decide +kernel
theorem dX5_sixtieths_25 : decode cX5_sixtieths 25 = .ok (.bipush 6, 2) := by decide +kernel
theorem dX5_sixtieths_27 : decode cX5_sixtieths 27 = .ok (.if_icmp .ge 71, 3) := by decide +kernel
theorem dX5_sixtieths_30 : decode cX5_sixtieths 30 = .ok (.iload_n 1, 1) := by decide +kernel
theorem dX5_sixtieths_31 : decode cX5_sixtieths 31 = .ok (.bipush 6, 2) := by decide +kernel
theorem dX5_sixtieths_33 : decode cX5_sixtieths 33 = .ok (.if_icmp .ge 17, 3) := by decide +kernel
theorem dX5_sixtieths_36 : decode cX5_sixtieths 36 = .ok (.iload 6, 2) := by decide +kernel
theorem dX5_sixtieths_38 : decode cX5_sixtieths 38 = .ok (.iload_n 1, 1) := by decide +kernel
theorem dX5_sixtieths_39 : decode cX5_sixtieths 39 = .ok (.if_icmp .ne 7, 3) := by decide +kernel
theorem dX5_sixtieths_42 : decode cX5_sixtieths 42 = .ok (.iconst 1, 1) := by decide +kernel
theorem dX5_sixtieths_43 : decode cX5_sixtieths 43 = .ok (.goto 26, 3) := by decide +kernel
theorem dX5_sixtieths_46 : decode cX5_sixtieths 46 = .ok (.iconst 0, 1) := by decide +kernel
theorem dX5_sixtieths_47 : decode cX5_sixtieths 47 = .ok (.goto 22, 3) := by decide +kernel
theorem dX5_sixtieths_50 : decode cX5_sixtieths 50 = .ok (.aload_n 0, 1) := by decide +kernel
theorem dX5_sixtieths_51 : decode cX5_sixtieths 51 = .ok (.getfield 16, 3) := by decide +kernel
theorem dX5_sixtieths_54 : decode cX5_sixtieths 54 = .ok (.iload 6, 2) := by decide +kernel
theorem dX5_sixtieths_56 : decode cX5_sixtieths 56 = .ok (.iaload, 1) := by decide +kernel
theorem dX5_sixtieths_57 : decode cX5_sixtieths 57 = .ok (.iload_n 1, 1) := by decide +kernel
theorem dX5_sixtieths_58 : decode cX5_sixtieths 58 = .ok (.bipush 6, 2) := by decide +kernel
theorem dX5_sixtieths_60 : decode cX5_sixtieths 60 = .ok (.isub, 1) := by decide +kernel
theorem dX5_sixtieths_61 : decode cX5_sixtieths 61 = .ok (.if_icmp .ne 7, 3) := by decide +kernel
theorem dX5_sixtieths_64 : decode cX5_sixtieths 64 = .ok (.iconst 1, 1) := by decide +kernel
theorem dX5_sixtieths_65 : decode cX5_sixtieths 65 = .ok (.goto 4, 3) := by decide +kernel
theorem dX5_sixtieths_68 : decode cX5_sixtieths 68 = .ok (.iconst 0, 1) := by decide +kernel
theorem dX5_sixtieths_69 : decode cX5_sixtieths 69 = .ok (.istore 7, 2) := by decide +kernel
theorem dX5_sixtieths_71 : decode cX5_sixtieths 71 = .ok (.iload 5, 2) := by decide +kernel
theorem dX5_sixtieths_73 : decode cX5_sixtieths 73 = .ok (.iload 7, 2) := by decide +kernel
theorem dX5_sixtieths_75 : decode cX5_sixtieths 75 = .ok (.ifCond .eq 13, 3) := by decide +kernel
theorem dX5_sixtieths_78 : decode cX5_sixtieths 78 = .ok (.iload 4, 2) := by decide +kernel
theorem dX5_sixtieths_80 : decode cX5_sixtieths 80 = .ok (.iload 6, 2) := by decide +kernel
theorem dX5_sixtieths_82 : decode cX5_sixtieths 82 = .ok (.ishr, 1) := by decide +kernel
theorem dX5_sixtieths_83 : decode cX5_sixtieths 83 = .ok (.iconst 1, 1) := by decide +kernel
theorem dX5_sixtieths_84 : decode cX5_sixtieths 84 = .ok (.iand, 1) := by decide +kernel
theorem dX5_sixtieths_85 : decode cX5_sixtieths 85 = .ok (.goto 4, 3) := by decide +kernel
theorem dX5_sixtieths_88 : decode cX5_sixtieths 88 = .ok (.iconst 0, 1) := by decide +kernel
theorem dX5_sixtieths_89 : decode cX5_sixtieths 89 = .ok (.iadd, 1) := by decide +kernel
theorem dX5_sixtieths_90 : decode cX5_sixtieths 90 = .ok (.istore 5, 2) := by decide +kernel
theorem dX5_sixtieths_92 : decode cX5_sixtieths 92 = .ok (.iinc 6 1, 3) := by decide +kernel
theorem dX5_sixtieths_95 : decode cX5_sixtieths 95 = .ok (.goto (-72), 3) := by decide +kernel
theorem dX5_sixtieths_98 : decode cX5_sixtieths 98 = .ok (.iload_n 2, 1) := by decide +kernel
theorem dX5_sixtieths_99 : decode cX5_sixtieths 99 = .ok (.iload 4, 2) := by decide +kernel
theorem dX5_sixtieths_101 : decode cX5_sixtieths 101 = .ok (.ifCond .ne 7, 3) := by decide +kernel
theorem dX5_sixtieths_104 : decode cX5_sixtieths 104 = .ok (.iconst 0, 1) := by decide +kernel
theorem dX5_sixtieths_105 : decode cX5_sixtieths 105 = .ok (.goto 21, 3) := by decide +kernel
theorem dX5_sixtieths_108 : decode cX5_sixtieths 108 = .ok (.aload_n 0, 1) := by decide +kernel
theorem dX5_sixtieths_109 : decode cX5_sixtieths 109 = .ok (.getfield 19, 3) := by decide +kernel
theorem dX5_sixtieths_112 : decode cX5_sixtieths 112 = .ok (.iload_n 3, 1) := by decide +kernel
theorem dX5_sixtieths_113 : decode cX5_sixtieths 113 = .ok (.iaload, 1) := by decide +kernel
theorem dX5_sixtieths_114 : decode cX5_sixtieths 114 = .ok (.iload 5, 2) := by decide +kernel
theorem dX5_sixtieths_116 : decode cX5_sixtieths 116 = .ok (.imul, 1) := by decide +kernel
theorem dX5_sixtieths_117 : decode cX5_sixtieths 117 = .ok (.bipush 60, 2) := by decide +kernel
theorem dX5_sixtieths_119 : decode cX5_sixtieths 119 = .ok (.iload 4, 2) := by decide +kernel
theorem dX5_sixtieths_121 : decode cX5_sixtieths 121 = .ok (.invokestatic 72, 3) := by decide +kernel
theorem dX5_sixtieths_124 : decode cX5_sixtieths 124 = .ok (.idiv, 1) := by decide +kernel
theorem dX5_sixtieths_125 : decode cX5_sixtieths 125 = .ok (.imul, 1) := by decide +kernel
theorem dX5_sixtieths_126 : decode cX5_sixtieths 126 = .ok (.iadd, 1) := by decide +kernel
theorem dX5_sixtieths_127 : decode cX5_sixtieths 127 = .ok (.istore_n 2, 1) := by decide +kernel
theorem dX5_sixtieths_128 : decode cX5_sixtieths 128 = .ok (.iinc 3 1, 3) := by decide +kernel
theorem dX5_sixtieths_131 : decode cX5_sixtieths 131 = .ok (.goto (-127), 3) := by decide +kernel
theorem dX5_sixtieths_134 : decode cX5_sixtieths 134 = .ok (.iload_n 2, 1) := by decide +kernel
theorem dX5_sixtieths_135 : decode cX5_sixtieths 135 = .ok (.ireturn, 1) := by decide +kernel
theorem dX5_lowest_0 : decode cX5_lowest 0 = .ok (.lload_n 2, 1) := by decide +kernel
theorem dX5_lowest_1 : decode cX5_lowest 1 = .ok (.lstore 5, 2) := by decide +kernel
theorem dX5_lowest_3 : decode cX5_lowest 3 = .ok (.lload_n 0, 1) := by decide +kernel
theorem dX5_lowest_4 : decode cX5_lowest 4 = .ok (.lstore 7, 2) := by decide +kernel
theorem dX5_lowest_6 : decode cX5_lowest 6 = .ok (.lload 7, 2) := by decide +kernel
theorem dX5_lowest_8 : decode cX5_lowest 8 = .ok (.lconst 0, 1) := by decide +kernel
theorem dX5_lowest_9 : decode cX5_lowest 9 = .ok (.lcmp, 1) := by decide +kernel
theorem dX5_lowest_10 : decode cX5_lowest 10 = .ok (.ifCond .eq 21, 3) := by decide +kernel
theorem dX5_lowest_13 : decode cX5_lowest 13 = .ok (.lload 5, 2) := by decide +kernel
theorem dX5_lowest_15 : decode cX5_lowest 15 = .ok (.lload 7, 2) := by decide +kernel
theorem dX5_lowest_17 : decode cX5_lowest 17 = .ok (.lrem, 1) := by decide +kernel
theorem dX5_lowest_18 : decode cX5_lowest 18 = .ok (.lstore 9, 2) := by decide +kernel
theorem dX5_lowest_20 : decode cX5_lowest 20 = .ok (.lload 7, 2) := by decide +kernel
theorem dX5_lowest_22 : decode cX5_lowest 22 = .ok (.lstore 5, 2) := by decide +kernel
theorem dX5_lowest_24 : decode cX5_lowest 24 = .ok (.lload 9, 2) := by decide +kernel
theorem dX5_lowest_26 : decode cX5_lowest 26 = .ok (.lstore 7, 2) := by decide +kernel
theorem dX5_lowest_28 : decode cX5_lowest 28 = .ok (.goto (-22), 3) := by decide +kernel
theorem dX5_lowest_31 : decode cX5_lowest 31 = .ok (.iload 4, 2) := by decide +kernel
theorem dX5_lowest_33 : decode cX5_lowest 33 = .ok (.ifCond .ne 10, 3) := by decide +kernel
theorem dX5_lowest_36 : decode cX5_lowest 36 = .ok (.lload_n 0, 1) := by decide +kernel
theorem dX5_lowest_37 : decode cX5_lowest 37 = .ok (.lload 5, 2) := by decide +kernel
theorem dX5_lowest_39 : decode cX5_lowest 39 = .ok (.ldiv, 1) := by decide +kernel
theorem dX5_lowest_40 : decode cX5_lowest 40 = .ok (.goto 7, 3) := by decide +kernel
theorem dX5_lowest_43 : decode cX5_lowest 43 = .ok (.lload_n 2, 1) := by decide +kernel
theorem dX5_lowest_44 : decode cX5_lowest 44 = .ok (.lload 5, 2) := by decide +kernel
theorem dX5_lowest_46 : decode cX5_lowest 46 = .ok (.ldiv, 1) := by decide +kernel
theorem dX5_lowest_47 : decode cX5_lowest 47 = .ok (.lreturn, 1) := by decide +kernel
set_option maxRecDepth 20000 in
theorem ggX5_chance_X5_isThere : GoodIn wsX5_chance wsX5_isThere := goodIn_r _ [9, 10, 11, 12, 8, 13, 14, 15, 16, 17, 52, 53, 54, 55, 56, 57, 58, 59, 60, 61, 62, 63, 64, 65, 66, 67, 68, 69, 70, 71, 72, 73, 74, 75] (by decide +kernel) (by decide +kernel)
set_option maxRecDepth 20000 in
theorem gX5_chance_X5_isThere : GoodIn wsX5_chance (wsV RX5 76 RX5 yX5_isThere wsX5_isThere) := goodIn_app (goodIn_of _ (by decide +kernel)) ggX5_chance_X5_isThere
set_option maxRecDepth 20000 in
theorem ggX5_chance_X5_in : GoodIn wsX5_chance wsX5_in := goodIn_r _ [17] (by decide +kernel) (by decide +kernel)
set_option maxRecDepth 20000 in
theorem gX5_chance_X5_in : GoodIn wsX5_chance (va_wsS RX5 53 yX5_in wsX5_in) := goodIn_app (goodIn_of _ (by decide +kernel)) ggX5_chance_X5_in
set_option maxRecDepth 20000 in
theorem ggX5_chance_X5_sixtieths : GoodIn wsX5_chance wsX5_sixtieths := goodIn_r _ [21, 22, 23, 24, 25, 26, 8, 27, 28, 29, 30, 31, 32, 33, 34, 35, 36, 37, 38, 39, 40, 41, 5, 6, 7, 9, 10, 11, 12, 13, 14, 15, 16, 17, 42, 43, 44, 52, 53, 54, 55, 56, 57, 58, 59, 60, 61, 62, 63, 64, 65, 66, 67, 68, 69, 70, 71, 72, 73, 74, 75] (by decide +kernel) (by decide +kernel)
set_option maxRecDepth 20000 in
theorem gX5_chance_X5_sixtieths : GoodIn wsX5_chance (wsV RX5 152 RX5 yX5_sixtieths wsX5_sixtieths) := goodIn_app (goodIn_of _ (by decide +kernel)) ggX5_chance_X5_sixtieths
set_option maxRecDepth 20000 in
theorem ggX5_chance_X5_weights : GoodIn wsX5_chance wsX5_weights := goodIn_r _ [48, 23, 52, 53, 54, 55, 56, 57, 58, 59, 60, 61, 62, 63, 64, 65, 66, 67, 68, 69, 70, 71, 72, 73, 74, 75] (by decide +kernel) (by decide +kernel)
set_option maxRecDepth 20000 in
theorem gX5_chance_X5_weights : GoodIn wsX5_chance (wsV RX5 143 RX5 yX5_weights wsX5_weights) := goodIn_app (goodIn_of _ (by decide +kernel)) ggX5_chance_X5_weights
set_option maxRecDepth 20000 in
theorem ggX5_chance_X5_lowest : GoodIn wsX5_chance wsX5_lowest := goodIn_r _ [51] (by decide +kernel) (by decide +kernel)
set_option maxRecDepth 20000 in
theorem gX5_chance_X5_lowest : GoodIn wsX5_chance (va_wsS RX5 155 yX5_lowest wsX5_lowest) := goodIn_app (goodIn_of _ (by decide +kernel)) ggX5_chance_X5_lowest
theorem dX5_chance_0 : decode cX5_chance 0 = .ok (.aload_n 0, 1) := by decide +kernel
theorem dX5_chance_1 : decode cX5_chance 1 = .ok (.iload_n 1, 1) := by decide +kernel
theorem dX5_chance_2 : decode cX5_chance 2 = .ok (.invokevirtual 76, 3) := by decide +kernel
theorem dX5_chance_5 : decode cX5_chance 5 = .ok (.ifCond .ne 21, 3) := by decide +kernel
theorem dX5_chance_8 : decode cX5_chance 8 = .ok (.iload_n 1, 1) := by decide +kernel
theorem dX5_chance_9 : decode cX5_chance 9 = .ok (.i2l, 1) := by decide +kernel
theorem dX5_chance_10 : decode cX5_chance 10 = .ok (.ldc2_w 146, 3) := by decide +kernel
theorem dX5_chance_13 : decode cX5_chance 13 = .ok (.ldc2_w 148, 3) := by decide +kernel
theorem dX5_chance_16 : decode cX5_chance 16 = .ok (.invokestatic 53, 3) := by decide +kernel
theorem dX5_chance_19 : decode cX5_chance 19 = .ok (.ifCond .ne 7, 3) := by decide +kernel
theorem dX5_chance_22 : decode cX5_chance 22 = .ok (.ldc2_w 150, 3) := by decide +kernel
theorem dX5_chance_25 : decode cX5_chance 25 = .ok (.lreturn, 1) := by decide +kernel
theorem dX5_chance_26 : decode cX5_chance 26 = .ok (.iload_n 2, 1) := by decide +kernel
theorem dX5_chance_27 : decode cX5_chance 27 = .ok (.i2l, 1) := by decide +kernel
theorem dX5_chance_28 : decode cX5_chance 28 = .ok (.lconst 0, 1) := by decide +kernel
theorem dX5_chance_29 : decode cX5_chance 29 = .ok (.lconst 1, 1) := by decide +kernel
theorem dX5_chance_30 : decode cX5_chance 30 = .ok (.invokestatic 53, 3) := by decide +kernel
theorem dX5_chance_33 : decode cX5_chance 33 = .ok (.ifCond .eq 24, 3) := by decide +kernel
theorem dX5_chance_36 : decode cX5_chance 36 = .ok (.aload_n 0, 1) := by decide +kernel
theorem dX5_chance_37 : decode cX5_chance 37 = .ok (.iload_n 1, 1) := by decide +kernel
theorem dX5_chance_38 : decode cX5_chance 38 = .ok (.invokevirtual 152, 3) := by decide +kernel
theorem dX5_chance_41 : decode cX5_chance 41 = .ok (.i2l, 1) := by decide +kernel
theorem dX5_chance_42 : decode cX5_chance 42 = .ok (.bipush 60, 2) := by decide +kernel
theorem dX5_chance_44 : decode cX5_chance 44 = .ok (.aload_n 0, 1) := by decide +kernel
theorem dX5_chance_45 : decode cX5_chance 45 = .ok (.invokevirtual 143, 3) := by decide +kernel
theorem dX5_chance_48 : decode cX5_chance 48 = .ok (.imul, 1) := by decide +kernel
theorem dX5_chance_49 : decode cX5_chance 49 = .ok (.i2l, 1) := by decide +kernel
theorem dX5_chance_50 : decode cX5_chance 50 = .ok (.iload_n 2, 1) := by decide +kernel
theorem dX5_chance_51 : decode cX5_chance 51 = .ok (.invokestatic 155, 3) := by decide +kernel
theorem dX5_chance_54 : decode cX5_chance 54 = .ok (.goto 6, 3) := by decide +kernel
theorem dX5_chance_57 : decode cX5_chance 57 = .ok (.ldc2_w 159, 3) := by decide +kernel
theorem dX5_chance_60 : decode cX5_chance 60 = .ok (.lreturn, 1) := by decide +kernel
set_option maxRecDepth 20000 in
theorem ggX5_findStand_X5_sixtieths : GoodIn wsX5_findStand wsX5_sixtieths := goodIn_r _ [8, 9, 10, 11, 12, 13, 7, 14, 15, 16, 17, 18, 19, 20, 21, 22, 23, 1, 24, 25, 26, 27, 28, 29, 30, 31, 32, 33, 34, 35, 36, 37, 38, 39, 40, 41, 42, 43, 44, 45, 46, 47, 48, 49, 50, 51, 52, 53, 54, 55, 56, 57, 58, 59, 60, 61, 62, 63, 64, 65, 66] (by decide +kernel) (by decide +kernel)
set_option maxRecDepth 20000 in
theorem gX5_findStand_X5_sixtieths : GoodIn wsX5_findStand (wsV RX5 152 RX5 yX5_sixtieths wsX5_sixtieths) := goodIn_app (goodIn_of _ (by decide +kernel)) ggX5_findStand_X5_sixtieths
theorem dX5_findStand_0 : decode cX5_findStand 0 = .ok (.aload_n 0, 1) := by decide +kernel
theorem dX5_findStand_1 : decode cX5_findStand 1 = .ok (.getfield 7, 3) := by decide +kernel
theorem dX5_findStand_4 : decode cX5_findStand 4 = .ok (.iload_n 1, 1) := by decide +kernel
theorem dX5_findStand_5 : decode cX5_findStand 5 = .ok (.iaload, 1) := by decide +kernel
theorem dX5_findStand_6 : decode cX5_findStand 6 = .ok (.istore_n 2, 1) := by decide +kernel
theorem dX5_findStand_7 : decode cX5_findStand 7 = .ok (.aload_n 0, 1) := by decide +kernel
theorem dX5_findStand_8 : decode cX5_findStand 8 = .ok (.bipush (-6), 2) := by decide +kernel
theorem dX5_findStand_10 : decode cX5_findStand 10 = .ok (.putfield 161, 3) := by decide +kernel
theorem dX5_findStand_13 : decode cX5_findStand 13 = .ok (.aload_n 0, 1) := by decide +kernel
theorem dX5_findStand_14 : decode cX5_findStand 14 = .ok (.iconst (-1), 1) := by decide +kernel
theorem dX5_findStand_15 : decode cX5_findStand 15 = .ok (.putfield 164, 3) := by decide +kernel
theorem dX5_findStand_18 : decode cX5_findStand 18 = .ok (.iconst 0, 1) := by decide +kernel
theorem dX5_findStand_19 : decode cX5_findStand 19 = .ok (.istore_n 3, 1) := by decide +kernel
theorem dX5_findStand_20 : decode cX5_findStand 20 = .ok (.iload_n 3, 1) := by decide +kernel
theorem dX5_findStand_21 : decode cX5_findStand 21 = .ok (.bipush 10, 2) := by decide +kernel
theorem dX5_findStand_23 : decode cX5_findStand 23 = .ok (.if_icmp .ge 66, 3) := by decide +kernel
theorem dX5_findStand_26 : decode cX5_findStand 26 = .ok (.aload_n 0, 1) := by decide +kernel
theorem dX5_findStand_27 : decode cX5_findStand 27 = .ok (.getfield 7, 3) := by decide +kernel
theorem dX5_findStand_30 : decode cX5_findStand 30 = .ok (.iload_n 1, 1) := by decide +kernel
theorem dX5_findStand_31 : decode cX5_findStand 31 = .ok (.iload_n 3, 1) := by decide +kernel
theorem dX5_findStand_32 : decode cX5_findStand 32 = .ok (.iastore, 1) := by decide +kernel
theorem dX5_findStand_33 : decode cX5_findStand 33 = .ok (.aload_n 0, 1) := by decide +kernel
theorem dX5_findStand_34 : decode cX5_findStand 34 = .ok (.iload_n 1, 1) := by decide +kernel
theorem dX5_findStand_35 : decode cX5_findStand 35 = .ok (.invokevirtual 152, 3) := by decide +kernel
theorem dX5_findStand_38 : decode cX5_findStand 38 = .ok (.istore 4, 2) := by decide +kernel
theorem dX5_findStand_40 : decode cX5_findStand 40 = .ok (.aload_n 0, 1) := by decide +kernel
theorem dX5_findStand_41 : decode cX5_findStand 41 = .ok (.iload 4, 2) := by decide +kernel
theorem dX5_findStand_43 : decode cX5_findStand 43 = .ok (.aload_n 0, 1) := by decide +kernel
theorem dX5_findStand_44 : decode cX5_findStand 44 = .ok (.getfield 164, 3) := by decide +kernel
theorem dX5_findStand_47 : decode cX5_findStand 47 = .ok (.if_icmp .le 7, 3) := by decide +kernel
theorem dX5_findStand_50 : decode cX5_findStand 50 = .ok (.iload_n 3, 1) := by decide +kernel
theorem dX5_findStand_51 : decode cX5_findStand 51 = .ok (.goto 7, 3) := by decide +kernel
theorem dX5_findStand_54 : decode cX5_findStand 54 = .ok (.aload_n 0, 1) := by decide +kernel
theorem dX5_findStand_55 : decode cX5_findStand 55 = .ok (.getfield 161, 3) := by decide +kernel
theorem dX5_findStand_58 : decode cX5_findStand 58 = .ok (.putfield 161, 3) := by decide +kernel
theorem dX5_findStand_61 : decode cX5_findStand 61 = .ok (.aload_n 0, 1) := by decide +kernel
theorem dX5_findStand_62 : decode cX5_findStand 62 = .ok (.iload 4, 2) := by decide +kernel
theorem dX5_findStand_64 : decode cX5_findStand 64 = .ok (.aload_n 0, 1) := by decide +kernel
theorem dX5_findStand_65 : decode cX5_findStand 65 = .ok (.getfield 164, 3) := by decide +kernel
theorem dX5_findStand_68 : decode cX5_findStand 68 = .ok (.if_icmp .le 8, 3) := by decide +kernel
theorem dX5_findStand_71 : decode cX5_findStand 71 = .ok (.iload 4, 2) := by decide +kernel
theorem dX5_findStand_73 : decode cX5_findStand 73 = .ok (.goto 7, 3) := by decide +kernel
theorem dX5_findStand_76 : decode cX5_findStand 76 = .ok (.aload_n 0, 1) := by decide +kernel
theorem dX5_findStand_77 : decode cX5_findStand 77 = .ok (.getfield 164, 3) := by decide +kernel
theorem dX5_findStand_80 : decode cX5_findStand 80 = .ok (.putfield 164, 3) := by decide +kernel
theorem dX5_findStand_83 : decode cX5_findStand 83 = .ok (.iinc 3 1, 3) := by decide +kernel
theorem dX5_findStand_86 : decode cX5_findStand 86 = .ok (.goto (-66), 3) := by decide +kernel
theorem dX5_findStand_89 : decode cX5_findStand 89 = .ok (.aload_n 0, 1) := by decide +kernel
theorem dX5_findStand_90 : decode cX5_findStand 90 = .ok (.getfield 7, 3) := by decide +kernel
theorem dX5_findStand_93 : decode cX5_findStand 93 = .ok (.iload_n 1, 1) := by decide +kernel
theorem dX5_findStand_94 : decode cX5_findStand 94 = .ok (.iload_n 2, 1) := by decide +kernel
theorem dX5_findStand_95 : decode cX5_findStand 95 = .ok (.iastore, 1) := by decide +kernel
theorem dX5_findStand_96 : decode cX5_findStand 96 = .ok (.return_, 1) := by decide +kernel
set_option maxRecDepth 20000 in
theorem ggX5_best_X5_isThere : GoodIn wsX5_best wsX5_isThere := goodIn_r _ [6, 7, 8, 9, 5, 10, 11, 12, 13, 14, 47, 48, 49, 50, 51, 52, 53, 54, 55, 56, 57, 58, 59, 60, 61, 62, 63, 64, 65, 66, 67, 68, 69, 70] (by decide +kernel) (by decide +kernel)
set_option maxRecDepth 20000 in
theorem gX5_best_X5_isThere : GoodIn wsX5_best (wsV RX5 76 RX5 yX5_isThere wsX5_isThere) := goodIn_app (goodIn_of _ (by decide +kernel)) ggX5_best_X5_isThere
set_option maxRecDepth 20000 in
theorem ggX5_best_X5_findStand : GoodIn wsX5_best wsX5_findStand := goodIn_r _ [18, 19, 1, 20, 21, 22, 23, 5, 24, 25, 26, 27, 28, 29, 30, 31, 32, 33, 34, 35, 36, 37, 38, 39, 40, 41, 42, 43, 2, 3, 4, 6, 7, 8, 9, 10, 11, 12, 13, 14, 44, 45, 46, 47, 48, 49, 50, 51, 52, 53, 54, 55, 56, 57, 58, 59, 60, 61, 62, 63, 64, 65, 66, 67, 68, 69, 70] (by decide +kernel) (by decide +kernel)
set_option maxRecDepth 20000 in
theorem gX5_best_X5_findStand : GoodIn wsX5_best (wsV RX5 167 RX5 yX5_findStand wsX5_findStand) := goodIn_app (goodIn_of _ (by decide +kernel)) ggX5_best_X5_findStand
theorem dX5_best_0 : decode cX5_best 0 = .ok (.aload_n 0, 1) := by decide +kernel
theorem dX5_best_1 : decode cX5_best 1 = .ok (.iload_n 1, 1) := by decide +kernel
theorem dX5_best_2 : decode cX5_best 2 = .ok (.invokevirtual 76, 3) := by decide +kernel
theorem dX5_best_5 : decode cX5_best 5 = .ok (.ifCond .ne 5, 3) := by decide +kernel
theorem dX5_best_8 : decode cX5_best 8 = .ok (.iconst (-1), 1) := by decide +kernel
theorem dX5_best_9 : decode cX5_best 9 = .ok (.ireturn, 1) := by decide +kernel
theorem dX5_best_10 : decode cX5_best 10 = .ok (.aload_n 0, 1) := by decide +kernel
theorem dX5_best_11 : decode cX5_best 11 = .ok (.iload_n 1, 1) := by decide +kernel
theorem dX5_best_12 : decode cX5_best 12 = .ok (.invokevirtual 167, 3) := by decide +kernel
theorem dX5_best_15 : decode cX5_best 15 = .ok (.aload_n 0, 1) := by decide +kernel
theorem dX5_best_16 : decode cX5_best 16 = .ok (.getfield 161, 3) := by decide +kernel
theorem dX5_best_19 : decode cX5_best 19 = .ok (.ireturn, 1) := by decide +kernel
set_option maxRecDepth 20000 in
theorem ggX5_bestChance_X5_isThere : GoodIn wsX5_bestChance wsX5_isThere := goodIn_r _ [8, 9, 10, 11, 7, 12, 13, 14, 15, 16, 56, 57, 58, 59, 60, 61, 62, 63, 64, 65, 66, 67, 68, 69, 70, 71, 72, 73, 74, 75, 76, 77, 78, 79] (by decide +kernel) (by decide +kernel)
set_option maxRecDepth 20000 in
theorem gX5_bestChance_X5_isThere : GoodIn wsX5_bestChance (wsV RX5 76 RX5 yX5_isThere wsX5_isThere) := goodIn_app (goodIn_of _ (by decide +kernel)) ggX5_bestChance_X5_isThere
set_option maxRecDepth 20000 in
theorem ggX5_bestChance_X5_in : GoodIn wsX5_bestChance wsX5_in := goodIn_r _ [16] (by decide +kernel) (by decide +kernel)
set_option maxRecDepth 20000 in
theorem gX5_bestChance_X5_in : GoodIn wsX5_bestChance (va_wsS RX5 53 yX5_in wsX5_in) := goodIn_app (goodIn_of _ (by decide +kernel)) ggX5_bestChance_X5_in
set_option maxRecDepth 20000 in
theorem ggX5_bestChance_X5_findStand : GoodIn wsX5_bestChance wsX5_findStand := goodIn_r _ [20, 21, 22, 3, 23, 24, 25, 7, 26, 27, 28, 29, 30, 31, 32, 33, 34, 35, 36, 37, 38, 39, 40, 41, 42, 43, 44, 45, 4, 5, 6, 8, 9, 10, 11, 12, 13, 14, 15, 16, 46, 47, 48, 56, 57, 58, 59, 60, 61, 62, 63, 64, 65, 66, 67, 68, 69, 70, 71, 72, 73, 74, 75, 76, 77, 78, 79] (by decide +kernel) (by decide +kernel)
set_option maxRecDepth 20000 in
theorem gX5_bestChance_X5_findStand : GoodIn wsX5_bestChance (wsV RX5 167 RX5 yX5_findStand wsX5_findStand) := goodIn_app (goodIn_of _ (by decide +kernel)) ggX5_bestChance_X5_findStand
set_option maxRecDepth 20000 in
theorem ggX5_bestChance_X5_weights : GoodIn wsX5_bestChance wsX5_weights := goodIn_r _ [52, 28, 56, 57, 58, 59, 60, 61, 62, 63, 64, 65, 66, 67, 68, 69, 70, 71, 72, 73, 74, 75, 76, 77, 78, 79] (by decide +kernel) (by decide +kernel)
set_option maxRecDepth 20000 in
theorem gX5_bestChance_X5_weights : GoodIn wsX5_bestChance (wsV RX5 143 RX5 yX5_weights wsX5_weights) := goodIn_app (goodIn_of _ (by decide +kernel)) ggX5_bestChance_X5_weights
set_option maxRecDepth 20000 in
theorem ggX5_bestChance_X5_lowest : GoodIn wsX5_bestChance wsX5_lowest := goodIn_r _ [55] (by decide +kernel) (by decide +kernel)
set_option maxRecDepth 20000 in
theorem gX5_bestChance_X5_lowest : GoodIn wsX5_bestChance (va_wsS RX5 155 yX5_lowest wsX5_lowest) := goodIn_app (goodIn_of _ (by decide +kernel)) ggX5_bestChance_X5_lowest
theorem dX5_bestChance_0 : decode cX5_bestChance 0 = .ok (.aload_n 0, 1) := by decide +kernel
theorem dX5_bestChance_1 : decode cX5_bestChance 1 = .ok (.iload_n 1, 1) := by decide +kernel
theorem dX5_bestChance_2 : decode cX5_bestChance 2 = .ok (.invokevirtual 76, 3) := by decide +kernel
theorem dX5_bestChance_5 : decode cX5_bestChance 5 = .ok (.ifCond .ne 7, 3) := by decide +kernel
theorem dX5_bestChance_8 : decode cX5_bestChance 8 = .ok (.ldc2_w 150, 3) := by decide +kernel
theorem dX5_bestChance_11 : decode cX5_bestChance 11 = .ok (.lreturn, 1) := by decide +kernel
theorem dX5_bestChance_12 : decode cX5_bestChance 12 = .ok (.iload_n 2, 1) := by decide +kernel
theorem dX5_bestChance_13 : decode cX5_bestChance 13 = .ok (.i2l, 1) := by decide +kernel
theorem dX5_bestChance_14 : decode cX5_bestChance 14 = .ok (.lconst 0, 1) := by decide +kernel
theorem dX5_bestChance_15 : decode cX5_bestChance 15 = .ok (.lconst 1, 1) := by decide +kernel
theorem dX5_bestChance_16 : decode cX5_bestChance 16 = .ok (.invokestatic 53, 3) := by decide +kernel
theorem dX5_bestChance_19 : decode cX5_bestChance 19 = .ok (.ifCond .ne 7, 3) := by decide +kernel
theorem dX5_bestChance_22 : decode cX5_bestChance 22 = .ok (.ldc2_w 159, 3) := by decide +kernel
theorem dX5_bestChance_25 : decode cX5_bestChance 25 = .ok (.lreturn, 1) := by decide +kernel
theorem dX5_bestChance_26 : decode cX5_bestChance 26 = .ok (.aload_n 0, 1) := by decide +kernel
theorem dX5_bestChance_27 : decode cX5_bestChance 27 = .ok (.iload_n 1, 1) := by decide +kernel
theorem dX5_bestChance_28 : decode cX5_bestChance 28 = .ok (.invokevirtual 167, 3) := by decide +kernel
theorem dX5_bestChance_31 : decode cX5_bestChance 31 = .ok (.aload_n 0, 1) := by decide +kernel
theorem dX5_bestChance_32 : decode cX5_bestChance 32 = .ok (.getfield 164, 3) := by decide +kernel
theorem dX5_bestChance_35 : decode cX5_bestChance 35 = .ok (.i2l, 1) := by decide +kernel
theorem dX5_bestChance_36 : decode cX5_bestChance 36 = .ok (.bipush 60, 2) := by decide +kernel
theorem dX5_bestChance_38 : decode cX5_bestChance 38 = .ok (.aload_n 0, 1) := by decide +kernel
theorem dX5_bestChance_39 : decode cX5_bestChance 39 = .ok (.invokevirtual 143, 3) := by decide +kernel
theorem dX5_bestChance_42 : decode cX5_bestChance 42 = .ok (.imul, 1) := by decide +kernel
theorem dX5_bestChance_43 : decode cX5_bestChance 43 = .ok (.i2l, 1) := by decide +kernel
theorem dX5_bestChance_44 : decode cX5_bestChance 44 = .ok (.iload_n 2, 1) := by decide +kernel
theorem dX5_bestChance_45 : decode cX5_bestChance 45 = .ok (.invokestatic 155, 3) := by decide +kernel
theorem dX5_bestChance_48 : decode cX5_bestChance 48 = .ok (.lreturn, 1) := by decide +kernel
theorem dX5_keepPlaces_0 : decode cX5_keepPlaces 0 = .ok (.iconst 0, 1) := by decide +kernel
theorem dX5_keepPlaces_1 : decode cX5_keepPlaces 1 = .ok (.istore_n 1, 1) := by decide +kernel
theorem dX5_keepPlaces_2 : decode cX5_keepPlaces 2 = .ok (.iload_n 1, 1) := by decide +kernel
theorem dX5_keepPlaces_3 : decode cX5_keepPlaces 3 = .ok (.bipush 6, 2) := by decide +kernel
theorem dX5_keepPlaces_5 : decode cX5_keepPlaces 5 = .ok (.if_icmp .ge 21, 3) := by decide +kernel
theorem dX5_keepPlaces_8 : decode cX5_keepPlaces 8 = .ok (.aload_n 0, 1) := by decide +kernel
theorem dX5_keepPlaces_9 : decode cX5_keepPlaces 9 = .ok (.getfield 34, 3) := by decide +kernel
theorem dX5_keepPlaces_12 : decode cX5_keepPlaces 12 = .ok (.iload_n 1, 1) := by decide +kernel
theorem dX5_keepPlaces_13 : decode cX5_keepPlaces 13 = .ok (.aload_n 0, 1) := by decide +kernel
theorem dX5_keepPlaces_14 : decode cX5_keepPlaces 14 = .ok (.getfield 7, 3) := by decide +kernel
theorem dX5_keepPlaces_17 : decode cX5_keepPlaces 17 = .ok (.iload_n 1, 1) := by decide +kernel
theorem dX5_keepPlaces_18 : decode cX5_keepPlaces 18 = .ok (.iaload, 1) := by decide +kernel
theorem dX5_keepPlaces_19 : decode cX5_keepPlaces 19 = .ok (.iastore, 1) := by decide +kernel
theorem dX5_keepPlaces_20 : decode cX5_keepPlaces 20 = .ok (.iinc 1 1, 3) := by decide +kernel
theorem dX5_keepPlaces_23 : decode cX5_keepPlaces 23 = .ok (.goto (-21), 3) := by decide +kernel
theorem dX5_keepPlaces_26 : decode cX5_keepPlaces 26 = .ok (.return_, 1) := by decide +kernel
theorem dX5_putPlaces_0 : decode cX5_putPlaces 0 = .ok (.iconst 0, 1) := by decide +kernel
theorem dX5_putPlaces_1 : decode cX5_putPlaces 1 = .ok (.istore_n 1, 1) := by decide +kernel
theorem dX5_putPlaces_2 : decode cX5_putPlaces 2 = .ok (.iload_n 1, 1) := by decide +kernel
theorem dX5_putPlaces_3 : decode cX5_putPlaces 3 = .ok (.bipush 6, 2) := by decide +kernel
theorem dX5_putPlaces_5 : decode cX5_putPlaces 5 = .ok (.if_icmp .ge 21, 3) := by decide +kernel
theorem dX5_putPlaces_8 : decode cX5_putPlaces 8 = .ok (.aload_n 0, 1) := by decide +kernel
theorem dX5_putPlaces_9 : decode cX5_putPlaces 9 = .ok (.getfield 7, 3) := by decide +kernel
theorem dX5_putPlaces_12 : decode cX5_putPlaces 12 = .ok (.iload_n 1, 1) := by decide +kernel
theorem dX5_putPlaces_13 : decode cX5_putPlaces 13 = .ok (.aload_n 0, 1) := by decide +kernel
theorem dX5_putPlaces_14 : decode cX5_putPlaces 14 = .ok (.getfield 34, 3) := by decide +kernel
theorem dX5_putPlaces_17 : decode cX5_putPlaces 17 = .ok (.iload_n 1, 1) := by decide +kernel
theorem dX5_putPlaces_18 : decode cX5_putPlaces 18 = .ok (.iaload, 1) := by decide +kernel
theorem dX5_putPlaces_19 : decode cX5_putPlaces 19 = .ok (.iastore, 1) := by decide +kernel
theorem dX5_putPlaces_20 : decode cX5_putPlaces 20 = .ok (.iinc 1 1, 3) := by decide +kernel
theorem dX5_putPlaces_23 : decode cX5_putPlaces 23 = .ok (.goto (-21), 3) := by decide +kernel
theorem dX5_putPlaces_26 : decode cX5_putPlaces 26 = .ok (.return_, 1) := by decide +kernel
set_option maxRecDepth 20000 in
theorem ggX5_layPlaces_X5_isThere : GoodIn wsX5_layPlaces wsX5_isThere := goodIn_r _ [6, 7, 8, 9, 5, 10, 11, 12, 13, 14, 15, 16, 17, 18, 19, 20, 21, 22, 23, 24, 25, 26, 27, 28, 29, 30, 31, 32, 33, 34, 35, 36, 37, 38] (by decide +kernel) (by decide +kernel)
set_option maxRecDepth 20000 in
theorem gX5_layPlaces_X5_isThere : GoodIn wsX5_layPlaces (wsV RX5 76 RX5 yX5_isThere wsX5_isThere) := goodIn_app (goodIn_of _ (by decide +kernel)) ggX5_layPlaces_X5_isThere
theorem dX5_layPlaces_0 : decode cX5_layPlaces 0 = .ok (.iload_n 1, 1) := by decide +kernel
theorem dX5_layPlaces_1 : decode cX5_layPlaces 1 = .ok (.istore_n 2, 1) := by decide +kernel
theorem dX5_layPlaces_2 : decode cX5_layPlaces 2 = .ok (.iconst 5, 1) := by decide +kernel
theorem dX5_layPlaces_3 : decode cX5_layPlaces 3 = .ok (.istore_n 3, 1) := by decide +kernel
theorem dX5_layPlaces_4 : decode cX5_layPlaces 4 = .ok (.iload_n 3, 1) := by decide +kernel
theorem dX5_layPlaces_5 : decode cX5_layPlaces 5 = .ok (.ifCond .lt 32, 3) := by decide +kernel
theorem dX5_layPlaces_8 : decode cX5_layPlaces 8 = .ok (.aload_n 0, 1) := by decide +kernel
theorem dX5_layPlaces_9 : decode cX5_layPlaces 9 = .ok (.iload_n 3, 1) := by decide +kernel
theorem dX5_layPlaces_10 : decode cX5_layPlaces 10 = .ok (.invokevirtual 76, 3) := by decide +kernel
theorem dX5_layPlaces_13 : decode cX5_layPlaces 13 = .ok (.ifCond .eq 18, 3) := by decide +kernel
theorem dX5_layPlaces_16 : decode cX5_layPlaces 16 = .ok (.aload_n 0, 1) := by decide +kernel
theorem dX5_layPlaces_17 : decode cX5_layPlaces 17 = .ok (.getfield 7, 3) := by decide +kernel
theorem dX5_layPlaces_20 : decode cX5_layPlaces 20 = .ok (.iload_n 3, 1) := by decide +kernel
theorem dX5_layPlaces_21 : decode cX5_layPlaces 21 = .ok (.iload_n 2, 1) := by decide +kernel
theorem dX5_layPlaces_22 : decode cX5_layPlaces 22 = .ok (.bipush 10, 2) := by decide +kernel
theorem dX5_layPlaces_24 : decode cX5_layPlaces 24 = .ok (.irem, 1) := by decide +kernel
theorem dX5_layPlaces_25 : decode cX5_layPlaces 25 = .ok (.iastore, 1) := by decide +kernel
theorem dX5_layPlaces_26 : decode cX5_layPlaces 26 = .ok (.iload_n 2, 1) := by decide +kernel
theorem dX5_layPlaces_27 : decode cX5_layPlaces 27 = .ok (.bipush 10, 2) := by decide +kernel
theorem dX5_layPlaces_29 : decode cX5_layPlaces 29 = .ok (.idiv, 1) := by decide +kernel
theorem dX5_layPlaces_30 : decode cX5_layPlaces 30 = .ok (.istore_n 2, 1) := by decide +kernel
theorem dX5_layPlaces_31 : decode cX5_layPlaces 31 = .ok (.iinc 3 (-1), 3) := by decide +kernel
theorem dX5_layPlaces_34 : decode cX5_layPlaces 34 = .ok (.goto (-30), 3) := by decide +kernel
theorem dX5_layPlaces_37 : decode cX5_layPlaces 37 = .ok (.return_, 1) := by decide +kernel
set_option maxRecDepth 20000 in
theorem ggX5_areAtRest_X5_isThere : GoodIn wsX5_areAtRest wsX5_isThere := goodIn_r _ [6, 7, 8, 9, 5, 10, 11, 12, 13, 14, 47, 48, 49, 50, 51, 52, 53, 54, 55, 56, 57, 58, 59, 60, 61, 62, 63, 64, 65, 66, 67, 68, 69, 70] (by decide +kernel) (by decide +kernel)
set_option maxRecDepth 20000 in
theorem gX5_areAtRest_X5_isThere : GoodIn wsX5_areAtRest (wsV RX5 76 RX5 yX5_isThere wsX5_isThere) := goodIn_app (goodIn_of _ (by decide +kernel)) ggX5_areAtRest_X5_isThere
set_option maxRecDepth 20000 in
theorem ggX5_areAtRest_X5_sixtieths : GoodIn wsX5_areAtRest wsX5_sixtieths := goodIn_r _ [18, 19, 20, 21, 22, 23, 5, 24, 25, 26, 27, 28, 29, 30, 31, 32, 33, 34, 35, 36, 37, 38, 2, 3, 4, 6, 7, 8, 9, 10, 11, 12, 13, 14, 39, 40, 41, 47, 48, 49, 50, 51, 52, 53, 54, 55, 56, 57, 58, 59, 60, 61, 62, 63, 64, 65, 66, 67, 68, 69, 70] (by decide +kernel) (by decide +kernel)
set_option maxRecDepth 20000 in
theorem gX5_areAtRest_X5_sixtieths : GoodIn wsX5_areAtRest (wsV RX5 152 RX5 yX5_sixtieths wsX5_sixtieths) := goodIn_app (goodIn_of _ (by decide +kernel)) ggX5_areAtRest_X5_sixtieths
set_option maxRecDepth 20000 in
theorem ggX5_areAtRest_X5_findStand : GoodIn wsX5_areAtRest wsX5_findStand := goodIn_r _ [45, 34, 46, 1, 15, 16, 17, 5, 18, 19, 20, 21, 22, 23, 24, 25, 26, 27, 28, 29, 30, 31, 32, 33, 35, 36, 37, 38, 2, 3, 4, 6, 7, 8, 9, 10, 11, 12, 13, 14, 39, 40, 41, 47, 48, 49, 50, 51, 52, 53, 54, 55, 56, 57, 58, 59, 60, 61, 62, 63, 64, 65, 66, 67, 68, 69, 70] (by decide +kernel) (by decide +kernel)
set_option maxRecDepth 20000 in
theorem gX5_areAtRest_X5_findStand : GoodIn wsX5_areAtRest (wsV RX5 167 RX5 yX5_findStand wsX5_findStand) := goodIn_app (goodIn_of _ (by decide +kernel)) ggX5_areAtRest_X5_findStand
theorem dX5_areAtRest_0 : decode cX5_areAtRest 0 = .ok (.iconst 0, 1) := by decide +kernel
theorem dX5_areAtRest_1 : decode cX5_areAtRest 1 = .ok (.istore_n 1, 1) := by decide +kernel
theorem dX5_areAtRest_2 : decode cX5_areAtRest 2 = .ok (.iload_n 1, 1) := by decide +kernel
theorem dX5_areAtRest_3 : decode cX5_areAtRest 3 = .ok (.bipush 6, 2) := by decide +kernel
theorem dX5_areAtRest_5 : decode cX5_areAtRest 5 = .ok (.if_icmp .ge 38, 3) := by decide +kernel
theorem dX5_areAtRest_8 : decode cX5_areAtRest 8 = .ok (.aload_n 0, 1) := by decide +kernel
theorem dX5_areAtRest_9 : decode cX5_areAtRest 9 = .ok (.iload_n 1, 1) := by decide +kernel
theorem dX5_areAtRest_10 : decode cX5_areAtRest 10 = .ok (.invokevirtual 76, 3) := by decide +kernel
theorem dX5_areAtRest_13 : decode cX5_areAtRest 13 = .ok (.ifCond .eq 24, 3) := by decide +kernel
theorem dX5_areAtRest_16 : decode cX5_areAtRest 16 = .ok (.aload_n 0, 1) := by decide +kernel
theorem dX5_areAtRest_17 : decode cX5_areAtRest 17 = .ok (.iload_n 1, 1) := by decide +kernel
theorem dX5_areAtRest_18 : decode cX5_areAtRest 18 = .ok (.invokevirtual 152, 3) := by decide +kernel
theorem dX5_areAtRest_21 : decode cX5_areAtRest 21 = .ok (.istore_n 2, 1) := by decide +kernel
theorem dX5_areAtRest_22 : decode cX5_areAtRest 22 = .ok (.aload_n 0, 1) := by decide +kernel
theorem dX5_areAtRest_23 : decode cX5_areAtRest 23 = .ok (.iload_n 1, 1) := by decide +kernel
theorem dX5_areAtRest_24 : decode cX5_areAtRest 24 = .ok (.invokevirtual 167, 3) := by decide +kernel
theorem dX5_areAtRest_27 : decode cX5_areAtRest 27 = .ok (.aload_n 0, 1) := by decide +kernel
theorem dX5_areAtRest_28 : decode cX5_areAtRest 28 = .ok (.getfield 164, 3) := by decide +kernel
theorem dX5_areAtRest_31 : decode cX5_areAtRest 31 = .ok (.iload_n 2, 1) := by decide +kernel
theorem dX5_areAtRest_32 : decode cX5_areAtRest 32 = .ok (.if_icmp .le 5, 3) := by decide +kernel
theorem dX5_areAtRest_35 : decode cX5_areAtRest 35 = .ok (.iconst 0, 1) := by decide +kernel
theorem dX5_areAtRest_36 : decode cX5_areAtRest 36 = .ok (.ireturn, 1) := by decide +kernel
theorem dX5_areAtRest_37 : decode cX5_areAtRest 37 = .ok (.iinc 1 1, 3) := by decide +kernel
theorem dX5_areAtRest_40 : decode cX5_areAtRest 40 = .ok (.goto (-38), 3) := by decide +kernel
theorem dX5_areAtRest_43 : decode cX5_areAtRest 43 = .ok (.iconst 1, 1) := by decide +kernel
theorem dX5_areAtRest_44 : decode cX5_areAtRest 44 = .ok (.ireturn, 1) := by decide +kernel
set_option maxRecDepth 20000 in
theorem ggX5_rests_X5_ones : GoodIn wsX5_rests wsX5_ones := goodIn_r _ [5] (by decide +kernel) (by decide +kernel)
set_option maxRecDepth 20000 in
theorem gX5_rests_X5_ones : GoodIn wsX5_rests (va_wsS RX5 72 yX5_ones wsX5_ones) := goodIn_app (goodIn_of _ (by decide +kernel)) ggX5_rests_X5_ones
set_option maxRecDepth 20000 in
theorem ggX5_rests_X5_keepPlaces : GoodIn wsX5_rests wsX5_keepPlaces := goodIn_r _ [9, 10, 11, 64, 65, 66, 67, 68, 69, 70, 71, 72, 73, 74, 75, 76, 77, 78, 79, 80, 81, 82, 83, 84, 85, 86, 87] (by decide +kernel) (by decide +kernel)
set_option maxRecDepth 20000 in
theorem gX5_rests_X5_keepPlaces : GoodIn wsX5_rests (wsV RX5 170 RX5 yX5_keepPlaces wsX5_keepPlaces) := goodIn_app (goodIn_of _ (by decide +kernel)) ggX5_rests_X5_keepPlaces
set_option maxRecDepth 20000 in
theorem ggX5_rests_X5_layPlaces : GoodIn wsX5_rests wsX5_layPlaces := goodIn_r _ [15, 11, 16, 17, 18, 4, 19, 1, 20, 21, 22, 23, 24, 25, 26, 64, 65, 66, 67, 68, 69, 70, 71, 72, 73, 74, 75, 76, 77, 78, 79, 80, 81, 82, 83, 84, 85, 86, 87] (by decide +kernel) (by decide +kernel)
set_option maxRecDepth 20000 in
theorem gX5_rests_X5_layPlaces : GoodIn wsX5_rests (wsV RX5 173 RX5 yX5_layPlaces wsX5_layPlaces) := goodIn_app (goodIn_of _ (by decide +kernel)) ggX5_rests_X5_layPlaces
set_option maxRecDepth 20000 in
theorem ggX5_rests_X5_areAtRest : GoodIn wsX5_rests wsX5_areAtRest := goodIn_r _ [30, 31, 16, 17, 18, 4, 19, 1, 20, 21, 22, 23, 24, 25, 26, 32, 33, 34, 35, 36, 37, 38, 39, 40, 41, 42, 43, 44, 45, 46, 47, 48, 49, 50, 11, 51, 52, 53, 54, 2, 3, 5, 55, 56, 57, 58, 59, 64, 65, 66, 67, 68, 69, 70, 71, 72, 73, 74, 75, 76, 77, 78, 79, 80, 81, 82, 83, 84, 85, 86, 87] (by decide +kernel) (by decide +kernel)
set_option maxRecDepth 20000 in
theorem gX5_rests_X5_areAtRest : GoodIn wsX5_rests (wsV RX5 176 RX5 yX5_areAtRest wsX5_areAtRest) := goodIn_app (goodIn_of _ (by decide +kernel)) ggX5_rests_X5_areAtRest
set_option maxRecDepth 20000 in
theorem ggX5_rests_X5_putPlaces : GoodIn wsX5_rests wsX5_putPlaces := goodIn_r _ [63, 11, 10, 64, 65, 66, 67, 68, 69, 70, 71, 72, 73, 74, 75, 76, 77, 78, 79, 80, 81, 82, 83, 84, 85, 86, 87] (by decide +kernel) (by decide +kernel)
set_option maxRecDepth 20000 in
theorem gX5_rests_X5_putPlaces : GoodIn wsX5_rests (wsV RX5 180 RX5 yX5_putPlaces wsX5_putPlaces) := goodIn_app (goodIn_of _ (by decide +kernel)) ggX5_rests_X5_putPlaces
theorem dX5_rests_0 : decode cX5_rests 0 = .ok (.aload_n 0, 1) := by decide +kernel
theorem dX5_rests_1 : decode cX5_rests 1 = .ok (.getfield 63, 3) := by decide +kernel
theorem dX5_rests_4 : decode cX5_rests 4 = .ok (.invokestatic 72, 3) := by decide +kernel
theorem dX5_rests_7 : decode cX5_rests 7 = .ok (.istore_n 2, 1) := by decide +kernel
theorem dX5_rests_8 : decode cX5_rests 8 = .ok (.iload_n 2, 1) := by decide +kernel
theorem dX5_rests_9 : decode cX5_rests 9 = .ok (.iconst 3, 1) := by decide +kernel
theorem dX5_rests_10 : decode cX5_rests 10 = .ok (.if_icmp .le 6, 3) := by decide +kernel
theorem dX5_rests_13 : decode cX5_rests 13 = .ok (.bipush (-4), 2) := by decide +kernel
theorem dX5_rests_15 : decode cX5_rests 15 = .ok (.ireturn, 1) := by decide +kernel
theorem dX5_rests_16 : decode cX5_rests 16 = .ok (.iload_n 2, 1) := by decide +kernel
theorem dX5_rests_17 : decode cX5_rests 17 = .ok (.ifCond .ne 7, 3) := by decide +kernel
theorem dX5_rests_20 : decode cX5_rests 20 = .ok (.iconst 1, 1) := by decide +kernel
theorem dX5_rests_21 : decode cX5_rests 21 = .ok (.goto 26, 3) := by decide +kernel
theorem dX5_rests_24 : decode cX5_rests 24 = .ok (.iload_n 2, 1) := by decide +kernel
theorem dX5_rests_25 : decode cX5_rests 25 = .ok (.iconst 1, 1) := by decide +kernel
theorem dX5_rests_26 : decode cX5_rests 26 = .ok (.if_icmp .ne 8, 3) := by decide +kernel
theorem dX5_rests_29 : decode cX5_rests 29 = .ok (.bipush 10, 2) := by decide +kernel
theorem dX5_rests_31 : decode cX5_rests 31 = .ok (.goto 16, 3) := by decide +kernel
theorem dX5_rests_34 : decode cX5_rests 34 = .ok (.iload_n 2, 1) := by decide +kernel
theorem dX5_rests_35 : decode cX5_rests 35 = .ok (.iconst 2, 1) := by decide +kernel
theorem dX5_rests_36 : decode cX5_rests 36 = .ok (.if_icmp .ne 8, 3) := by decide +kernel
theorem dX5_rests_39 : decode cX5_rests 39 = .ok (.bipush 100, 2) := by decide +kernel
theorem dX5_rests_41 : decode cX5_rests 41 = .ok (.goto 6, 3) := by decide +kernel
theorem dX5_rests_44 : decode cX5_rests 44 = .ok (.sipush 1000, 3) := by decide +kernel
theorem dX5_rests_47 : decode cX5_rests 47 = .ok (.istore_n 3, 1) := by decide +kernel
theorem dX5_rests_48 : decode cX5_rests 48 = .ok (.aload_n 0, 1) := by decide +kernel
theorem dX5_rests_49 : decode cX5_rests 49 = .ok (.invokevirtual 170, 3) := by decide +kernel
theorem dX5_rests_52 : decode cX5_rests 52 = .ok (.iconst 0, 1) := by decide +kernel
theorem dX5_rests_53 : decode cX5_rests 53 = .ok (.istore 4, 2) := by decide +kernel
theorem dX5_rests_55 : decode cX5_rests 55 = .ok (.bipush (-6), 2) := by decide +kernel
theorem dX5_rests_57 : decode cX5_rests 57 = .ok (.istore 5, 2) := by decide +kernel
theorem dX5_rests_59 : decode cX5_rests 59 = .ok (.iconst 0, 1) := by decide +kernel
theorem dX5_rests_60 : decode cX5_rests 60 = .ok (.istore 6, 2) := by decide +kernel
theorem dX5_rests_62 : decode cX5_rests 62 = .ok (.iload 6, 2) := by decide +kernel
theorem dX5_rests_64 : decode cX5_rests 64 = .ok (.iload_n 3, 1) := by decide +kernel
theorem dX5_rests_65 : decode cX5_rests 65 = .ok (.if_icmp .ge 40, 3) := by decide +kernel
theorem dX5_rests_68 : decode cX5_rests 68 = .ok (.aload_n 0, 1) := by decide +kernel
theorem dX5_rests_69 : decode cX5_rests 69 = .ok (.iload 6, 2) := by decide +kernel
theorem dX5_rests_71 : decode cX5_rests 71 = .ok (.invokevirtual 173, 3) := by decide +kernel
theorem dX5_rests_74 : decode cX5_rests 74 = .ok (.aload_n 0, 1) := by decide +kernel
theorem dX5_rests_75 : decode cX5_rests 75 = .ok (.invokevirtual 176, 3) := by decide +kernel
theorem dX5_rests_78 : decode cX5_rests 78 = .ok (.ifCond .eq 21, 3) := by decide +kernel
theorem dX5_rests_81 : decode cX5_rests 81 = .ok (.iload 4, 2) := by decide +kernel
theorem dX5_rests_83 : decode cX5_rests 83 = .ok (.iload_n 1, 1) := by decide +kernel
theorem dX5_rests_84 : decode cX5_rests 84 = .ok (.if_icmp .ne 8, 3) := by decide +kernel
theorem dX5_rests_87 : decode cX5_rests 87 = .ok (.iload 6, 2) := by decide +kernel
theorem dX5_rests_89 : decode cX5_rests 89 = .ok (.goto 5, 3) := by decide +kernel
theorem dX5_rests_92 : decode cX5_rests 92 = .ok (.iload 5, 2) := by decide +kernel
theorem dX5_rests_94 : decode cX5_rests 94 = .ok (.istore 5, 2) := by decide +kernel
theorem dX5_rests_96 : decode cX5_rests 96 = .ok (.iinc 4 1, 3) := by decide +kernel
theorem dX5_rests_99 : decode cX5_rests 99 = .ok (.iinc 6 1, 3) := by decide +kernel
theorem dX5_rests_102 : decode cX5_rests 102 = .ok (.goto (-40), 3) := by decide +kernel
theorem dX5_rests_105 : decode cX5_rests 105 = .ok (.aload_n 0, 1) := by decide +kernel
theorem dX5_rests_106 : decode cX5_rests 106 = .ok (.invokevirtual 180, 3) := by decide +kernel
theorem dX5_rests_109 : decode cX5_rests 109 = .ok (.iload_n 1, 1) := by decide +kernel
theorem dX5_rests_110 : decode cX5_rests 110 = .ok (.iconst (-1), 1) := by decide +kernel
theorem dX5_rests_111 : decode cX5_rests 111 = .ok (.if_icmp .ne 8, 3) := by decide +kernel
theorem dX5_rests_114 : decode cX5_rests 114 = .ok (.iload 4, 2) := by decide +kernel
theorem dX5_rests_116 : decode cX5_rests 116 = .ok (.goto 5, 3) := by decide +kernel
theorem dX5_rests_119 : decode cX5_rests 119 = .ok (.iload 5, 2) := by decide +kernel
theorem dX5_rests_121 : decode cX5_rests 121 = .ok (.ireturn, 1) := by decide +kernel
set_option maxRecDepth 20000 in
theorem ggX5_coup_X5_isThere : GoodIn wsX5_coup wsX5_isThere := goodIn_r _ [5, 6, 7, 8, 4, 9, 10, 11, 12, 13, 28, 29, 30, 31, 32, 33, 34, 35, 36, 37, 38, 39, 40, 41, 42, 43, 44, 45, 46, 47, 48, 49, 50, 51] (by decide +kernel) (by decide +kernel)
set_option maxRecDepth 20000 in
theorem gX5_coup_X5_isThere : GoodIn wsX5_coup (wsV RX5 76 RX5 yX5_isThere wsX5_isThere) := goodIn_app (goodIn_of _ (by decide +kernel)) ggX5_coup_X5_isThere
set_option maxRecDepth 20000 in
theorem ggX5_coup_X5_sprinkledBy : GoodIn wsX5_coup wsX5_sprinkledBy := goodIn_r _ [17, 18, 19, 20, 21, 4, 22, 23, 24, 25, 26, 27, 1, 2, 3, 5, 6, 7, 8, 9, 10, 11, 12, 13, 28, 29, 30, 31, 32, 33, 34, 35, 36, 37, 38, 39, 40, 41, 42, 43, 44, 45, 46, 47, 48, 49, 50, 51] (by decide +kernel) (by decide +kernel)
set_option maxRecDepth 20000 in
theorem gX5_coup_X5_sprinkledBy : GoodIn wsX5_coup (wsV RX5 127 RX5 yX5_sprinkledBy wsX5_sprinkledBy) := goodIn_app (goodIn_of _ (by decide +kernel)) ggX5_coup_X5_sprinkledBy
theorem dX5_coup_0 : decode cX5_coup 0 = .ok (.aload_n 0, 1) := by decide +kernel
theorem dX5_coup_1 : decode cX5_coup 1 = .ok (.iload_n 1, 1) := by decide +kernel
theorem dX5_coup_2 : decode cX5_coup 2 = .ok (.invokevirtual 76, 3) := by decide +kernel
theorem dX5_coup_5 : decode cX5_coup 5 = .ok (.ifCond .ne 5, 3) := by decide +kernel
theorem dX5_coup_8 : decode cX5_coup 8 = .ok (.iconst (-1), 1) := by decide +kernel
theorem dX5_coup_9 : decode cX5_coup 9 = .ok (.ireturn, 1) := by decide +kernel
theorem dX5_coup_10 : decode cX5_coup 10 = .ok (.iconst 0, 1) := by decide +kernel
theorem dX5_coup_11 : decode cX5_coup 11 = .ok (.istore_n 2, 1) := by decide +kernel
theorem dX5_coup_12 : decode cX5_coup 12 = .ok (.iload_n 2, 1) := by decide +kernel
theorem dX5_coup_13 : decode cX5_coup 13 = .ok (.bipush 10, 2) := by decide +kernel
theorem dX5_coup_15 : decode cX5_coup 15 = .ok (.if_icmp .ge 22, 3) := by decide +kernel
theorem dX5_coup_18 : decode cX5_coup 18 = .ok (.aload_n 0, 1) := by decide +kernel
theorem dX5_coup_19 : decode cX5_coup 19 = .ok (.iload_n 2, 1) := by decide +kernel
theorem dX5_coup_20 : decode cX5_coup 20 = .ok (.invokevirtual 127, 3) := by decide +kernel
theorem dX5_coup_23 : decode cX5_coup 23 = .ok (.iconst 1, 1) := by decide +kernel
theorem dX5_coup_24 : decode cX5_coup 24 = .ok (.iload_n 1, 1) := by decide +kernel
theorem dX5_coup_25 : decode cX5_coup 25 = .ok (.ishl, 1) := by decide +kernel
theorem dX5_coup_26 : decode cX5_coup 26 = .ok (.if_icmp .ne 5, 3) := by decide +kernel
theorem dX5_coup_29 : decode cX5_coup 29 = .ok (.iload_n 2, 1) := by decide +kernel
theorem dX5_coup_30 : decode cX5_coup 30 = .ok (.ireturn, 1) := by decide +kernel
theorem dX5_coup_31 : decode cX5_coup 31 = .ok (.iinc 2 1, 3) := by decide +kernel
theorem dX5_coup_34 : decode cX5_coup 34 = .ok (.goto (-22), 3) := by decide +kernel
theorem dX5_coup_37 : decode cX5_coup 37 = .ok (.bipush (-6), 2) := by decide +kernel
theorem dX5_coup_39 : decode cX5_coup 39 = .ok (.ireturn, 1) := by decide +kernel
set_option maxRecDepth 20000 in
theorem ggX5_quick_X5_isThere : GoodIn wsX5_quick wsX5_isThere := goodIn_r _ [7, 8, 9, 10, 6, 11, 12, 13, 14, 15, 46, 47, 48, 49, 50, 51, 52, 53, 54, 55, 56, 57, 58, 59, 60, 61, 62, 63, 64, 65, 66, 67, 68, 69] (by decide +kernel) (by decide +kernel)
set_option maxRecDepth 20000 in
theorem gX5_quick_X5_isThere : GoodIn wsX5_quick (wsV RX5 76 RX5 yX5_isThere wsX5_isThere) := goodIn_app (goodIn_of _ (by decide +kernel)) ggX5_quick_X5_isThere
set_option maxRecDepth 20000 in
theorem ggX5_quick_X5_in : GoodIn wsX5_quick wsX5_in := goodIn_r _ [15] (by decide +kernel) (by decide +kernel)
set_option maxRecDepth 20000 in
theorem gX5_quick_X5_in : GoodIn wsX5_quick (va_wsS RX5 53 yX5_in wsX5_in) := goodIn_app (goodIn_of _ (by decide +kernel)) ggX5_quick_X5_in
set_option maxRecDepth 20000 in
theorem ggX5_quick_X5_sixtieths : GoodIn wsX5_quick wsX5_sixtieths := goodIn_r _ [19, 20, 21, 22, 23, 24, 6, 25, 26, 27, 28, 29, 30, 31, 32, 33, 34, 35, 36, 37, 38, 2, 3, 4, 5, 7, 8, 9, 10, 11, 12, 13, 14, 15, 39, 40, 41, 46, 47, 48, 49, 50, 51, 52, 53, 54, 55, 56, 57, 58, 59, 60, 61, 62, 63, 64, 65, 66, 67, 68, 69] (by decide +kernel) (by decide +kernel)
set_option maxRecDepth 20000 in
theorem gX5_quick_X5_sixtieths : GoodIn wsX5_quick (wsV RX5 152 RX5 yX5_sixtieths wsX5_sixtieths) := goodIn_app (goodIn_of _ (by decide +kernel)) ggX5_quick_X5_sixtieths
set_option maxRecDepth 20000 in
theorem ggX5_quick_X5_weights : GoodIn wsX5_quick wsX5_weights := goodIn_r _ [45, 21, 46, 47, 48, 49, 50, 51, 52, 53, 54, 55, 56, 57, 58, 59, 60, 61, 62, 63, 64, 65, 66, 67, 68, 69] (by decide +kernel) (by decide +kernel)
set_option maxRecDepth 20000 in
theorem gX5_quick_X5_weights : GoodIn wsX5_quick (wsV RX5 143 RX5 yX5_weights wsX5_weights) := goodIn_app (goodIn_of _ (by decide +kernel)) ggX5_quick_X5_weights
theorem dX5_quick_0 : decode cX5_quick 0 = .ok (.aload_n 0, 1) := by decide +kernel
theorem dX5_quick_1 : decode cX5_quick 1 = .ok (.iload_n 1, 1) := by decide +kernel
theorem dX5_quick_2 : decode cX5_quick 2 = .ok (.invokevirtual 76, 3) := by decide +kernel
theorem dX5_quick_5 : decode cX5_quick 5 = .ok (.ifCond .ne 5, 3) := by decide +kernel
theorem dX5_quick_8 : decode cX5_quick 8 = .ok (.iconst (-1), 1) := by decide +kernel
theorem dX5_quick_9 : decode cX5_quick 9 = .ok (.ireturn, 1) := by decide +kernel
theorem dX5_quick_10 : decode cX5_quick 10 = .ok (.iload_n 3, 1) := by decide +kernel
theorem dX5_quick_11 : decode cX5_quick 11 = .ok (.i2l, 1) := by decide +kernel
theorem dX5_quick_12 : decode cX5_quick 12 = .ok (.lconst 1, 1) := by decide +kernel
theorem dX5_quick_13 : decode cX5_quick 13 = .ok (.ldc2_w 183, 3) := by decide +kernel
theorem dX5_quick_16 : decode cX5_quick 16 = .ok (.invokestatic 53, 3) := by decide +kernel
theorem dX5_quick_19 : decode cX5_quick 19 = .ok (.ifCond .eq 14, 3) := by decide +kernel
theorem dX5_quick_22 : decode cX5_quick 22 = .ok (.iload_n 2, 1) := by decide +kernel
theorem dX5_quick_23 : decode cX5_quick 23 = .ok (.i2l, 1) := by decide +kernel
theorem dX5_quick_24 : decode cX5_quick 24 = .ok (.lconst 0, 1) := by decide +kernel
theorem dX5_quick_25 : decode cX5_quick 25 = .ok (.iload_n 3, 1) := by decide +kernel
theorem dX5_quick_26 : decode cX5_quick 26 = .ok (.i2l, 1) := by decide +kernel
theorem dX5_quick_27 : decode cX5_quick 27 = .ok (.invokestatic 53, 3) := by decide +kernel
theorem dX5_quick_30 : decode cX5_quick 30 = .ok (.ifCond .ne 6, 3) := by decide +kernel
theorem dX5_quick_33 : decode cX5_quick 33 = .ok (.bipush (-2), 2) := by decide +kernel
theorem dX5_quick_35 : decode cX5_quick 35 = .ok (.ireturn, 1) := by decide +kernel
theorem dX5_quick_36 : decode cX5_quick 36 = .ok (.aload_n 0, 1) := by decide +kernel
theorem dX5_quick_37 : decode cX5_quick 37 = .ok (.getfield 13, 3) := by decide +kernel
theorem dX5_quick_40 : decode cX5_quick 40 = .ok (.iload_n 1, 1) := by decide +kernel
theorem dX5_quick_41 : decode cX5_quick 41 = .ok (.iaload, 1) := by decide +kernel
theorem dX5_quick_42 : decode cX5_quick 42 = .ok (.istore 4, 2) := by decide +kernel
theorem dX5_quick_44 : decode cX5_quick 44 = .ok (.bipush (-6), 2) := by decide +kernel
theorem dX5_quick_46 : decode cX5_quick 46 = .ok (.istore 5, 2) := by decide +kernel
theorem dX5_quick_48 : decode cX5_quick 48 = .ok (.iconst 0, 1) := by decide +kernel
theorem dX5_quick_49 : decode cX5_quick 49 = .ok (.istore 6, 2) := by decide +kernel
theorem dX5_quick_51 : decode cX5_quick 51 = .ok (.iload 6, 2) := by decide +kernel
theorem dX5_quick_53 : decode cX5_quick 53 = .ok (.bipush 10, 2) := by decide +kernel
theorem dX5_quick_55 : decode cX5_quick 55 = .ok (.if_icmp .ge 45, 3) := by decide +kernel
theorem dX5_quick_58 : decode cX5_quick 58 = .ok (.aload_n 0, 1) := by decide +kernel
theorem dX5_quick_59 : decode cX5_quick 59 = .ok (.getfield 13, 3) := by decide +kernel
theorem dX5_quick_62 : decode cX5_quick 62 = .ok (.iload_n 1, 1) := by decide +kernel
theorem dX5_quick_63 : decode cX5_quick 63 = .ok (.iload 6, 2) := by decide +kernel
theorem dX5_quick_65 : decode cX5_quick 65 = .ok (.iastore, 1) := by decide +kernel
theorem dX5_quick_66 : decode cX5_quick 66 = .ok (.aload_n 0, 1) := by decide +kernel
theorem dX5_quick_67 : decode cX5_quick 67 = .ok (.iload_n 1, 1) := by decide +kernel
theorem dX5_quick_68 : decode cX5_quick 68 = .ok (.invokevirtual 152, 3) := by decide +kernel
theorem dX5_quick_71 : decode cX5_quick 71 = .ok (.iload_n 3, 1) := by decide +kernel
theorem dX5_quick_72 : decode cX5_quick 72 = .ok (.imul, 1) := by decide +kernel
theorem dX5_quick_73 : decode cX5_quick 73 = .ok (.iload_n 2, 1) := by decide +kernel
theorem dX5_quick_74 : decode cX5_quick 74 = .ok (.bipush 60, 2) := by decide +kernel
theorem dX5_quick_76 : decode cX5_quick 76 = .ok (.imul, 1) := by decide +kernel
theorem dX5_quick_77 : decode cX5_quick 77 = .ok (.aload_n 0, 1) := by decide +kernel
theorem dX5_quick_78 : decode cX5_quick 78 = .ok (.invokevirtual 143, 3) := by decide +kernel
theorem dX5_quick_81 : decode cX5_quick 81 = .ok (.imul, 1) := by decide +kernel
theorem dX5_quick_82 : decode cX5_quick 82 = .ok (.if_icmp .lt 8, 3) := by decide +kernel
theorem dX5_quick_85 : decode cX5_quick 85 = .ok (.iload 6, 2) := by decide +kernel
theorem dX5_quick_87 : decode cX5_quick 87 = .ok (.goto 5, 3) := by decide +kernel
theorem dX5_quick_90 : decode cX5_quick 90 = .ok (.iload 5, 2) := by decide +kernel
theorem dX5_quick_92 : decode cX5_quick 92 = .ok (.istore 5, 2) := by decide +kernel
theorem dX5_quick_94 : decode cX5_quick 94 = .ok (.iinc 6 1, 3) := by decide +kernel
theorem dX5_quick_97 : decode cX5_quick 97 = .ok (.goto (-46), 3) := by decide +kernel
theorem dX5_quick_100 : decode cX5_quick 100 = .ok (.aload_n 0, 1) := by decide +kernel
theorem dX5_quick_101 : decode cX5_quick 101 = .ok (.getfield 13, 3) := by decide +kernel
theorem dX5_quick_104 : decode cX5_quick 104 = .ok (.iload_n 1, 1) := by decide +kernel
theorem dX5_quick_105 : decode cX5_quick 105 = .ok (.iload 4, 2) := by decide +kernel
theorem dX5_quick_107 : decode cX5_quick 107 = .ok (.iastore, 1) := by decide +kernel
theorem dX5_quick_108 : decode cX5_quick 108 = .ok (.iload 5, 2) := by decide +kernel
theorem dX5_quick_110 : decode cX5_quick 110 = .ok (.ireturn, 1) := by decide +kernel
set_option maxRecDepth 20000 in
theorem ggX5_seen_X5_in : GoodIn wsX5_seen wsX5_in := goodIn_r _ [9] (by decide +kernel) (by decide +kernel)
set_option maxRecDepth 20000 in
theorem gX5_seen_X5_in : GoodIn wsX5_seen (va_wsS RX5 53 yX5_in wsX5_in) := goodIn_app (goodIn_of _ (by decide +kernel)) ggX5_seen_X5_in
set_option maxRecDepth 20000 in
theorem ggX5_seen_X5_isPerson : GoodIn wsX5_seen wsX5_isPerson := goodIn_r _ [12, 13, 6, 7, 8, 9] (by decide +kernel) (by decide +kernel)
set_option maxRecDepth 20000 in
theorem gX5_seen_X5_isPerson : GoodIn wsX5_seen (va_wsS RX5 59 yX5_isPerson wsX5_isPerson) := goodIn_app (goodIn_of _ (by decide +kernel)) ggX5_seen_X5_isPerson
theorem dX5_seen_0 : decode cX5_seen 0 = .ok (.iload_n 1, 1) := by decide +kernel
theorem dX5_seen_1 : decode cX5_seen 1 = .ok (.i2l, 1) := by decide +kernel
theorem dX5_seen_2 : decode cX5_seen 2 = .ok (.lconst 1, 1) := by decide +kernel
theorem dX5_seen_3 : decode cX5_seen 3 = .ok (.ldc2_w 185, 3) := by decide +kernel
theorem dX5_seen_6 : decode cX5_seen 6 = .ok (.invokestatic 53, 3) := by decide +kernel
theorem dX5_seen_9 : decode cX5_seen 9 = .ok (.ifCond .eq 12, 3) := by decide +kernel
theorem dX5_seen_12 : decode cX5_seen 12 = .ok (.iload_n 2, 1) := by decide +kernel
theorem dX5_seen_13 : decode cX5_seen 13 = .ok (.invokestatic 59, 3) := by decide +kernel
theorem dX5_seen_16 : decode cX5_seen 16 = .ok (.ifCond .ne 5, 3) := by decide +kernel
theorem dX5_seen_19 : decode cX5_seen 19 = .ok (.iconst (-1), 1) := by decide +kernel
theorem dX5_seen_20 : decode cX5_seen 20 = .ok (.ireturn, 1) := by decide +kernel
theorem dX5_seen_21 : decode cX5_seen 21 = .ok (.iload_n 1, 1) := by decide +kernel
theorem dX5_seen_22 : decode cX5_seen 22 = .ok (.i2l, 1) := by decide +kernel
theorem dX5_seen_23 : decode cX5_seen 23 = .ok (.lconst 0, 1) := by decide +kernel
theorem dX5_seen_24 : decode cX5_seen 24 = .ok (.ldc2_w 185, 3) := by decide +kernel
theorem dX5_seen_27 : decode cX5_seen 27 = .ok (.invokestatic 53, 3) := by decide +kernel
theorem dX5_seen_30 : decode cX5_seen 30 = .ok (.ifCond .eq 19, 3) := by decide +kernel
theorem dX5_seen_33 : decode cX5_seen 33 = .ok (.iload_n 1, 1) := by decide +kernel
theorem dX5_seen_34 : decode cX5_seen 34 = .ok (.ifCond .ne 18, 3) := by decide +kernel
theorem dX5_seen_37 : decode cX5_seen 37 = .ok (.iload_n 2, 1) := by decide +kernel
theorem dX5_seen_38 : decode cX5_seen 38 = .ok (.i2l, 1) := by decide +kernel
theorem dX5_seen_39 : decode cX5_seen 39 = .ok (.lconst 0, 1) := by decide +kernel
theorem dX5_seen_40 : decode cX5_seen 40 = .ok (.ldc2_w 187, 3) := by decide +kernel
theorem dX5_seen_43 : decode cX5_seen 43 = .ok (.invokestatic 53, 3) := by decide +kernel
theorem dX5_seen_46 : decode cX5_seen 46 = .ok (.ifCond .ne 6, 3) := by decide +kernel
theorem dX5_seen_49 : decode cX5_seen 49 = .ok (.bipush (-2), 2) := by decide +kernel
theorem dX5_seen_51 : decode cX5_seen 51 = .ok (.ireturn, 1) := by decide +kernel
theorem dX5_seen_52 : decode cX5_seen 52 = .ok (.aload_n 0, 1) := by decide +kernel
theorem dX5_seen_53 : decode cX5_seen 53 = .ok (.getfield 189, 3) := by decide +kernel
theorem dX5_seen_56 : decode cX5_seen 56 = .ok (.bipush 6, 2) := by decide +kernel
theorem dX5_seen_58 : decode cX5_seen 58 = .ok (.if_icmp .ne 6, 3) := by decide +kernel
theorem dX5_seen_61 : decode cX5_seen 61 = .ok (.bipush (-4), 2) := by decide +kernel
theorem dX5_seen_63 : decode cX5_seen 63 = .ok (.ireturn, 1) := by decide +kernel
theorem dX5_seen_64 : decode cX5_seen 64 = .ok (.aload_n 0, 1) := by decide +kernel
theorem dX5_seen_65 : decode cX5_seen 65 = .ok (.getfield 22, 3) := by decide +kernel
theorem dX5_seen_68 : decode cX5_seen 68 = .ok (.aload_n 0, 1) := by decide +kernel
theorem dX5_seen_69 : decode cX5_seen 69 = .ok (.getfield 189, 3) := by decide +kernel
theorem dX5_seen_72 : decode cX5_seen 72 = .ok (.iload_n 1, 1) := by decide +kernel
theorem dX5_seen_73 : decode cX5_seen 73 = .ok (.iastore, 1) := by decide +kernel
theorem dX5_seen_74 : decode cX5_seen 74 = .ok (.aload_n 0, 1) := by decide +kernel
theorem dX5_seen_75 : decode cX5_seen 75 = .ok (.getfield 25, 3) := by decide +kernel
theorem dX5_seen_78 : decode cX5_seen 78 = .ok (.aload_n 0, 1) := by decide +kernel
theorem dX5_seen_79 : decode cX5_seen 79 = .ok (.getfield 189, 3) := by decide +kernel
theorem dX5_seen_82 : decode cX5_seen 82 = .ok (.iload_n 2, 1) := by decide +kernel
theorem dX5_seen_83 : decode cX5_seen 83 = .ok (.iastore, 1) := by decide +kernel
theorem dX5_seen_84 : decode cX5_seen 84 = .ok (.aload_n 0, 1) := by decide +kernel
theorem dX5_seen_85 : decode cX5_seen 85 = .ok (.dup, 1) := by decide +kernel
theorem dX5_seen_86 : decode cX5_seen 86 = .ok (.getfield 189, 3) := by decide +kernel
theorem dX5_seen_89 : decode cX5_seen 89 = .ok (.iconst 1, 1) := by decide +kernel
theorem dX5_seen_90 : decode cX5_seen 90 = .ok (.iadd, 1) := by decide +kernel
theorem dX5_seen_91 : decode cX5_seen 91 = .ok (.putfield 189, 3) := by decide +kernel
theorem dX5_seen_94 : decode cX5_seen 94 = .ok (.aload_n 0, 1) := by decide +kernel
theorem dX5_seen_95 : decode cX5_seen 95 = .ok (.getfield 189, 3) := by decide +kernel
theorem dX5_seen_98 : decode cX5_seen 98 = .ok (.ireturn, 1) := by decide +kernel
theorem dX5_forget_0 : decode cX5_forget 0 = .ok (.aload_n 0, 1) := by decide +kernel
theorem dX5_forget_1 : decode cX5_forget 1 = .ok (.getfield 189, 3) := by decide +kernel
theorem dX5_forget_4 : decode cX5_forget 4 = .ok (.istore_n 1, 1) := by decide +kernel
theorem dX5_forget_5 : decode cX5_forget 5 = .ok (.aload_n 0, 1) := by decide +kernel
theorem dX5_forget_6 : decode cX5_forget 6 = .ok (.iconst 0, 1) := by decide +kernel
theorem dX5_forget_7 : decode cX5_forget 7 = .ok (.putfield 189, 3) := by decide +kernel
theorem dX5_forget_10 : decode cX5_forget 10 = .ok (.iload_n 1, 1) := by decide +kernel
theorem dX5_forget_11 : decode cX5_forget 11 = .ok (.ireturn, 1) := by decide +kernel
theorem dX5_holds_0 : decode cX5_holds 0 = .ok (.aload_n 0, 1) := by decide +kernel
theorem dX5_holds_1 : decode cX5_holds 1 = .ok (.getfield 22, 3) := by decide +kernel
theorem dX5_holds_4 : decode cX5_holds 4 = .ok (.iload_n 1, 1) := by decide +kernel
theorem dX5_holds_5 : decode cX5_holds 5 = .ok (.iaload, 1) := by decide +kernel
theorem dX5_holds_6 : decode cX5_holds 6 = .ok (.ifCond .ne 21, 3) := by decide +kernel
theorem dX5_holds_9 : decode cX5_holds 9 = .ok (.iload_n 2, 1) := by decide +kernel
theorem dX5_holds_10 : decode cX5_holds 10 = .ok (.aload_n 0, 1) := by decide +kernel
theorem dX5_holds_11 : decode cX5_holds 11 = .ok (.getfield 25, 3) := by decide +kernel
theorem dX5_holds_14 : decode cX5_holds 14 = .ok (.iload_n 1, 1) := by decide +kernel
theorem dX5_holds_15 : decode cX5_holds 15 = .ok (.iaload, 1) := by decide +kernel
theorem dX5_holds_16 : decode cX5_holds 16 = .ok (.if_icmp .ne 7, 3) := by decide +kernel
