theorem dX4_quick_80 : decode cX4_quick 80 = .ok (.ireturn, 1) := by decide +kernel
theorem dX4_quick_81 : decode cX4_quick 81 = .ok (.iinc 5 (-1), 3) := by decide +kernel
theorem dX4_quick_84 : decode cX4_quick 84 = .ok (.goto (-34), 3) := by decide +kernel
theorem dX4_quick_87 : decode cX4_quick 87 = .ok (.bipush (-6), 2) := by decide +kernel
theorem dX4_quick_89 : decode cX4_quick 89 = .ok (.ireturn, 1) := by decide +kernel
set_option maxRecDepth 20000 in
theorem ggX4_bestPlace_X4_trialShare : GoodIn wsX4_bestPlace wsX4_trialShare := goodIn_r _ [7, 8, 1, 9, 10, 11, 12, 13, 14, 15, 16, 17, 18, 19, 20, 21, 22, 23, 24, 25, 26, 27, 28, 29, 30, 31, 32, 33, 34, 6, 35, 36, 37, 38, 39, 40, 41, 42, 43, 44, 45, 46, 47, 48, 49, 50, 51, 52, 53, 54, 55, 56, 57, 58, 59, 60, 61, 62, 63, 64, 65, 66, 67, 68, 69, 70, 71, 72, 73, 74, 75, 76, 77, 78, 79, 80, 81, 82, 83, 84, 85, 86] (by decide +kernel) (by decide +kernel)
set_option maxRecDepth 20000 in
theorem gX4_bestPlace_X4_trialShare : GoodIn wsX4_bestPlace (wsV RX4 157 RX4 yX4_trialShare wsX4_trialShare) := goodIn_app (goodIn_of _ (by decide +kernel)) ggX4_bestPlace_X4_trialShare
theorem dX4_bestPlace_0 : decode cX4_bestPlace 0 = .ok (.iconst 0, 1) := by decide +kernel
theorem dX4_bestPlace_1 : decode cX4_bestPlace 1 = .ok (.istore_n 2, 1) := by decide +kernel
theorem dX4_bestPlace_2 : decode cX4_bestPlace 2 = .ok (.iconst (-1), 1) := by decide +kernel
theorem dX4_bestPlace_3 : decode cX4_bestPlace 3 = .ok (.istore_n 3, 1) := by decide +kernel
theorem dX4_bestPlace_4 : decode cX4_bestPlace 4 = .ok (.iconst 0, 1) := by decide +kernel
theorem dX4_bestPlace_5 : decode cX4_bestPlace 5 = .ok (.istore 4, 2) := by decide +kernel
theorem dX4_bestPlace_7 : decode cX4_bestPlace 7 = .ok (.iload 4, 2) := by decide +kernel
theorem dX4_bestPlace_9 : decode cX4_bestPlace 9 = .ok (.bipush 10, 2) := by decide +kernel
theorem dX4_bestPlace_11 : decode cX4_bestPlace 11 = .ok (.if_icmp .ge 39, 3) := by decide +kernel
theorem dX4_bestPlace_14 : decode cX4_bestPlace 14 = .ok (.aload_n 0, 1) := by decide +kernel
theorem dX4_bestPlace_15 : decode cX4_bestPlace 15 = .ok (.iload_n 1, 1) := by decide +kernel
theorem dX4_bestPlace_16 : decode cX4_bestPlace 16 = .ok (.iload 4, 2) := by decide +kernel
theorem dX4_bestPlace_18 : decode cX4_bestPlace 18 = .ok (.aload_n 0, 1) := by decide +kernel
theorem dX4_bestPlace_19 : decode cX4_bestPlace 19 = .ok (.getfield 10, 3) := by decide +kernel
theorem dX4_bestPlace_22 : decode cX4_bestPlace 22 = .ok (.getfield 154, 3) := by decide +kernel
theorem dX4_bestPlace_25 : decode cX4_bestPlace 25 = .ok (.iload_n 1, 1) := by decide +kernel
theorem dX4_bestPlace_26 : decode cX4_bestPlace 26 = .ok (.iaload, 1) := by decide +kernel
theorem dX4_bestPlace_27 : decode cX4_bestPlace 27 = .ok (.invokevirtual 157, 3) := by decide +kernel
theorem dX4_bestPlace_30 : decode cX4_bestPlace 30 = .ok (.istore 5, 2) := by decide +kernel
theorem dX4_bestPlace_32 : decode cX4_bestPlace 32 = .ok (.iload 5, 2) := by decide +kernel
theorem dX4_bestPlace_34 : decode cX4_bestPlace 34 = .ok (.iload_n 3, 1) := by decide +kernel
theorem dX4_bestPlace_35 : decode cX4_bestPlace 35 = .ok (.if_icmp .le 9, 3) := by decide +kernel
theorem dX4_bestPlace_38 : decode cX4_bestPlace 38 = .ok (.iload 5, 2) := by decide +kernel
theorem dX4_bestPlace_40 : decode cX4_bestPlace 40 = .ok (.istore_n 3, 1) := by decide +kernel
theorem dX4_bestPlace_41 : decode cX4_bestPlace 41 = .ok (.iload 4, 2) := by decide +kernel
theorem dX4_bestPlace_43 : decode cX4_bestPlace 43 = .ok (.istore_n 2, 1) := by decide +kernel
theorem dX4_bestPlace_44 : decode cX4_bestPlace 44 = .ok (.iinc 4 1, 3) := by decide +kernel
theorem dX4_bestPlace_47 : decode cX4_bestPlace 47 = .ok (.goto (-40), 3) := by decide +kernel
theorem dX4_bestPlace_50 : decode cX4_bestPlace 50 = .ok (.iload_n 2, 1) := by decide +kernel
theorem dX4_bestPlace_51 : decode cX4_bestPlace 51 = .ok (.ireturn, 1) := by decide +kernel
set_option maxRecDepth 20000 in
theorem ggX4_trialShare_X0_copyFrom : GoodIn wsX4_trialShare wsX0_copyFrom := goodIn_r _ [7, 8, 9, 10, 11, 12, 13, 14, 15, 16, 17, 18, 19, 20, 21, 22, 23, 70, 71, 72, 73, 74, 75, 76, 77, 78, 79, 80, 81] (by decide +kernel) (by decide +kernel)
set_option maxRecDepth 20000 in
theorem gX4_trialShare_X0_copyFrom : GoodIn wsX4_trialShare (wsV RX4 179 RX0 yX0_copyFrom wsX0_copyFrom) := goodIn_app (goodIn_of _ (by decide +kernel)) ggX4_trialShare_X0_copyFrom
set_option maxRecDepth 20000 in
theorem ggX4_trialShare_X0_put : GoodIn wsX4_trialShare wsX0_put := goodIn_r _ [27, 15, 20, 28, 29, 30, 70, 71, 72, 73, 74, 75, 76, 77, 78, 79, 80, 81] (by decide +kernel) (by decide +kernel)
set_option maxRecDepth 20000 in
theorem gX4_trialShare_X0_put : GoodIn wsX4_trialShare (wsV RX4 54 RX0 yX0_put wsX0_put) := goodIn_app (goodIn_of _ (by decide +kernel)) ggX4_trialShare_X0_put
set_option maxRecDepth 20000 in
theorem ggX4_trialShare_X0_shareOf : GoodIn wsX4_trialShare wsX0_shareOf := goodIn_r _ [34, 21, 35, 36, 37, 6, 38, 10, 11, 39, 40, 41, 42, 43, 15, 20, 44, 45, 46, 47, 48, 29, 49, 50, 51, 52, 53, 13, 9, 54, 55, 56, 8, 57, 58, 59, 60, 61, 62, 63, 70, 71, 72, 73, 74, 75, 76, 77, 78, 79, 80, 81] (by decide +kernel) (by decide +kernel)
set_option maxRecDepth 20000 in
theorem gX4_trialShare_X0_shareOf : GoodIn wsX4_trialShare (wsV RX4 141 RX0 yX0_shareOf wsX0_shareOf) := goodIn_app (goodIn_of _ (by decide +kernel)) ggX4_trialShare_X0_shareOf
theorem dX4_trialShare_0 : decode cX4_trialShare 0 = .ok (.aload_n 0, 1) := by decide +kernel
theorem dX4_trialShare_1 : decode cX4_trialShare 1 = .ok (.getfield 16, 3) := by decide +kernel
theorem dX4_trialShare_4 : decode cX4_trialShare 4 = .ok (.aload_n 0, 1) := by decide +kernel
theorem dX4_trialShare_5 : decode cX4_trialShare 5 = .ok (.getfield 10, 3) := by decide +kernel
theorem dX4_trialShare_8 : decode cX4_trialShare 8 = .ok (.invokevirtual 179, 3) := by decide +kernel
theorem dX4_trialShare_11 : decode cX4_trialShare 11 = .ok (.aload_n 0, 1) := by decide +kernel
theorem dX4_trialShare_12 : decode cX4_trialShare 12 = .ok (.getfield 16, 3) := by decide +kernel
theorem dX4_trialShare_15 : decode cX4_trialShare 15 = .ok (.iload_n 1, 1) := by decide +kernel
theorem dX4_trialShare_16 : decode cX4_trialShare 16 = .ok (.iload_n 2, 1) := by decide +kernel
theorem dX4_trialShare_17 : decode cX4_trialShare 17 = .ok (.iload_n 3, 1) := by decide +kernel
theorem dX4_trialShare_18 : decode cX4_trialShare 18 = .ok (.invokevirtual 54, 3) := by decide +kernel
theorem dX4_trialShare_21 : decode cX4_trialShare 21 = .ok (.aload_n 0, 1) := by decide +kernel
theorem dX4_trialShare_22 : decode cX4_trialShare 22 = .ok (.getfield 16, 3) := by decide +kernel
theorem dX4_trialShare_25 : decode cX4_trialShare 25 = .ok (.iconst 1, 1) := by decide +kernel
theorem dX4_trialShare_26 : decode cX4_trialShare 26 = .ok (.iload_n 1, 1) := by decide +kernel
theorem dX4_trialShare_27 : decode cX4_trialShare 27 = .ok (.ishl, 1) := by decide +kernel
theorem dX4_trialShare_28 : decode cX4_trialShare 28 = .ok (.invokevirtual 141, 3) := by decide +kernel
theorem dX4_trialShare_31 : decode cX4_trialShare 31 = .ok (.ireturn, 1) := by decide +kernel
set_option maxRecDepth 20000 in
theorem ggX4_seen_X4_within : GoodIn wsX4_seen wsX4_within := goodIn_r _ [6] (by decide +kernel) (by decide +kernel)
set_option maxRecDepth 20000 in
theorem gX4_seen_X4_within : GoodIn wsX4_seen (va_wsS RX4 46 yX4_within wsX4_within) := goodIn_app (goodIn_of _ (by decide +kernel)) ggX4_seen_X4_within
set_option maxRecDepth 20000 in
theorem ggX4_seen_X0_addSight : GoodIn wsX4_seen wsX0_addSight := goodIn_r _ [11, 12, 13, 14, 4, 5, 6, 21, 22, 23, 24, 25, 26, 27, 28, 29, 30, 31, 32] (by decide +kernel) (by decide +kernel)
set_option maxRecDepth 20000 in
theorem gX4_seen_X0_addSight : GoodIn wsX4_seen (wsV RX4 182 RX0 yX0_addSight wsX0_addSight) := goodIn_app (goodIn_of _ (by decide +kernel)) ggX4_seen_X0_addSight
theorem dX4_seen_0 : decode cX4_seen 0 = .ok (.iload_n 1, 1) := by decide +kernel
theorem dX4_seen_1 : decode cX4_seen 1 = .ok (.iconst 1, 1) := by decide +kernel
theorem dX4_seen_2 : decode cX4_seen 2 = .ok (.iconst 2, 1) := by decide +kernel
theorem dX4_seen_3 : decode cX4_seen 3 = .ok (.invokestatic 46, 3) := by decide +kernel
theorem dX4_seen_6 : decode cX4_seen 6 = .ok (.ifCond .eq 14, 3) := by decide +kernel
theorem dX4_seen_9 : decode cX4_seen 9 = .ok (.iload_n 2, 1) := by decide +kernel
theorem dX4_seen_10 : decode cX4_seen 10 = .ok (.iconst 0, 1) := by decide +kernel
theorem dX4_seen_11 : decode cX4_seen 11 = .ok (.iconst 5, 1) := by decide +kernel
theorem dX4_seen_12 : decode cX4_seen 12 = .ok (.invokestatic 46, 3) := by decide +kernel
theorem dX4_seen_15 : decode cX4_seen 15 = .ok (.ifCond .ne 5, 3) := by decide +kernel
theorem dX4_seen_18 : decode cX4_seen 18 = .ok (.iconst (-1), 1) := by decide +kernel
theorem dX4_seen_19 : decode cX4_seen 19 = .ok (.ireturn, 1) := by decide +kernel
theorem dX4_seen_20 : decode cX4_seen 20 = .ok (.iload_n 1, 1) := by decide +kernel
theorem dX4_seen_21 : decode cX4_seen 21 = .ok (.iconst 0, 1) := by decide +kernel
theorem dX4_seen_22 : decode cX4_seen 22 = .ok (.iconst 2, 1) := by decide +kernel
theorem dX4_seen_23 : decode cX4_seen 23 = .ok (.invokestatic 46, 3) := by decide +kernel
theorem dX4_seen_26 : decode cX4_seen 26 = .ok (.ifCond .eq 17, 3) := by decide +kernel
theorem dX4_seen_29 : decode cX4_seen 29 = .ok (.iload_n 1, 1) := by decide +kernel
theorem dX4_seen_30 : decode cX4_seen 30 = .ok (.ifCond .ne 16, 3) := by decide +kernel
theorem dX4_seen_33 : decode cX4_seen 33 = .ok (.iload_n 2, 1) := by decide +kernel
theorem dX4_seen_34 : decode cX4_seen 34 = .ok (.iconst 0, 1) := by decide +kernel
theorem dX4_seen_35 : decode cX4_seen 35 = .ok (.bipush 63, 2) := by decide +kernel
theorem dX4_seen_37 : decode cX4_seen 37 = .ok (.invokestatic 46, 3) := by decide +kernel
theorem dX4_seen_40 : decode cX4_seen 40 = .ok (.ifCond .ne 6, 3) := by decide +kernel
theorem dX4_seen_43 : decode cX4_seen 43 = .ok (.bipush (-2), 2) := by decide +kernel
theorem dX4_seen_45 : decode cX4_seen 45 = .ok (.ireturn, 1) := by decide +kernel
theorem dX4_seen_46 : decode cX4_seen 46 = .ok (.aload_n 0, 1) := by decide +kernel
theorem dX4_seen_47 : decode cX4_seen 47 = .ok (.getfield 10, 3) := by decide +kernel
theorem dX4_seen_50 : decode cX4_seen 50 = .ok (.iload_n 1, 1) := by decide +kernel
theorem dX4_seen_51 : decode cX4_seen 51 = .ok (.iload_n 2, 1) := by decide +kernel
theorem dX4_seen_52 : decode cX4_seen 52 = .ok (.invokevirtual 182, 3) := by decide +kernel
theorem dX4_seen_55 : decode cX4_seen 55 = .ok (.ifCond .eq 13, 3) := by decide +kernel
theorem dX4_seen_58 : decode cX4_seen 58 = .ok (.aload_n 0, 1) := by decide +kernel
theorem dX4_seen_59 : decode cX4_seen 59 = .ok (.getfield 10, 3) := by decide +kernel
theorem dX4_seen_62 : decode cX4_seen 62 = .ok (.getfield 185, 3) := by decide +kernel
theorem dX4_seen_65 : decode cX4_seen 65 = .ok (.goto 5, 3) := by decide +kernel
theorem dX4_seen_68 : decode cX4_seen 68 = .ok (.bipush (-4), 2) := by decide +kernel
theorem dX4_seen_70 : decode cX4_seen 70 = .ok (.ireturn, 1) := by decide +kernel
theorem dX4_forget_0 : decode cX4_forget 0 = .ok (.aload_n 0, 1) := by decide +kernel
theorem dX4_forget_1 : decode cX4_forget 1 = .ok (.getfield 10, 3) := by decide +kernel
theorem dX4_forget_4 : decode cX4_forget 4 = .ok (.getfield 185, 3) := by decide +kernel
theorem dX4_forget_7 : decode cX4_forget 7 = .ok (.istore_n 1, 1) := by decide +kernel
theorem dX4_forget_8 : decode cX4_forget 8 = .ok (.aload_n 0, 1) := by decide +kernel
theorem dX4_forget_9 : decode cX4_forget 9 = .ok (.getfield 10, 3) := by decide +kernel
theorem dX4_forget_12 : decode cX4_forget 12 = .ok (.iconst 0, 1) := by decide +kernel
theorem dX4_forget_13 : decode cX4_forget 13 = .ok (.putfield 185, 3) := by decide +kernel
theorem dX4_forget_16 : decode cX4_forget 16 = .ok (.iload_n 1, 1) := by decide +kernel
theorem dX4_forget_17 : decode cX4_forget 17 = .ok (.ireturn, 1) := by decide +kernel
set_option maxRecDepth 20000 in
theorem ggX4_fits_X0_rulers : GoodIn wsX4_fits wsX0_rulers := goodIn_r _ [6, 7, 8, 9, 5, 10, 11, 12, 13, 14, 15, 16, 17, 18, 19, 20, 21, 22, 23, 24, 25, 26, 27, 28, 29, 30, 31, 32, 33, 34, 35, 36, 53, 54, 55, 56, 57, 58, 59, 60, 61, 62, 63, 64] (by decide +kernel) (by decide +kernel)
set_option maxRecDepth 20000 in
theorem gX4_fits_X0_rulers : GoodIn wsX4_fits (wsV RX4 100 RX0 yX0_rulers wsX0_rulers) := goodIn_app (goodIn_of _ (by decide +kernel)) ggX4_fits_X0_rulers
set_option maxRecDepth 20000 in
theorem ggX4_fits_X0_fitsSights : GoodIn wsX4_fits wsX0_fitsSights := goodIn_r _ [40, 41, 42, 43, 24, 25, 26, 53, 54, 55, 56, 57, 58, 59, 60, 61, 62, 63, 64] (by decide +kernel) (by decide +kernel)
set_option maxRecDepth 20000 in
theorem gX4_fits_X0_fitsSights : GoodIn wsX4_fits (wsV RX4 188 RX0 yX0_fitsSights wsX0_fitsSights) := goodIn_app (goodIn_of _ (by decide +kernel)) ggX4_fits_X0_fitsSights
set_option maxRecDepth 20000 in
theorem ggX4_fits_X4_withBit : GoodIn wsX4_fits wsX4_withBit := goodIn_r _ [46] (by decide +kernel) (by decide +kernel)
set_option maxRecDepth 20000 in
theorem gX4_fits_X4_withBit : GoodIn wsX4_fits (va_wsS RX4 62 yX4_withBit wsX4_withBit) := goodIn_app (goodIn_of _ (by decide +kernel)) ggX4_fits_X4_withBit
theorem dX4_fits_0 : decode cX4_fits 0 = .ok (.iconst 0, 1) := by decide +kernel
theorem dX4_fits_1 : decode cX4_fits 1 = .ok (.istore_n 1, 1) := by decide +kernel
theorem dX4_fits_2 : decode cX4_fits 2 = .ok (.iconst 0, 1) := by decide +kernel
theorem dX4_fits_3 : decode cX4_fits 3 = .ok (.istore_n 2, 1) := by decide +kernel
theorem dX4_fits_4 : decode cX4_fits 4 = .ok (.iload_n 2, 1) := by decide +kernel
theorem dX4_fits_5 : decode cX4_fits 5 = .ok (.bipush 10, 2) := by decide +kernel
theorem dX4_fits_7 : decode cX4_fits 7 = .ok (.if_icmp .ge 30, 3) := by decide +kernel
theorem dX4_fits_10 : decode cX4_fits 10 = .ok (.iload_n 1, 1) := by decide +kernel
theorem dX4_fits_11 : decode cX4_fits 11 = .ok (.iload_n 2, 1) := by decide +kernel
theorem dX4_fits_12 : decode cX4_fits 12 = .ok (.aload_n 0, 1) := by decide +kernel
theorem dX4_fits_13 : decode cX4_fits 13 = .ok (.getfield 10, 3) := by decide +kernel
theorem dX4_fits_16 : decode cX4_fits 16 = .ok (.aload_n 0, 1) := by decide +kernel
theorem dX4_fits_17 : decode cX4_fits 17 = .ok (.getfield 10, 3) := by decide +kernel
theorem dX4_fits_20 : decode cX4_fits 20 = .ok (.iload_n 2, 1) := by decide +kernel
theorem dX4_fits_21 : decode cX4_fits 21 = .ok (.invokevirtual 100, 3) := by decide +kernel
theorem dX4_fits_24 : decode cX4_fits 24 = .ok (.invokevirtual 188, 3) := by decide +kernel
theorem dX4_fits_27 : decode cX4_fits 27 = .ok (.invokestatic 62, 3) := by decide +kernel
theorem dX4_fits_30 : decode cX4_fits 30 = .ok (.istore_n 1, 1) := by decide +kernel
theorem dX4_fits_31 : decode cX4_fits 31 = .ok (.iinc 2 1, 3) := by decide +kernel
theorem dX4_fits_34 : decode cX4_fits 34 = .ok (.goto (-30), 3) := by decide +kernel
theorem dX4_fits_37 : decode cX4_fits 37 = .ok (.iload_n 1, 1) := by decide +kernel
theorem dX4_fits_38 : decode cX4_fits 38 = .ok (.ireturn, 1) := by decide +kernel
set_option maxRecDepth 20000 in
theorem ggX4_year_X4_within : GoodIn wsX4_year wsX4_within := goodIn_r _ [7] (by decide +kernel) (by decide +kernel)
set_option maxRecDepth 20000 in
theorem gX4_year_X4_within : GoodIn wsX4_year (va_wsS RX4 46 yX4_within wsX4_within) := goodIn_app (goodIn_of _ (by decide +kernel)) ggX4_year_X4_within
set_option maxRecDepth 20000 in
theorem ggX4_year_X1_begin : GoodIn wsX4_year wsX1_begin := goodIn_r _ [12, 13, 14, 15, 16, 17, 18, 19, 20, 83, 84, 85, 86, 87] (by decide +kernel) (by decide +kernel)
set_option maxRecDepth 20000 in
theorem gX4_year_X1_begin : GoodIn wsX4_year (wsV RX4 191 RX1 yX1_begin wsX1_begin) := goodIn_app (goodIn_of _ (by decide +kernel)) ggX4_year_X1_begin
set_option maxRecDepth 20000 in
theorem ggX4_year_X1_rain : GoodIn wsX4_year wsX1_rain := goodIn_r _ [24, 25, 26, 27, 28, 11, 29, 14, 30, 31, 32, 33, 34, 35, 36, 37, 38, 39, 40, 41, 42, 43, 44, 45, 46, 47, 48, 6, 49, 50, 51, 52, 53, 54, 55, 56, 57, 58, 59, 60, 61, 62, 63, 64, 65, 66, 67, 13, 15, 83, 84, 85, 86, 87, 88, 89, 90, 91, 92, 93, 94, 95, 96, 97, 98, 99] (by decide +kernel) (by decide +kernel)
set_option maxRecDepth 20000 in
theorem gX4_year_X1_rain : GoodIn wsX4_year (wsV RX4 195 RX1 yX1_rain wsX1_rain) := goodIn_app (goodIn_of _ (by decide +kernel)) ggX4_year_X1_rain
set_option maxRecDepth 20000 in
theorem ggX4_year_X1_pass : GoodIn wsX4_year wsX1_pass := goodIn_r _ [71, 16, 13, 25, 72, 48, 6, 49, 83, 84, 85, 86, 87, 88, 89, 90, 91, 92, 93, 94, 95, 96, 97, 98, 99] (by decide +kernel) (by decide +kernel)
set_option maxRecDepth 20000 in
theorem gX4_year_X1_pass : GoodIn wsX4_year (wsV RX4 199 RX1 yX1_pass wsX1_pass) := goodIn_app (goodIn_of _ (by decide +kernel)) ggX4_year_X1_pass
set_option maxRecDepth 20000 in
theorem ggX4_year_X1_yearsOf : GoodIn wsX4_year wsX1_yearsOf := goodIn_r _ [76, 16, 5, 6, 7, 83, 84, 85, 86, 87] (by decide +kernel) (by decide +kernel)
set_option maxRecDepth 20000 in
theorem gX4_year_X1_yearsOf : GoodIn wsX4_year (wsV RX4 127 RX1 yX1_yearsOf wsX1_yearsOf) := goodIn_app (goodIn_of _ (by decide +kernel)) ggX4_year_X1_yearsOf
theorem dX4_year_0 : decode cX4_year 0 = .ok (.iload_n 1, 1) := by decide +kernel
theorem dX4_year_1 : decode cX4_year 1 = .ok (.iconst 0, 1) := by decide +kernel
theorem dX4_year_2 : decode cX4_year 2 = .ok (.sipush 9999, 3) := by decide +kernel
theorem dX4_year_5 : decode cX4_year 5 = .ok (.invokestatic 46, 3) := by decide +kernel
theorem dX4_year_8 : decode cX4_year 8 = .ok (.ifCond .eq 23, 3) := by decide +kernel
theorem dX4_year_11 : decode cX4_year 11 = .ok (.iload_n 2, 1) := by decide +kernel
theorem dX4_year_12 : decode cX4_year 12 = .ok (.iconst 1, 1) := by decide +kernel
theorem dX4_year_13 : decode cX4_year 13 = .ok (.bipush 99, 2) := by decide +kernel
theorem dX4_year_15 : decode cX4_year 15 = .ok (.invokestatic 46, 3) := by decide +kernel
theorem dX4_year_18 : decode cX4_year 18 = .ok (.ifCond .eq 13, 3) := by decide +kernel
theorem dX4_year_21 : decode cX4_year 21 = .ok (.iload_n 3, 1) := by decide +kernel
theorem dX4_year_22 : decode cX4_year 22 = .ok (.iconst 0, 1) := by decide +kernel
theorem dX4_year_23 : decode cX4_year 23 = .ok (.bipush 7, 2) := by decide +kernel
theorem dX4_year_25 : decode cX4_year 25 = .ok (.invokestatic 46, 3) := by decide +kernel
theorem dX4_year_28 : decode cX4_year 28 = .ok (.ifCond .ne 6, 3) := by decide +kernel
theorem dX4_year_31 : decode cX4_year 31 = .ok (.bipush (-2), 2) := by decide +kernel
theorem dX4_year_33 : decode cX4_year 33 = .ok (.ireturn, 1) := by decide +kernel
theorem dX4_year_34 : decode cX4_year 34 = .ok (.aload_n 0, 1) := by decide +kernel
theorem dX4_year_35 : decode cX4_year 35 = .ok (.getfield 35, 3) := by decide +kernel
theorem dX4_year_38 : decode cX4_year 38 = .ok (.invokevirtual 191, 3) := by decide +kernel
theorem dX4_year_41 : decode cX4_year 41 = .ok (.iload_n 1, 1) := by decide +kernel
theorem dX4_year_42 : decode cX4_year 42 = .ok (.istore 4, 2) := by decide +kernel
theorem dX4_year_44 : decode cX4_year 44 = .ok (.iconst 0, 1) := by decide +kernel
theorem dX4_year_45 : decode cX4_year 45 = .ok (.istore 5, 2) := by decide +kernel
theorem dX4_year_47 : decode cX4_year 47 = .ok (.iload 5, 2) := by decide +kernel
theorem dX4_year_49 : decode cX4_year 49 = .ok (.iload_n 2, 1) := by decide +kernel
theorem dX4_year_50 : decode cX4_year 50 = .ok (.if_icmp .ge 42, 3) := by decide +kernel
theorem dX4_year_53 : decode cX4_year 53 = .ok (.bipush 75, 2) := by decide +kernel
theorem dX4_year_55 : decode cX4_year 55 = .ok (.iload 4, 2) := by decide +kernel
theorem dX4_year_57 : decode cX4_year 57 = .ok (.imul, 1) := by decide +kernel
theorem dX4_year_58 : decode cX4_year 58 = .ok (.bipush 74, 2) := by decide +kernel
theorem dX4_year_60 : decode cX4_year 60 = .ok (.iadd, 1) := by decide +kernel
theorem dX4_year_61 : decode cX4_year 61 = .ok (.ldc 194, 2) := by decide +kernel
theorem dX4_year_63 : decode cX4_year 63 = .ok (.irem, 1) := by decide +kernel
theorem dX4_year_64 : decode cX4_year 64 = .ok (.istore 4, 2) := by decide +kernel
theorem dX4_year_66 : decode cX4_year 66 = .ok (.aload_n 0, 1) := by decide +kernel
theorem dX4_year_67 : decode cX4_year 67 = .ok (.getfield 35, 3) := by decide +kernel
theorem dX4_year_70 : decode cX4_year 70 = .ok (.iload 4, 2) := by decide +kernel
theorem dX4_year_72 : decode cX4_year 72 = .ok (.bipush 10, 2) := by decide +kernel
theorem dX4_year_74 : decode cX4_year 74 = .ok (.irem, 1) := by decide +kernel
theorem dX4_year_75 : decode cX4_year 75 = .ok (.invokevirtual 195, 3) := by decide +kernel
theorem dX4_year_78 : decode cX4_year 78 = .ok (.aload_n 0, 1) := by decide +kernel
theorem dX4_year_79 : decode cX4_year 79 = .ok (.getfield 35, 3) := by decide +kernel
theorem dX4_year_82 : decode cX4_year 82 = .ok (.iconst 1, 1) := by decide +kernel
theorem dX4_year_83 : decode cX4_year 83 = .ok (.invokevirtual 199, 3) := by decide +kernel
theorem dX4_year_86 : decode cX4_year 86 = .ok (.iinc 5 1, 3) := by decide +kernel
theorem dX4_year_89 : decode cX4_year 89 = .ok (.goto (-42), 3) := by decide +kernel
theorem dX4_year_92 : decode cX4_year 92 = .ok (.iload_n 3, 1) := by decide +kernel
theorem dX4_year_93 : decode cX4_year 93 = .ok (.bipush 7, 2) := by decide +kernel
theorem dX4_year_95 : decode cX4_year 95 = .ok (.if_icmp .ne 11, 3) := by decide +kernel
theorem dX4_year_98 : decode cX4_year 98 = .ok (.aload_n 0, 1) := by decide +kernel
theorem dX4_year_99 : decode cX4_year 99 = .ok (.getfield 35, 3) := by decide +kernel
theorem dX4_year_102 : decode cX4_year 102 = .ok (.getfield 124, 3) := by decide +kernel
theorem dX4_year_105 : decode cX4_year 105 = .ok (.ireturn, 1) := by decide +kernel
theorem dX4_year_106 : decode cX4_year 106 = .ok (.aload_n 0, 1) := by decide +kernel
theorem dX4_year_107 : decode cX4_year 107 = .ok (.getfield 35, 3) := by decide +kernel
theorem dX4_year_110 : decode cX4_year 110 = .ok (.iload_n 3, 1) := by decide +kernel
theorem dX4_year_111 : decode cX4_year 111 = .ok (.bipush 6, 2) := by decide +kernel
theorem dX4_year_113 : decode cX4_year 113 = .ok (.if_icmp .ne 8, 3) := by decide +kernel
theorem dX4_year_116 : decode cX4_year 116 = .ok (.bipush 8, 2) := by decide +kernel
theorem dX4_year_118 : decode cX4_year 118 = .ok (.goto 4, 3) := by decide +kernel
theorem dX4_year_121 : decode cX4_year 121 = .ok (.iload_n 3, 1) := by decide +kernel
theorem dX4_year_122 : decode cX4_year 122 = .ok (.invokevirtual 127, 3) := by decide +kernel
theorem dX4_year_125 : decode cX4_year 125 = .ok (.ireturn, 1) := by decide +kernel
set_option maxRecDepth 20000 in
theorem ggX4_image_X4_within : GoodIn wsX4_image wsX4_within := goodIn_r _ [9] (by decide +kernel) (by decide +kernel)
set_option maxRecDepth 20000 in
theorem gX4_image_X4_within : GoodIn wsX4_image (va_wsS RX4 46 yX4_within wsX4_within) := goodIn_app (goodIn_of _ (by decide +kernel)) ggX4_image_X4_within
set_option maxRecDepth 20000 in
theorem ggX4_image_X0_init : GoodIn wsX4_image wsX0_init := goodIn_r _ [12, 13, 14, 15, 16, 17, 18, 19, 20, 21, 22, 23, 24, 25, 26, 27, 47, 48, 49, 50, 51, 52, 53, 54, 55, 56, 57, 58] (by decide +kernel) (by decide +kernel)
set_option maxRecDepth 20000 in
theorem gX4_image_X0_init : GoodIn wsX4_image (wsX0_init) := ggX4_image_X0_init
set_option maxRecDepth 20000 in
theorem ggX4_image_X0_copyFrom : GoodIn wsX4_image wsX0_copyFrom := goodIn_r _ [31, 16, 17, 32, 33, 34, 35, 36, 19, 37, 38, 39, 40, 20, 21, 22, 23, 47, 48, 49, 50, 51, 52, 53, 54, 55, 56, 57, 58] (by decide +kernel) (by decide +kernel)
set_option maxRecDepth 20000 in
theorem gX4_image_X0_copyFrom : GoodIn wsX4_image (wsV RX4 179 RX0 yX0_copyFrom wsX0_copyFrom) := goodIn_app (goodIn_of _ (by decide +kernel)) ggX4_image_X0_copyFrom
theorem dX4_image_0 : decode cX4_image 0 = .ok (.iload_n 1, 1) := by decide +kernel
theorem dX4_image_1 : decode cX4_image 1 = .ok (.iconst 0, 1) := by decide +kernel
theorem dX4_image_2 : decode cX4_image 2 = .ok (.iconst 1, 1) := by decide +kernel
theorem dX4_image_3 : decode cX4_image 3 = .ok (.invokestatic 46, 3) := by decide +kernel
theorem dX4_image_6 : decode cX4_image 6 = .ok (.ifCond .ne 6, 3) := by decide +kernel
theorem dX4_image_9 : decode cX4_image 9 = .ok (.bipush (-2), 2) := by decide +kernel
theorem dX4_image_11 : decode cX4_image 11 = .ok (.ireturn, 1) := by decide +kernel
theorem dX4_image_12 : decode cX4_image 12 = .ok (.aload_n 0, 1) := by decide +kernel
theorem dX4_image_13 : decode cX4_image 13 = .ok (.getfield 19, 3) := by decide +kernel
theorem dX4_image_16 : decode cX4_image 16 = .ok (.iload_n 1, 1) := by decide +kernel
theorem dX4_image_17 : decode cX4_image 17 = .ok (.aaload, 1) := by decide +kernel
theorem dX4_image_18 : decode cX4_image 18 = .ok (.astore_n 2, 1) := by decide +kernel
theorem dX4_image_19 : decode cX4_image 19 = .ok (.aload_n 2, 1) := by decide +kernel
theorem dX4_image_20 : decode cX4_image 20 = .ok (.ifnonnull 18, 3) := by decide +kernel
theorem dX4_image_23 : decode cX4_image 23 = .ok (.new 7, 3) := by decide +kernel
theorem dX4_image_26 : decode cX4_image 26 = .ok (.dup, 1) := by decide +kernel
theorem dX4_image_27 : decode cX4_image 27 = .ok (.invokespecial 9, 3) := by decide +kernel
theorem dX4_image_30 : decode cX4_image 30 = .ok (.astore_n 2, 1) := by decide +kernel
theorem dX4_image_31 : decode cX4_image 31 = .ok (.aload_n 0, 1) := by decide +kernel
theorem dX4_image_32 : decode cX4_image 32 = .ok (.getfield 19, 3) := by decide +kernel
theorem dX4_image_35 : decode cX4_image 35 = .ok (.iload_n 1, 1) := by decide +kernel
theorem dX4_image_36 : decode cX4_image 36 = .ok (.aload_n 2, 1) := by decide +kernel
theorem dX4_image_37 : decode cX4_image 37 = .ok (.aastore, 1) := by decide +kernel
theorem dX4_image_38 : decode cX4_image 38 = .ok (.aload_n 2, 1) := by decide +kernel
theorem dX4_image_39 : decode cX4_image 39 = .ok (.aload_n 0, 1) := by decide +kernel
theorem dX4_image_40 : decode cX4_image 40 = .ok (.getfield 10, 3) := by decide +kernel
theorem dX4_image_43 : decode cX4_image 43 = .ok (.invokevirtual 179, 3) := by decide +kernel
theorem dX4_image_46 : decode cX4_image 46 = .ok (.iconst 1, 1) := by decide +kernel
theorem dX4_image_47 : decode cX4_image 47 = .ok (.ireturn, 1) := by decide +kernel
set_option maxRecDepth 20000 in
theorem ggX4_restore_X4_within : GoodIn wsX4_restore wsX4_within := goodIn_r _ [6] (by decide +kernel) (by decide +kernel)
set_option maxRecDepth 20000 in
theorem gX4_restore_X4_within : GoodIn wsX4_restore (va_wsS RX4 46 yX4_within wsX4_within) := goodIn_app (goodIn_of _ (by decide +kernel)) ggX4_restore_X4_within
set_option maxRecDepth 20000 in
theorem ggX4_restore_X0_copyFrom : GoodIn wsX4_restore wsX0_copyFrom := goodIn_r _ [11, 12, 13, 14, 15, 16, 17, 18, 19, 20, 21, 22, 23, 24, 25, 26, 27, 34, 35, 36, 37, 38, 39, 40, 41, 42, 43, 44, 45] (by decide +kernel) (by decide +kernel)
set_option maxRecDepth 20000 in
theorem gX4_restore_X0_copyFrom : GoodIn wsX4_restore (wsV RX4 179 RX0 yX0_copyFrom wsX0_copyFrom) := goodIn_app (goodIn_of _ (by decide +kernel)) ggX4_restore_X0_copyFrom
theorem dX4_restore_0 : decode cX4_restore 0 = .ok (.iload_n 1, 1) := by decide +kernel
theorem dX4_restore_1 : decode cX4_restore 1 = .ok (.iconst 0, 1) := by decide +kernel
theorem dX4_restore_2 : decode cX4_restore 2 = .ok (.iconst 1, 1) := by decide +kernel
theorem dX4_restore_3 : decode cX4_restore 3 = .ok (.invokestatic 46, 3) := by decide +kernel
theorem dX4_restore_6 : decode cX4_restore 6 = .ok (.ifCond .ne 6, 3) := by decide +kernel
theorem dX4_restore_9 : decode cX4_restore 9 = .ok (.bipush (-2), 2) := by decide +kernel
theorem dX4_restore_11 : decode cX4_restore 11 = .ok (.ireturn, 1) := by decide +kernel
theorem dX4_restore_12 : decode cX4_restore 12 = .ok (.aload_n 0, 1) := by decide +kernel
theorem dX4_restore_13 : decode cX4_restore 13 = .ok (.getfield 19, 3) := by decide +kernel
theorem dX4_restore_16 : decode cX4_restore 16 = .ok (.iload_n 1, 1) := by decide +kernel
theorem dX4_restore_17 : decode cX4_restore 17 = .ok (.aaload, 1) := by decide +kernel
theorem dX4_restore_18 : decode cX4_restore 18 = .ok (.astore_n 2, 1) := by decide +kernel
theorem dX4_restore_19 : decode cX4_restore 19 = .ok (.aload_n 2, 1) := by decide +kernel
theorem dX4_restore_20 : decode cX4_restore 20 = .ok (.ifnonnull 6, 3) := by decide +kernel
theorem dX4_restore_23 : decode cX4_restore 23 = .ok (.bipush (-3), 2) := by decide +kernel
theorem dX4_restore_25 : decode cX4_restore 25 = .ok (.ireturn, 1) := by decide +kernel
theorem dX4_restore_26 : decode cX4_restore 26 = .ok (.aload_n 0, 1) := by decide +kernel
theorem dX4_restore_27 : decode cX4_restore 27 = .ok (.getfield 10, 3) := by decide +kernel
theorem dX4_restore_30 : decode cX4_restore 30 = .ok (.aload_n 2, 1) := by decide +kernel
theorem dX4_restore_31 : decode cX4_restore 31 = .ok (.invokevirtual 179, 3) := by decide +kernel
theorem dX4_restore_34 : decode cX4_restore 34 = .ok (.iconst 1, 1) := by decide +kernel
theorem dX4_restore_35 : decode cX4_restore 35 = .ok (.ireturn, 1) := by decide +kernel
set_option maxRecDepth 20000 in
theorem ggX4_told_X4_within : GoodIn wsX4_told wsX4_within := goodIn_r _ [13] (by decide +kernel) (by decide +kernel)
set_option maxRecDepth 20000 in
theorem gX4_told_X4_within : GoodIn wsX4_told (va_wsS RX4 46 yX4_within wsX4_within) := goodIn_app (goodIn_of _ (by decide +kernel)) ggX4_told_X4_within
set_option maxRecDepth 20000 in
theorem ggX4_told_X4_toldOfPerson : GoodIn wsX4_told wsX4_toldOfPerson := goodIn_r _ [17, 3, 18, 19, 20, 21, 22, 23, 24, 25, 26, 27, 11, 12, 13, 28, 29, 30, 31, 32, 33, 34, 35, 36, 39, 40, 41, 42, 43, 44, 45, 46, 47, 48, 49, 50] (by decide +kernel) (by decide +kernel)
set_option maxRecDepth 20000 in
theorem gX4_told_X4_toldOfPerson : GoodIn wsX4_told (wsV RX4 202 RX4 yX4_toldOfPerson wsX4_toldOfPerson) := goodIn_app (goodIn_of _ (by decide +kernel)) ggX4_told_X4_toldOfPerson
theorem dX4_told_0 : decode cX4_told 0 = .ok (.iload_n 1, 1) := by decide +kernel
theorem dX4_told_1 : decode cX4_told 1 = .ok (.tableswitch 87 0 5 #[39, 47, 55, 63, 71, 79], 39) := by decide +kernel
theorem dX4_told_40 : decode cX4_told 40 = .ok (.aload_n 0, 1) := by decide +kernel
theorem dX4_told_41 : decode cX4_told 41 = .ok (.getfield 26, 3) := by decide +kernel
theorem dX4_told_44 : decode cX4_told 44 = .ok (.getfield 93, 3) := by decide +kernel
theorem dX4_told_47 : decode cX4_told 47 = .ok (.ireturn, 1) := by decide +kernel
theorem dX4_told_48 : decode cX4_told 48 = .ok (.aload_n 0, 1) := by decide +kernel
theorem dX4_told_49 : decode cX4_told 49 = .ok (.getfield 10, 3) := by decide +kernel
theorem dX4_told_52 : decode cX4_told 52 = .ok (.getfield 58, 3) := by decide +kernel
theorem dX4_told_55 : decode cX4_told 55 = .ok (.ireturn, 1) := by decide +kernel
theorem dX4_told_56 : decode cX4_told 56 = .ok (.aload_n 0, 1) := by decide +kernel
theorem dX4_told_57 : decode cX4_told 57 = .ok (.getfield 10, 3) := by decide +kernel
theorem dX4_told_60 : decode cX4_told 60 = .ok (.getfield 84, 3) := by decide +kernel
theorem dX4_told_63 : decode cX4_told 63 = .ok (.ireturn, 1) := by decide +kernel
theorem dX4_told_64 : decode cX4_told 64 = .ok (.aload_n 0, 1) := by decide +kernel
theorem dX4_told_65 : decode cX4_told 65 = .ok (.getfield 10, 3) := by decide +kernel
theorem dX4_told_68 : decode cX4_told 68 = .ok (.getfield 87, 3) := by decide +kernel
theorem dX4_told_71 : decode cX4_told 71 = .ok (.ireturn, 1) := by decide +kernel
theorem dX4_told_72 : decode cX4_told 72 = .ok (.aload_n 0, 1) := by decide +kernel
theorem dX4_told_73 : decode cX4_told 73 = .ok (.getfield 10, 3) := by decide +kernel
theorem dX4_told_76 : decode cX4_told 76 = .ok (.getfield 81, 3) := by decide +kernel
theorem dX4_told_79 : decode cX4_told 79 = .ok (.ireturn, 1) := by decide +kernel
theorem dX4_told_80 : decode cX4_told 80 = .ok (.aload_n 0, 1) := by decide +kernel
theorem dX4_told_81 : decode cX4_told 81 = .ok (.getfield 10, 3) := by decide +kernel
theorem dX4_told_84 : decode cX4_told 84 = .ok (.getfield 185, 3) := by decide +kernel
theorem dX4_told_87 : decode cX4_told 87 = .ok (.ireturn, 1) := by decide +kernel
theorem dX4_told_88 : decode cX4_told 88 = .ok (.iload_n 1, 1) := by decide +kernel
theorem dX4_told_89 : decode cX4_told 89 = .ok (.bipush 10, 2) := by decide +kernel
theorem dX4_told_91 : decode cX4_told 91 = .ok (.bipush 19, 2) := by decide +kernel
theorem dX4_told_93 : decode cX4_told 93 = .ok (.invokestatic 46, 3) := by decide +kernel
theorem dX4_told_96 : decode cX4_told 96 = .ok (.ifCond .eq 16, 3) := by decide +kernel
theorem dX4_told_99 : decode cX4_told 99 = .ok (.aload_n 0, 1) := by decide +kernel
theorem dX4_told_100 : decode cX4_told 100 = .ok (.getfield 10, 3) := by decide +kernel
theorem dX4_told_103 : decode cX4_told 103 = .ok (.getfield 130, 3) := by decide +kernel
theorem dX4_told_106 : decode cX4_told 106 = .ok (.iload_n 1, 1) := by decide +kernel
theorem dX4_told_107 : decode cX4_told 107 = .ok (.bipush 10, 2) := by decide +kernel
theorem dX4_told_109 : decode cX4_told 109 = .ok (.isub, 1) := by decide +kernel
theorem dX4_told_110 : decode cX4_told 110 = .ok (.iaload, 1) := by decide +kernel
theorem dX4_told_111 : decode cX4_told 111 = .ok (.ireturn, 1) := by decide +kernel
theorem dX4_told_112 : decode cX4_told 112 = .ok (.iload_n 1, 1) := by decide +kernel
theorem dX4_told_113 : decode cX4_told 113 = .ok (.bipush 20, 2) := by decide +kernel
theorem dX4_told_115 : decode cX4_told 115 = .ok (.if_icmp .ge 8, 3) := by decide +kernel
theorem dX4_told_118 : decode cX4_told 118 = .ok (.bipush (-2), 2) := by decide +kernel
theorem dX4_told_120 : decode cX4_told 120 = .ok (.goto 21, 3) := by decide +kernel
theorem dX4_told_123 : decode cX4_told 123 = .ok (.aload_n 0, 1) := by decide +kernel
theorem dX4_told_124 : decode cX4_told 124 = .ok (.iload_n 1, 1) := by decide +kernel
theorem dX4_told_125 : decode cX4_told 125 = .ok (.bipush 20, 2) := by decide +kernel
theorem dX4_told_127 : decode cX4_told 127 = .ok (.isub, 1) := by decide +kernel
theorem dX4_told_128 : decode cX4_told 128 = .ok (.bipush 10, 2) := by decide +kernel
theorem dX4_told_130 : decode cX4_told 130 = .ok (.idiv, 1) := by decide +kernel
theorem dX4_told_131 : decode cX4_told 131 = .ok (.iload_n 1, 1) := by decide +kernel
theorem dX4_told_132 : decode cX4_told 132 = .ok (.bipush 20, 2) := by decide +kernel
theorem dX4_told_134 : decode cX4_told 134 = .ok (.isub, 1) := by decide +kernel
theorem dX4_told_135 : decode cX4_told 135 = .ok (.bipush 10, 2) := by decide +kernel
theorem dX4_told_137 : decode cX4_told 137 = .ok (.irem, 1) := by decide +kernel
theorem dX4_told_138 : decode cX4_told 138 = .ok (.invokevirtual 202, 3) := by decide +kernel
theorem dX4_told_141 : decode cX4_told 141 = .ok (.ireturn, 1) := by decide +kernel
set_option maxRecDepth 20000 in
theorem ggX4_toldOfPerson_X0_isThere : GoodIn wsX4_toldOfPerson wsX0_isThere := goodIn_r _ [10, 11, 12, 13, 14, 15, 16, 24, 25, 26, 27, 28, 29, 30, 31, 32, 33, 34, 35] (by decide +kernel) (by decide +kernel)
set_option maxRecDepth 20000 in
theorem gX4_toldOfPerson_X0_isThere : GoodIn wsX4_toldOfPerson (wsV RX4 78 RX0 yX0_isThere wsX0_isThere) := goodIn_app (goodIn_of _ (by decide +kernel)) ggX4_toldOfPerson_X0_isThere
set_option maxRecDepth 20000 in
theorem ggX4_toldOfPerson_X4_hasBit : GoodIn wsX4_toldOfPerson wsX4_hasBit := goodIn_r _ [16] (by decide +kernel) (by decide +kernel)
set_option maxRecDepth 20000 in
theorem gX4_toldOfPerson_X4_hasBit : GoodIn wsX4_toldOfPerson (va_wsS RX4 110 yX4_hasBit wsX4_hasBit) := goodIn_app (goodIn_of _ (by decide +kernel)) ggX4_toldOfPerson_X4_hasBit
theorem dX4_toldOfPerson_0 : decode cX4_toldOfPerson 0 = .ok (.aload_n 0, 1) := by decide +kernel
theorem dX4_toldOfPerson_1 : decode cX4_toldOfPerson 1 = .ok (.getfield 10, 3) := by decide +kernel
theorem dX4_toldOfPerson_4 : decode cX4_toldOfPerson 4 = .ok (.iload_n 1, 1) := by decide +kernel
theorem dX4_toldOfPerson_5 : decode cX4_toldOfPerson 5 = .ok (.invokevirtual 78, 3) := by decide +kernel
theorem dX4_toldOfPerson_8 : decode cX4_toldOfPerson 8 = .ok (.ifCond .ne 6, 3) := by decide +kernel
theorem dX4_toldOfPerson_11 : decode cX4_toldOfPerson 11 = .ok (.bipush (-2), 2) := by decide +kernel
theorem dX4_toldOfPerson_13 : decode cX4_toldOfPerson 13 = .ok (.ireturn, 1) := by decide +kernel
theorem dX4_toldOfPerson_14 : decode cX4_toldOfPerson 14 = .ok (.iload_n 2, 1) := by decide +kernel
theorem dX4_toldOfPerson_15 : decode cX4_toldOfPerson 15 = .ok (.tableswitch 89 0 3 #[29, 39, 49, 69], 29) := by decide +kernel
theorem dX4_toldOfPerson_44 : decode cX4_toldOfPerson 44 = .ok (.aload_n 0, 1) := by decide +kernel
theorem dX4_toldOfPerson_45 : decode cX4_toldOfPerson 45 = .ok (.getfield 10, 3) := by decide +kernel
theorem dX4_toldOfPerson_48 : decode cX4_toldOfPerson 48 = .ok (.getfield 170, 3) := by decide +kernel
theorem dX4_toldOfPerson_51 : decode cX4_toldOfPerson 51 = .ok (.iload_n 1, 1) := by decide +kernel
theorem dX4_toldOfPerson_52 : decode cX4_toldOfPerson 52 = .ok (.iaload, 1) := by decide +kernel
theorem dX4_toldOfPerson_53 : decode cX4_toldOfPerson 53 = .ok (.ireturn, 1) := by decide +kernel
theorem dX4_toldOfPerson_54 : decode cX4_toldOfPerson 54 = .ok (.aload_n 0, 1) := by decide +kernel
theorem dX4_toldOfPerson_55 : decode cX4_toldOfPerson 55 = .ok (.getfield 10, 3) := by decide +kernel
theorem dX4_toldOfPerson_58 : decode cX4_toldOfPerson 58 = .ok (.getfield 154, 3) := by decide +kernel
theorem dX4_toldOfPerson_61 : decode cX4_toldOfPerson 61 = .ok (.iload_n 1, 1) := by decide +kernel
theorem dX4_toldOfPerson_62 : decode cX4_toldOfPerson 62 = .ok (.iaload, 1) := by decide +kernel
theorem dX4_toldOfPerson_63 : decode cX4_toldOfPerson 63 = .ok (.ireturn, 1) := by decide +kernel
theorem dX4_toldOfPerson_64 : decode cX4_toldOfPerson 64 = .ok (.aload_n 0, 1) := by decide +kernel
theorem dX4_toldOfPerson_65 : decode cX4_toldOfPerson 65 = .ok (.getfield 10, 3) := by decide +kernel
theorem dX4_toldOfPerson_68 : decode cX4_toldOfPerson 68 = .ok (.getfield 66, 3) := by decide +kernel
theorem dX4_toldOfPerson_71 : decode cX4_toldOfPerson 71 = .ok (.iload_n 1, 1) := by decide +kernel
theorem dX4_toldOfPerson_72 : decode cX4_toldOfPerson 72 = .ok (.invokestatic 110, 3) := by decide +kernel
theorem dX4_toldOfPerson_75 : decode cX4_toldOfPerson 75 = .ok (.ifCond .eq 7, 3) := by decide +kernel
theorem dX4_toldOfPerson_78 : decode cX4_toldOfPerson 78 = .ok (.iconst 1, 1) := by decide +kernel
theorem dX4_toldOfPerson_79 : decode cX4_toldOfPerson 79 = .ok (.goto 4, 3) := by decide +kernel
theorem dX4_toldOfPerson_82 : decode cX4_toldOfPerson 82 = .ok (.iconst 0, 1) := by decide +kernel
theorem dX4_toldOfPerson_83 : decode cX4_toldOfPerson 83 = .ok (.ireturn, 1) := by decide +kernel
theorem dX4_toldOfPerson_84 : decode cX4_toldOfPerson 84 = .ok (.aload_n 0, 1) := by decide +kernel
theorem dX4_toldOfPerson_85 : decode cX4_toldOfPerson 85 = .ok (.getfield 10, 3) := by decide +kernel
theorem dX4_toldOfPerson_88 : decode cX4_toldOfPerson 88 = .ok (.getfield 69, 3) := by decide +kernel
theorem dX4_toldOfPerson_91 : decode cX4_toldOfPerson 91 = .ok (.iload_n 1, 1) := by decide +kernel
theorem dX4_toldOfPerson_92 : decode cX4_toldOfPerson 92 = .ok (.invokestatic 110, 3) := by decide +kernel
theorem dX4_toldOfPerson_95 : decode cX4_toldOfPerson 95 = .ok (.ifCond .eq 7, 3) := by decide +kernel
theorem dX4_toldOfPerson_98 : decode cX4_toldOfPerson 98 = .ok (.iconst 1, 1) := by decide +kernel
theorem dX4_toldOfPerson_99 : decode cX4_toldOfPerson 99 = .ok (.goto 4, 3) := by decide +kernel
theorem dX4_toldOfPerson_102 : decode cX4_toldOfPerson 102 = .ok (.iconst 0, 1) := by decide +kernel
theorem dX4_toldOfPerson_103 : decode cX4_toldOfPerson 103 = .ok (.ireturn, 1) := by decide +kernel
theorem dX4_toldOfPerson_104 : decode cX4_toldOfPerson 104 = .ok (.bipush (-2), 2) := by decide +kernel
theorem dX4_toldOfPerson_106 : decode cX4_toldOfPerson 106 = .ok (.ireturn, 1) := by decide +kernel
theorem dX4_within_0 : decode cX4_within 0 = .ok (.iload_n 0, 1) := by decide +kernel
theorem dX4_within_1 : decode cX4_within 1 = .ok (.iload_n 1, 1) := by decide +kernel
theorem dX4_within_2 : decode cX4_within 2 = .ok (.if_icmp .lt 12, 3) := by decide +kernel
theorem dX4_within_5 : decode cX4_within 5 = .ok (.iload_n 0, 1) := by decide +kernel
theorem dX4_within_6 : decode cX4_within 6 = .ok (.iload_n 2, 1) := by decide +kernel
theorem dX4_within_7 : decode cX4_within 7 = .ok (.if_icmp .gt 7, 3) := by decide +kernel
theorem dX4_within_10 : decode cX4_within 10 = .ok (.iconst 1, 1) := by decide +kernel
theorem dX4_within_11 : decode cX4_within 11 = .ok (.goto 4, 3) := by decide +kernel
theorem dX4_within_14 : decode cX4_within 14 = .ok (.iconst 0, 1) := by decide +kernel
theorem dX4_within_15 : decode cX4_within 15 = .ok (.ireturn, 1) := by decide +kernel
set_option maxRecDepth 20000 in
theorem ggX4_isPlace_X4_within : GoodIn wsX4_isPlace wsX4_within := goodIn_r _ [4] (by decide +kernel) (by decide +kernel)
set_option maxRecDepth 20000 in
theorem gX4_isPlace_X4_within : GoodIn wsX4_isPlace (va_wsS RX4 46 yX4_within wsX4_within) := goodIn_app (goodIn_of _ (by decide +kernel)) ggX4_isPlace_X4_within
theorem dX4_isPlace_0 : decode cX4_isPlace 0 = .ok (.iload_n 0, 1) := by decide +kernel
theorem dX4_isPlace_1 : decode cX4_isPlace 1 = .ok (.iconst 0, 1) := by decide +kernel
theorem dX4_isPlace_2 : decode cX4_isPlace 2 = .ok (.bipush 9, 2) := by decide +kernel
theorem dX4_isPlace_4 : decode cX4_isPlace 4 = .ok (.invokestatic 46, 3) := by decide +kernel
theorem dX4_isPlace_7 : decode cX4_isPlace 7 = .ok (.ireturn, 1) := by decide +kernel
theorem dX4_hasBit_0 : decode cX4_hasBit 0 = .ok (.iload_n 0, 1) := by decide +kernel
theorem dX4_hasBit_1 : decode cX4_hasBit 1 = .ok (.iload_n 1, 1) := by decide +kernel
theorem dX4_hasBit_2 : decode cX4_hasBit 2 = .ok (.ishr, 1) := by decide +kernel
theorem dX4_hasBit_3 : decode cX4_hasBit 3 = .ok (.iconst 1, 1) := by decide +kernel
theorem dX4_hasBit_4 : decode cX4_hasBit 4 = .ok (.iand, 1) := by decide +kernel
theorem dX4_hasBit_5 : decode cX4_hasBit 5 = .ok (.iconst 1, 1) := by decide +kernel
theorem dX4_hasBit_6 : decode cX4_hasBit 6 = .ok (.if_icmp .ne 7, 3) := by decide +kernel
theorem dX4_hasBit_9 : decode cX4_hasBit 9 = .ok (.iconst 1, 1) := by decide +kernel
theorem dX4_hasBit_10 : decode cX4_hasBit 10 = .ok (.goto 4, 3) := by decide +kernel
theorem dX4_hasBit_13 : decode cX4_hasBit 13 = .ok (.iconst 0, 1) := by decide +kernel
theorem dX4_hasBit_14 : decode cX4_hasBit 14 = .ok (.ireturn, 1) := by decide +kernel
theorem dX4_withBit_0 : decode cX4_withBit 0 = .ok (.iload_n 2, 1) := by decide +kernel
theorem dX4_withBit_1 : decode cX4_withBit 1 = .ok (.ifCond .eq 11, 3) := by decide +kernel
theorem dX4_withBit_4 : decode cX4_withBit 4 = .ok (.iload_n 0, 1) := by decide +kernel
theorem dX4_withBit_5 : decode cX4_withBit 5 = .ok (.iconst 1, 1) := by decide +kernel
theorem dX4_withBit_6 : decode cX4_withBit 6 = .ok (.iload_n 1, 1) := by decide +kernel
theorem dX4_withBit_7 : decode cX4_withBit 7 = .ok (.ishl, 1) := by decide +kernel
theorem dX4_withBit_8 : decode cX4_withBit 8 = .ok (.ior, 1) := by decide +kernel
theorem dX4_withBit_9 : decode cX4_withBit 9 = .ok (.goto 10, 3) := by decide +kernel
theorem dX4_withBit_12 : decode cX4_withBit 12 = .ok (.iload_n 0, 1) := by decide +kernel
theorem dX4_withBit_13 : decode cX4_withBit 13 = .ok (.iconst 1, 1) := by decide +kernel
theorem dX4_withBit_14 : decode cX4_withBit 14 = .ok (.iload_n 1, 1) := by decide +kernel
theorem dX4_withBit_15 : decode cX4_withBit 15 = .ok (.ishl, 1) := by decide +kernel
theorem dX4_withBit_16 : decode cX4_withBit 16 = .ok (.iconst (-1), 1) := by decide +kernel
theorem dX4_withBit_17 : decode cX4_withBit 17 = .ok (.ixor, 1) := by decide +kernel
theorem dX4_withBit_18 : decode cX4_withBit 18 = .ok (.iand, 1) := by decide +kernel
theorem dX4_withBit_19 : decode cX4_withBit 19 = .ok (.ireturn, 1) := by decide +kernel
set_option maxRecDepth 20000 in
theorem ggX4_firstPerson_X4_hasBit : GoodIn wsX4_firstPerson wsX4_hasBit := goodIn_r _ [4] (by decide +kernel) (by decide +kernel)
set_option maxRecDepth 20000 in
theorem gX4_firstPerson_X4_hasBit : GoodIn wsX4_firstPerson (va_wsS RX4 110 yX4_hasBit wsX4_hasBit) := goodIn_app (goodIn_of _ (by decide +kernel)) ggX4_firstPerson_X4_hasBit
theorem dX4_firstPerson_0 : decode cX4_firstPerson 0 = .ok (.iconst 0, 1) := by decide +kernel
theorem dX4_firstPerson_1 : decode cX4_firstPerson 1 = .ok (.istore_n 1, 1) := by decide +kernel
theorem dX4_firstPerson_2 : decode cX4_firstPerson 2 = .ok (.iload_n 1, 1) := by decide +kernel
theorem dX4_firstPerson_3 : decode cX4_firstPerson 3 = .ok (.bipush 6, 2) := by decide +kernel
theorem dX4_firstPerson_5 : decode cX4_firstPerson 5 = .ok (.if_icmp .ge 19, 3) := by decide +kernel
theorem dX4_firstPerson_8 : decode cX4_firstPerson 8 = .ok (.iload_n 0, 1) := by decide +kernel
theorem dX4_firstPerson_9 : decode cX4_firstPerson 9 = .ok (.iload_n 1, 1) := by decide +kernel
theorem dX4_firstPerson_10 : decode cX4_firstPerson 10 = .ok (.invokestatic 110, 3) := by decide +kernel
theorem dX4_firstPerson_13 : decode cX4_firstPerson 13 = .ok (.ifCond .eq 5, 3) := by decide +kernel
theorem dX4_firstPerson_16 : decode cX4_firstPerson 16 = .ok (.iload_n 1, 1) := by decide +kernel
theorem dX4_firstPerson_17 : decode cX4_firstPerson 17 = .ok (.ireturn, 1) := by decide +kernel
theorem dX4_firstPerson_18 : decode cX4_firstPerson 18 = .ok (.iinc 1 1, 3) := by decide +kernel
theorem dX4_firstPerson_21 : decode cX4_firstPerson 21 = .ok (.goto (-19), 3) := by decide +kernel
theorem dX4_firstPerson_24 : decode cX4_firstPerson 24 = .ok (.bipush (-6), 2) := by decide +kernel
theorem dX4_firstPerson_26 : decode cX4_firstPerson 26 = .ok (.ireturn, 1) := by decide +kernel
set_option maxRecDepth 20000 in
theorem ggX4_fraction_X4_commonDivisor : GoodIn wsX4_fraction wsX4_commonDivisor := goodIn_r _ [4] (by decide +kernel) (by decide +kernel)
set_option maxRecDepth 20000 in
theorem gX4_fraction_X4_commonDivisor : GoodIn wsX4_fraction (va_wsS RX4 205 yX4_commonDivisor wsX4_commonDivisor) := goodIn_app (goodIn_of _ (by decide +kernel)) ggX4_fraction_X4_commonDivisor
theorem dX4_fraction_0 : decode cX4_fraction 0 = .ok (.iload_n 0, 1) := by decide +kernel
theorem dX4_fraction_1 : decode cX4_fraction 1 = .ok (.iload_n 1, 1) := by decide +kernel
theorem dX4_fraction_2 : decode cX4_fraction 2 = .ok (.invokestatic 205, 3) := by decide +kernel
theorem dX4_fraction_5 : decode cX4_fraction 5 = .ok (.istore_n 3, 1) := by decide +kernel
theorem dX4_fraction_6 : decode cX4_fraction 6 = .ok (.iload_n 3, 1) := by decide +kernel
theorem dX4_fraction_7 : decode cX4_fraction 7 = .ok (.iconst 1, 1) := by decide +kernel
theorem dX4_fraction_8 : decode cX4_fraction 8 = .ok (.if_icmp .ge 5, 3) := by decide +kernel
theorem dX4_fraction_11 : decode cX4_fraction 11 = .ok (.lconst 0, 1) := by decide +kernel
theorem dX4_fraction_12 : decode cX4_fraction 12 = .ok (.lreturn, 1) := by decide +kernel
theorem dX4_fraction_13 : decode cX4_fraction 13 = .ok (.iload_n 2, 1) := by decide +kernel
theorem dX4_fraction_14 : decode cX4_fraction 14 = .ok (.ifCond .ne 7, 3) := by decide +kernel
theorem dX4_fraction_17 : decode cX4_fraction 17 = .ok (.iload_n 0, 1) := by decide +kernel
theorem dX4_fraction_18 : decode cX4_fraction 18 = .ok (.goto 4, 3) := by decide +kernel
theorem dX4_fraction_21 : decode cX4_fraction 21 = .ok (.iload_n 1, 1) := by decide +kernel
theorem dX4_fraction_22 : decode cX4_fraction 22 = .ok (.iload_n 3, 1) := by decide +kernel
theorem dX4_fraction_23 : decode cX4_fraction 23 = .ok (.idiv, 1) := by decide +kernel
theorem dX4_fraction_24 : decode cX4_fraction 24 = .ok (.i2l, 1) := by decide +kernel
theorem dX4_fraction_25 : decode cX4_fraction 25 = .ok (.lreturn, 1) := by decide +kernel
theorem dX4_commonDivisor_0 : decode cX4_commonDivisor 0 = .ok (.iload_n 0, 1) := by decide +kernel
theorem dX4_commonDivisor_1 : decode cX4_commonDivisor 1 = .ok (.istore_n 2, 1) := by decide +kernel
theorem dX4_commonDivisor_2 : decode cX4_commonDivisor 2 = .ok (.iload_n 1, 1) := by decide +kernel
theorem dX4_commonDivisor_3 : decode cX4_commonDivisor 3 = .ok (.istore_n 3, 1) := by decide +kernel
theorem dX4_commonDivisor_4 : decode cX4_commonDivisor 4 = .ok (.iconst 0, 1) := by decide +kernel
theorem dX4_commonDivisor_5 : decode cX4_commonDivisor 5 = .ok (.istore 4, 2) := by decide +kernel
theorem dX4_commonDivisor_7 : decode cX4_commonDivisor 7 = .ok (.iload 4, 2) := by decide +kernel
theorem dX4_commonDivisor_9 : decode cX4_commonDivisor 9 = .ok (.sipush 1000, 3) := by decide +kernel
theorem dX4_commonDivisor_12 : decode cX4_commonDivisor 12 = .ok (.if_icmp .ge 23, 3) := by decide +kernel
theorem dX4_commonDivisor_15 : decode cX4_commonDivisor 15 = .ok (.iload_n 3, 1) := by decide +kernel
theorem dX4_commonDivisor_16 : decode cX4_commonDivisor 16 = .ok (.ifCond .eq 19, 3) := by decide +kernel
theorem dX4_commonDivisor_19 : decode cX4_commonDivisor 19 = .ok (.iload_n 2, 1) := by decide +kernel
theorem dX4_commonDivisor_20 : decode cX4_commonDivisor 20 = .ok (.iload_n 3, 1) := by decide +kernel
theorem dX4_commonDivisor_21 : decode cX4_commonDivisor 21 = .ok (.irem, 1) := by decide +kernel
theorem dX4_commonDivisor_22 : decode cX4_commonDivisor 22 = .ok (.istore 5, 2) := by decide +kernel
theorem dX4_commonDivisor_24 : decode cX4_commonDivisor 24 = .ok (.iload_n 3, 1) := by decide +kernel
theorem dX4_commonDivisor_25 : decode cX4_commonDivisor 25 = .ok (.istore_n 2, 1) := by decide +kernel
theorem dX4_commonDivisor_26 : decode cX4_commonDivisor 26 = .ok (.iload 5, 2) := by decide +kernel
theorem dX4_commonDivisor_28 : decode cX4_commonDivisor 28 = .ok (.istore_n 3, 1) := by decide +kernel
theorem dX4_commonDivisor_29 : decode cX4_commonDivisor 29 = .ok (.iinc 4 1, 3) := by decide +kernel
theorem dX4_commonDivisor_32 : decode cX4_commonDivisor 32 = .ok (.goto (-25), 3) := by decide +kernel
theorem dX4_commonDivisor_35 : decode cX4_commonDivisor 35 = .ok (.iload_n 2, 1) := by decide +kernel
theorem dX4_commonDivisor_36 : decode cX4_commonDivisor 36 = .ok (.ireturn, 1) := by decide +kernel
theorem dX5_init_0 : decode cX5_init 0 = .ok (.aload_n 0, 1) := by decide +kernel
theorem dX5_init_1 : decode cX5_init 1 = .ok (.invokespecial 1, 3) := by decide +kernel
theorem dX5_init_4 : decode cX5_init 4 = .ok (.aload_n 0, 1) := by decide +kernel
theorem dX5_init_5 : decode cX5_init 5 = .ok (.bipush 6, 2) := by decide +kernel
theorem dX5_init_7 : decode cX5_init 7 = .ok (.newarray .int, 2) := by decide +kernel
theorem dX5_init_9 : decode cX5_init 9 = .ok (.putfield 7, 3) := by decide +kernel
theorem dX5_init_12 : decode cX5_init 12 = .ok (.aload_n 0, 1) := by decide +kernel
theorem dX5_init_13 : decode cX5_init 13 = .ok (.bipush 6, 2) := by decide +kernel
theorem dX5_init_15 : decode cX5_init 15 = .ok (.newarray .int, 2) := by decide +kernel
theorem dX5_init_17 : decode cX5_init 17 = .ok (.putfield 13, 3) := by decide +kernel
theorem dX5_init_20 : decode cX5_init 20 = .ok (.aload_n 0, 1) := by decide +kernel
theorem dX5_init_21 : decode cX5_init 21 = .ok (.bipush 6, 2) := by decide +kernel
theorem dX5_init_23 : decode cX5_init 23 = .ok (.newarray .int, 2) := by decide +kernel
theorem dX5_init_25 : decode cX5_init 25 = .ok (.putfield 16, 3) := by decide +kernel
theorem dX5_init_28 : decode cX5_init 28 = .ok (.aload_n 0, 1) := by decide +kernel
theorem dX5_init_29 : decode cX5_init 29 = .ok (.bipush 10, 2) := by decide +kernel
theorem dX5_init_31 : decode cX5_init 31 = .ok (.newarray .int, 2) := by decide +kernel
theorem dX5_init_33 : decode cX5_init 33 = .ok (.putfield 19, 3) := by decide +kernel
theorem dX5_init_36 : decode cX5_init 36 = .ok (.aload_n 0, 1) := by decide +kernel
theorem dX5_init_37 : decode cX5_init 37 = .ok (.bipush 6, 2) := by decide +kernel
theorem dX5_init_39 : decode cX5_init 39 = .ok (.newarray .int, 2) := by decide +kernel
theorem dX5_init_41 : decode cX5_init 41 = .ok (.putfield 22, 3) := by decide +kernel
theorem dX5_init_44 : decode cX5_init 44 = .ok (.aload_n 0, 1) := by decide +kernel
theorem dX5_init_45 : decode cX5_init 45 = .ok (.bipush 6, 2) := by decide +kernel
theorem dX5_init_47 : decode cX5_init 47 = .ok (.newarray .int, 2) := by decide +kernel
theorem dX5_init_49 : decode cX5_init 49 = .ok (.putfield 25, 3) := by decide +kernel
theorem dX5_init_52 : decode cX5_init 52 = .ok (.aload_n 0, 1) := by decide +kernel
theorem dX5_init_53 : decode cX5_init 53 = .ok (.bipush 40, 2) := by decide +kernel
theorem dX5_init_55 : decode cX5_init 55 = .ok (.newarray .int, 2) := by decide +kernel
theorem dX5_init_57 : decode cX5_init 57 = .ok (.putfield 28, 3) := by decide +kernel
theorem dX5_init_60 : decode cX5_init 60 = .ok (.aload_n 0, 1) := by decide +kernel
theorem dX5_init_61 : decode cX5_init 61 = .ok (.bipush 9, 2) := by decide +kernel
theorem dX5_init_63 : decode cX5_init 63 = .ok (.newarray .int, 2) := by decide +kernel
theorem dX5_init_65 : decode cX5_init 65 = .ok (.putfield 31, 3) := by decide +kernel
theorem dX5_init_68 : decode cX5_init 68 = .ok (.aload_n 0, 1) := by decide +kernel
theorem dX5_init_69 : decode cX5_init 69 = .ok (.bipush 6, 2) := by decide +kernel
theorem dX5_init_71 : decode cX5_init 71 = .ok (.newarray .int, 2) := by decide +kernel
theorem dX5_init_73 : decode cX5_init 73 = .ok (.putfield 34, 3) := by decide +kernel
theorem dX5_init_76 : decode cX5_init 76 = .ok (.aload_n 0, 1) := by decide +kernel
theorem dX5_init_77 : decode cX5_init 77 = .ok (.sipush 160, 3) := by decide +kernel
theorem dX5_init_80 : decode cX5_init 80 = .ok (.newarray .int, 2) := by decide +kernel
theorem dX5_init_82 : decode cX5_init 82 = .ok (.putfield 37, 3) := by decide +kernel
theorem dX5_init_85 : decode cX5_init 85 = .ok (.aload_n 0, 1) := by decide +kernel
theorem dX5_init_86 : decode cX5_init 86 = .ok (.iconst 2, 1) := by decide +kernel
theorem dX5_init_87 : decode cX5_init 87 = .ok (.newarray .boolean, 2) := by decide +kernel
theorem dX5_init_89 : decode cX5_init 89 = .ok (.putfield 40, 3) := by decide +kernel
theorem dX5_init_92 : decode cX5_init 92 = .ok (.aload_n 0, 1) := by decide +kernel
theorem dX5_init_93 : decode cX5_init 93 = .ok (.iconst 2, 1) := by decide +kernel
theorem dX5_init_94 : decode cX5_init 94 = .ok (.putfield 44, 3) := by decide +kernel
theorem dX5_init_97 : decode cX5_init 97 = .ok (.aload_n 0, 1) := by decide +kernel
theorem dX5_init_98 : decode cX5_init 98 = .ok (.iconst 5, 1) := by decide +kernel
theorem dX5_init_99 : decode cX5_init 99 = .ok (.putfield 48, 3) := by decide +kernel
theorem dX5_init_102 : decode cX5_init 102 = .ok (.iconst 0, 1) := by decide +kernel
theorem dX5_init_103 : decode cX5_init 103 = .ok (.istore_n 1, 1) := by decide +kernel
theorem dX5_init_104 : decode cX5_init 104 = .ok (.iload_n 1, 1) := by decide +kernel
theorem dX5_init_105 : decode cX5_init 105 = .ok (.bipush 10, 2) := by decide +kernel
theorem dX5_init_107 : decode cX5_init 107 = .ok (.if_icmp .ge 16, 3) := by decide +kernel
theorem dX5_init_110 : decode cX5_init 110 = .ok (.aload_n 0, 1) := by decide +kernel
theorem dX5_init_111 : decode cX5_init 111 = .ok (.getfield 19, 3) := by decide +kernel
theorem dX5_init_114 : decode cX5_init 114 = .ok (.iload_n 1, 1) := by decide +kernel
theorem dX5_init_115 : decode cX5_init 115 = .ok (.iconst 1, 1) := by decide +kernel
theorem dX5_init_116 : decode cX5_init 116 = .ok (.iastore, 1) := by decide +kernel
theorem dX5_init_117 : decode cX5_init 117 = .ok (.iinc 1 1, 3) := by decide +kernel
theorem dX5_init_120 : decode cX5_init 120 = .ok (.goto (-16), 3) := by decide +kernel
theorem dX5_init_123 : decode cX5_init 123 = .ok (.return_, 1) := by decide +kernel
theorem dX5_in_0 : decode cX5_in 0 = .ok (.lload_n 0, 1) := by decide +kernel
theorem dX5_in_1 : decode cX5_in 1 = .ok (.lload_n 2, 1) := by decide +kernel
theorem dX5_in_2 : decode cX5_in 2 = .ok (.lcmp, 1) := by decide +kernel
theorem dX5_in_3 : decode cX5_in 3 = .ok (.ifCond .lt 14, 3) := by decide +kernel
theorem dX5_in_6 : decode cX5_in 6 = .ok (.lload_n 0, 1) := by decide +kernel
theorem dX5_in_7 : decode cX5_in 7 = .ok (.lload 4, 2) := by decide +kernel
theorem dX5_in_9 : decode cX5_in 9 = .ok (.lcmp, 1) := by decide +kernel
theorem dX5_in_10 : decode cX5_in 10 = .ok (.ifCond .gt 7, 3) := by decide +kernel
theorem dX5_in_13 : decode cX5_in 13 = .ok (.iconst 1, 1) := by decide +kernel
theorem dX5_in_14 : decode cX5_in 14 = .ok (.goto 4, 3) := by decide +kernel
theorem dX5_in_17 : decode cX5_in 17 = .ok (.iconst 0, 1) := by decide +kernel
theorem dX5_in_18 : decode cX5_in 18 = .ok (.ireturn, 1) := by decide +kernel
theorem dX5_ones_0 : decode cX5_ones 0 = .ok (.iconst 0, 1) := by decide +kernel
theorem dX5_ones_1 : decode cX5_ones 1 = .ok (.istore_n 1, 1) := by decide +kernel
theorem dX5_ones_2 : decode cX5_ones 2 = .ok (.iload_n 0, 1) := by decide +kernel
theorem dX5_ones_3 : decode cX5_ones 3 = .ok (.istore_n 2, 1) := by decide +kernel
theorem dX5_ones_4 : decode cX5_ones 4 = .ok (.iload_n 2, 1) := by decide +kernel
theorem dX5_ones_5 : decode cX5_ones 5 = .ok (.ifCond .eq 15, 3) := by decide +kernel
theorem dX5_ones_8 : decode cX5_ones 8 = .ok (.iinc 1 1, 3) := by decide +kernel
theorem dX5_ones_11 : decode cX5_ones 11 = .ok (.iload_n 2, 1) := by decide +kernel
theorem dX5_ones_12 : decode cX5_ones 12 = .ok (.iload_n 2, 1) := by decide +kernel
theorem dX5_ones_13 : decode cX5_ones 13 = .ok (.iconst 1, 1) := by decide +kernel
theorem dX5_ones_14 : decode cX5_ones 14 = .ok (.isub, 1) := by decide +kernel
theorem dX5_ones_15 : decode cX5_ones 15 = .ok (.iand, 1) := by decide +kernel
theorem dX5_ones_16 : decode cX5_ones 16 = .ok (.istore_n 2, 1) := by decide +kernel
theorem dX5_ones_17 : decode cX5_ones 17 = .ok (.goto (-13), 3) := by decide +kernel
theorem dX5_ones_20 : decode cX5_ones 20 = .ok (.iload_n 1, 1) := by decide +kernel
theorem dX5_ones_21 : decode cX5_ones 21 = .ok (.ireturn, 1) := by decide +kernel
set_option maxRecDepth 20000 in
theorem ggX5_isPerson_X5_in : GoodIn wsX5_isPerson wsX5_in := goodIn_r _ [5] (by decide +kernel) (by decide +kernel)
set_option maxRecDepth 20000 in
theorem gX5_isPerson_X5_in : GoodIn wsX5_isPerson (va_wsS RX5 53 yX5_in wsX5_in) := goodIn_app (goodIn_of _ (by decide +kernel)) ggX5_isPerson_X5_in
theorem dX5_isPerson_0 : decode cX5_isPerson 0 = .ok (.iload_n 0, 1) := by decide +kernel
theorem dX5_isPerson_1 : decode cX5_isPerson 1 = .ok (.i2l, 1) := by decide +kernel
theorem dX5_isPerson_2 : decode cX5_isPerson 2 = .ok (.lconst 0, 1) := by decide +kernel
theorem dX5_isPerson_3 : decode cX5_isPerson 3 = .ok (.ldc2_w 51, 3) := by decide +kernel
theorem dX5_isPerson_6 : decode cX5_isPerson 6 = .ok (.invokestatic 53, 3) := by decide +kernel
theorem dX5_isPerson_9 : decode cX5_isPerson 9 = .ok (.ireturn, 1) := by decide +kernel
set_option maxRecDepth 20000 in
theorem ggX5_isPlace_X5_in : GoodIn wsX5_isPlace wsX5_in := goodIn_r _ [5] (by decide +kernel) (by decide +kernel)
set_option maxRecDepth 20000 in
theorem gX5_isPlace_X5_in : GoodIn wsX5_isPlace (va_wsS RX5 53 yX5_in wsX5_in) := goodIn_app (goodIn_of _ (by decide +kernel)) ggX5_isPlace_X5_in
theorem dX5_isPlace_0 : decode cX5_isPlace 0 = .ok (.iload_n 0, 1) := by decide +kernel
theorem dX5_isPlace_1 : decode cX5_isPlace 1 = .ok (.i2l, 1) := by decide +kernel
theorem dX5_isPlace_2 : decode cX5_isPlace 2 = .ok (.lconst 0, 1) := by decide +kernel
theorem dX5_isPlace_3 : decode cX5_isPlace 3 = .ok (.ldc2_w 57, 3) := by decide +kernel
theorem dX5_isPlace_6 : decode cX5_isPlace 6 = .ok (.invokestatic 53, 3) := by decide +kernel
theorem dX5_isPlace_9 : decode cX5_isPlace 9 = .ok (.ireturn, 1) := by decide +kernel
set_option maxRecDepth 20000 in
theorem ggX5_isThere_X5_isPerson : GoodIn wsX5_isThere wsX5_isPerson := goodIn_r _ [5, 6, 7, 8, 4, 9] (by decide +kernel) (by decide +kernel)
set_option maxRecDepth 20000 in
theorem gX5_isThere_X5_isPerson : GoodIn wsX5_isThere (va_wsS RX5 59 yX5_isPerson wsX5_isPerson) := goodIn_app (goodIn_of _ (by decide +kernel)) ggX5_isThere_X5_isPerson
theorem dX5_isThere_0 : decode cX5_isThere 0 = .ok (.iload_n 1, 1) := by decide +kernel
theorem dX5_isThere_1 : decode cX5_isThere 1 = .ok (.invokestatic 59, 3) := by decide +kernel
theorem dX5_isThere_4 : decode cX5_isThere 4 = .ok (.ifCond .eq 19, 3) := by decide +kernel
theorem dX5_isThere_7 : decode cX5_isThere 7 = .ok (.aload_n 0, 1) := by decide +kernel
theorem dX5_isThere_8 : decode cX5_isThere 8 = .ok (.getfield 63, 3) := by decide +kernel
theorem dX5_isThere_11 : decode cX5_isThere 11 = .ok (.iload_n 1, 1) := by decide +kernel
theorem dX5_isThere_12 : decode cX5_isThere 12 = .ok (.ishr, 1) := by decide +kernel
theorem dX5_isThere_13 : decode cX5_isThere 13 = .ok (.iconst 1, 1) := by decide +kernel
theorem dX5_isThere_14 : decode cX5_isThere 14 = .ok (.iand, 1) := by decide +kernel
theorem dX5_isThere_15 : decode cX5_isThere 15 = .ok (.iconst 1, 1) := by decide +kernel
theorem dX5_isThere_16 : decode cX5_isThere 16 = .ok (.if_icmp .ne 7, 3) := by decide +kernel
theorem dX5_isThere_19 : decode cX5_isThere 19 = .ok (.iconst 1, 1) := by decide +kernel
theorem dX5_isThere_20 : decode cX5_isThere 20 = .ok (.goto 4, 3) := by decide +kernel
theorem dX5_isThere_23 : decode cX5_isThere 23 = .ok (.iconst 0, 1) := by decide +kernel
theorem dX5_isThere_24 : decode cX5_isThere 24 = .ok (.ireturn, 1) := by decide +kernel
set_option maxRecDepth 20000 in
theorem ggX5_stand_X5_isPerson : GoodIn wsX5_stand wsX5_isPerson := goodIn_r _ [10, 11, 12, 13, 9, 14] (by decide +kernel) (by decide +kernel)
set_option maxRecDepth 20000 in
theorem gX5_stand_X5_isPerson : GoodIn wsX5_stand (va_wsS RX5 59 yX5_isPerson wsX5_isPerson) := goodIn_app (goodIn_of _ (by decide +kernel)) ggX5_stand_X5_isPerson
set_option maxRecDepth 20000 in
theorem ggX5_stand_X5_isPlace : GoodIn wsX5_stand wsX5_isPlace := goodIn_r _ [17, 1, 12, 13, 9, 14] (by decide +kernel) (by decide +kernel)
set_option maxRecDepth 20000 in
theorem gX5_stand_X5_isPlace : GoodIn wsX5_stand (va_wsS RX5 66 yX5_isPlace wsX5_isPlace) := goodIn_app (goodIn_of _ (by decide +kernel)) ggX5_stand_X5_isPlace
set_option maxRecDepth 20000 in
theorem ggX5_stand_X5_in : GoodIn wsX5_stand wsX5_in := goodIn_r _ [14] (by decide +kernel) (by decide +kernel)
set_option maxRecDepth 20000 in
theorem gX5_stand_X5_in : GoodIn wsX5_stand (va_wsS RX5 53 yX5_in wsX5_in) := goodIn_app (goodIn_of _ (by decide +kernel)) ggX5_stand_X5_in
set_option maxRecDepth 20000 in
theorem ggX5_stand_X5_ones : GoodIn wsX5_stand wsX5_ones := goodIn_r _ [20] (by decide +kernel) (by decide +kernel)
set_option maxRecDepth 20000 in
theorem gX5_stand_X5_ones : GoodIn wsX5_stand (va_wsS RX5 72 yX5_ones wsX5_ones) := goodIn_app (goodIn_of _ (by decide +kernel)) ggX5_stand_X5_ones
theorem dX5_stand_0 : decode cX5_stand 0 = .ok (.iload_n 1, 1) := by decide +kernel
theorem dX5_stand_1 : decode cX5_stand 1 = .ok (.invokestatic 59, 3) := by decide +kernel
theorem dX5_stand_4 : decode cX5_stand 4 = .ok (.ifCond .eq 10, 3) := by decide +kernel
theorem dX5_stand_7 : decode cX5_stand 7 = .ok (.iload_n 2, 1) := by decide +kernel
theorem dX5_stand_8 : decode cX5_stand 8 = .ok (.invokestatic 66, 3) := by decide +kernel
theorem dX5_stand_11 : decode cX5_stand 11 = .ok (.ifCond .ne 5, 3) := by decide +kernel
theorem dX5_stand_14 : decode cX5_stand 14 = .ok (.iconst (-1), 1) := by decide +kernel
theorem dX5_stand_15 : decode cX5_stand 15 = .ok (.ireturn, 1) := by decide +kernel
theorem dX5_stand_16 : decode cX5_stand 16 = .ok (.iload_n 3, 1) := by decide +kernel
theorem dX5_stand_17 : decode cX5_stand 17 = .ok (.i2l, 1) := by decide +kernel
theorem dX5_stand_18 : decode cX5_stand 18 = .ok (.lconst 0, 1) := by decide +kernel
theorem dX5_stand_19 : decode cX5_stand 19 = .ok (.ldc2_w 57, 3) := by decide +kernel
theorem dX5_stand_22 : decode cX5_stand 22 = .ok (.invokestatic 53, 3) := by decide +kernel
theorem dX5_stand_25 : decode cX5_stand 25 = .ok (.ifCond .eq 14, 3) := by decide +kernel
theorem dX5_stand_28 : decode cX5_stand 28 = .ok (.iload 4, 2) := by decide +kernel
theorem dX5_stand_30 : decode cX5_stand 30 = .ok (.i2l, 1) := by decide +kernel
theorem dX5_stand_31 : decode cX5_stand 31 = .ok (.lconst 0, 1) := by decide +kernel
theorem dX5_stand_32 : decode cX5_stand 32 = .ok (.lconst 1, 1) := by decide +kernel
theorem dX5_stand_33 : decode cX5_stand 33 = .ok (.invokestatic 53, 3) := by decide +kernel
theorem dX5_stand_36 : decode cX5_stand 36 = .ok (.ifCond .ne 6, 3) := by decide +kernel
theorem dX5_stand_39 : decode cX5_stand 39 = .ok (.bipush (-2), 2) := by decide +kernel
theorem dX5_stand_41 : decode cX5_stand 41 = .ok (.ireturn, 1) := by decide +kernel
theorem dX5_stand_42 : decode cX5_stand 42 = .ok (.aload_n 0, 1) := by decide +kernel
theorem dX5_stand_43 : decode cX5_stand 43 = .ok (.getfield 7, 3) := by decide +kernel
theorem dX5_stand_46 : decode cX5_stand 46 = .ok (.iload_n 1, 1) := by decide +kernel
theorem dX5_stand_47 : decode cX5_stand 47 = .ok (.iload_n 2, 1) := by decide +kernel
theorem dX5_stand_48 : decode cX5_stand 48 = .ok (.iastore, 1) := by decide +kernel
theorem dX5_stand_49 : decode cX5_stand 49 = .ok (.aload_n 0, 1) := by decide +kernel
theorem dX5_stand_50 : decode cX5_stand 50 = .ok (.getfield 13, 3) := by decide +kernel
theorem dX5_stand_53 : decode cX5_stand 53 = .ok (.iload_n 1, 1) := by decide +kernel
theorem dX5_stand_54 : decode cX5_stand 54 = .ok (.iload_n 3, 1) := by decide +kernel
theorem dX5_stand_55 : decode cX5_stand 55 = .ok (.iastore, 1) := by decide +kernel
theorem dX5_stand_56 : decode cX5_stand 56 = .ok (.aload_n 0, 1) := by decide +kernel
theorem dX5_stand_57 : decode cX5_stand 57 = .ok (.getfield 16, 3) := by decide +kernel
theorem dX5_stand_60 : decode cX5_stand 60 = .ok (.iload_n 1, 1) := by decide +kernel
theorem dX5_stand_61 : decode cX5_stand 61 = .ok (.iload 4, 2) := by decide +kernel
theorem dX5_stand_63 : decode cX5_stand 63 = .ok (.iastore, 1) := by decide +kernel
theorem dX5_stand_64 : decode cX5_stand 64 = .ok (.aload_n 0, 1) := by decide +kernel
theorem dX5_stand_65 : decode cX5_stand 65 = .ok (.iload 5, 2) := by decide +kernel
theorem dX5_stand_67 : decode cX5_stand 67 = .ok (.ifCond .eq 14, 3) := by decide +kernel
theorem dX5_stand_70 : decode cX5_stand 70 = .ok (.aload_n 0, 1) := by decide +kernel
theorem dX5_stand_71 : decode cX5_stand 71 = .ok (.getfield 69, 3) := by decide +kernel
theorem dX5_stand_74 : decode cX5_stand 74 = .ok (.iconst 1, 1) := by decide +kernel
theorem dX5_stand_75 : decode cX5_stand 75 = .ok (.iload_n 1, 1) := by decide +kernel
theorem dX5_stand_76 : decode cX5_stand 76 = .ok (.ishl, 1) := by decide +kernel
theorem dX5_stand_77 : decode cX5_stand 77 = .ok (.ior, 1) := by decide +kernel
theorem dX5_stand_78 : decode cX5_stand 78 = .ok (.goto 13, 3) := by decide +kernel
theorem dX5_stand_81 : decode cX5_stand 81 = .ok (.aload_n 0, 1) := by decide +kernel
theorem dX5_stand_82 : decode cX5_stand 82 = .ok (.getfield 69, 3) := by decide +kernel
theorem dX5_stand_85 : decode cX5_stand 85 = .ok (.iconst 1, 1) := by decide +kernel
theorem dX5_stand_86 : decode cX5_stand 86 = .ok (.iload_n 1, 1) := by decide +kernel
theorem dX5_stand_87 : decode cX5_stand 87 = .ok (.ishl, 1) := by decide +kernel
theorem dX5_stand_88 : decode cX5_stand 88 = .ok (.iconst (-1), 1) := by decide +kernel
theorem dX5_stand_89 : decode cX5_stand 89 = .ok (.ixor, 1) := by decide +kernel
theorem dX5_stand_90 : decode cX5_stand 90 = .ok (.iand, 1) := by decide +kernel
theorem dX5_stand_91 : decode cX5_stand 91 = .ok (.putfield 69, 3) := by decide +kernel
theorem dX5_stand_94 : decode cX5_stand 94 = .ok (.aload_n 0, 1) := by decide +kernel
theorem dX5_stand_95 : decode cX5_stand 95 = .ok (.dup, 1) := by decide +kernel
theorem dX5_stand_96 : decode cX5_stand 96 = .ok (.getfield 63, 3) := by decide +kernel
theorem dX5_stand_99 : decode cX5_stand 99 = .ok (.iconst 1, 1) := by decide +kernel
theorem dX5_stand_100 : decode cX5_stand 100 = .ok (.iload_n 1, 1) := by decide +kernel
theorem dX5_stand_101 : decode cX5_stand 101 = .ok (.ishl, 1) := by decide +kernel
theorem dX5_stand_102 : decode cX5_stand 102 = .ok (.ior, 1) := by decide +kernel
theorem dX5_stand_103 : decode cX5_stand 103 = .ok (.putfield 63, 3) := by decide +kernel
theorem dX5_stand_106 : decode cX5_stand 106 = .ok (.aload_n 0, 1) := by decide +kernel
theorem dX5_stand_107 : decode cX5_stand 107 = .ok (.getfield 63, 3) := by decide +kernel
theorem dX5_stand_110 : decode cX5_stand 110 = .ok (.invokestatic 72, 3) := by decide +kernel
theorem dX5_stand_113 : decode cX5_stand 113 = .ok (.ireturn, 1) := by decide +kernel
set_option maxRecDepth 20000 in
theorem ggX5_leave_X5_isThere : GoodIn wsX5_leave wsX5_isThere := goodIn_r _ [6, 1, 7, 8, 5, 9, 10, 11, 12, 13, 17, 18, 19, 20, 21, 22, 23, 24, 25, 26, 27, 28, 29, 30, 31, 32, 33, 34, 35, 36, 37, 38, 39, 40] (by decide +kernel) (by decide +kernel)
set_option maxRecDepth 20000 in
theorem gX5_leave_X5_isThere : GoodIn wsX5_leave (wsV RX5 76 RX5 yX5_isThere wsX5_isThere) := goodIn_app (goodIn_of _ (by decide +kernel)) ggX5_leave_X5_isThere
set_option maxRecDepth 20000 in
theorem ggX5_leave_X5_ones : GoodIn wsX5_leave wsX5_ones := goodIn_r _ [16] (by decide +kernel) (by decide +kernel)
set_option maxRecDepth 20000 in
theorem gX5_leave_X5_ones : GoodIn wsX5_leave (va_wsS RX5 72 yX5_ones wsX5_ones) := goodIn_app (goodIn_of _ (by decide +kernel)) ggX5_leave_X5_ones
theorem dX5_leave_0 : decode cX5_leave 0 = .ok (.aload_n 0, 1) := by decide +kernel
theorem dX5_leave_1 : decode cX5_leave 1 = .ok (.iload_n 1, 1) := by decide +kernel
theorem dX5_leave_2 : decode cX5_leave 2 = .ok (.invokevirtual 76, 3) := by decide +kernel
theorem dX5_leave_5 : decode cX5_leave 5 = .ok (.ifCond .ne 5, 3) := by decide +kernel
theorem dX5_leave_8 : decode cX5_leave 8 = .ok (.iconst (-1), 1) := by decide +kernel
theorem dX5_leave_9 : decode cX5_leave 9 = .ok (.ireturn, 1) := by decide +kernel
theorem dX5_leave_10 : decode cX5_leave 10 = .ok (.aload_n 0, 1) := by decide +kernel
theorem dX5_leave_11 : decode cX5_leave 11 = .ok (.dup, 1) := by decide +kernel
theorem dX5_leave_12 : decode cX5_leave 12 = .ok (.getfield 63, 3) := by decide +kernel
theorem dX5_leave_15 : decode cX5_leave 15 = .ok (.iconst 1, 1) := by decide +kernel
theorem dX5_leave_16 : decode cX5_leave 16 = .ok (.iload_n 1, 1) := by decide +kernel
theorem dX5_leave_17 : decode cX5_leave 17 = .ok (.ishl, 1) := by decide +kernel
theorem dX5_leave_18 : decode cX5_leave 18 = .ok (.iconst (-1), 1) := by decide +kernel
theorem dX5_leave_19 : decode cX5_leave 19 = .ok (.ixor, 1) := by decide +kernel
theorem dX5_leave_20 : decode cX5_leave 20 = .ok (.iand, 1) := by decide +kernel
theorem dX5_leave_21 : decode cX5_leave 21 = .ok (.putfield 63, 3) := by decide +kernel
theorem dX5_leave_24 : decode cX5_leave 24 = .ok (.aload_n 0, 1) := by decide +kernel
theorem dX5_leave_25 : decode cX5_leave 25 = .ok (.getfield 63, 3) := by decide +kernel
theorem dX5_leave_28 : decode cX5_leave 28 = .ok (.invokestatic 72, 3) := by decide +kernel
theorem dX5_leave_31 : decode cX5_leave 31 = .ok (.ireturn, 1) := by decide +kernel
set_option maxRecDepth 20000 in
theorem ggX5_table_X5_isPlace : GoodIn wsX5_table wsX5_isPlace := goodIn_r _ [5, 6, 7, 8, 4, 9] (by decide +kernel) (by decide +kernel)
set_option maxRecDepth 20000 in
theorem gX5_table_X5_isPlace : GoodIn wsX5_table (va_wsS RX5 66 yX5_isPlace wsX5_isPlace) := goodIn_app (goodIn_of _ (by decide +kernel)) ggX5_table_X5_isPlace
theorem dX5_table_0 : decode cX5_table 0 = .ok (.iload_n 1, 1) := by decide +kernel
theorem dX5_table_1 : decode cX5_table 1 = .ok (.invokestatic 66, 3) := by decide +kernel
theorem dX5_table_4 : decode cX5_table 4 = .ok (.ifCond .ne 5, 3) := by decide +kernel
theorem dX5_table_7 : decode cX5_table 7 = .ok (.iconst (-1), 1) := by decide +kernel
theorem dX5_table_8 : decode cX5_table 8 = .ok (.ireturn, 1) := by decide +kernel
theorem dX5_table_9 : decode cX5_table 9 = .ok (.aload_n 0, 1) := by decide +kernel
theorem dX5_table_10 : decode cX5_table 10 = .ok (.iload_n 2, 1) := by decide +kernel
theorem dX5_table_11 : decode cX5_table 11 = .ok (.ifCond .eq 14, 3) := by decide +kernel
theorem dX5_table_14 : decode cX5_table 14 = .ok (.aload_n 0, 1) := by decide +kernel
theorem dX5_table_15 : decode cX5_table 15 = .ok (.getfield 79, 3) := by decide +kernel
theorem dX5_table_18 : decode cX5_table 18 = .ok (.iconst 1, 1) := by decide +kernel
theorem dX5_table_19 : decode cX5_table 19 = .ok (.iload_n 1, 1) := by decide +kernel
theorem dX5_table_20 : decode cX5_table 20 = .ok (.ishl, 1) := by decide +kernel
theorem dX5_table_21 : decode cX5_table 21 = .ok (.ior, 1) := by decide +kernel
theorem dX5_table_22 : decode cX5_table 22 = .ok (.goto 13, 3) := by decide +kernel
theorem dX5_table_25 : decode cX5_table 25 = .ok (.aload_n 0, 1) := by decide +kernel
theorem dX5_table_26 : decode cX5_table 26 = .ok (.getfield 79, 3) := by decide +kernel
theorem dX5_table_29 : decode cX5_table 29 = .ok (.iconst 1, 1) := by decide +kernel
theorem dX5_table_30 : decode cX5_table 30 = .ok (.iload_n 1, 1) := by decide +kernel
theorem dX5_table_31 : decode cX5_table 31 = .ok (.ishl, 1) := by decide +kernel
theorem dX5_table_32 : decode cX5_table 32 = .ok (.iconst (-1), 1) := by decide +kernel
theorem dX5_table_33 : decode cX5_table 33 = .ok (.ixor, 1) := by decide +kernel
theorem dX5_table_34 : decode cX5_table 34 = .ok (.iand, 1) := by decide +kernel
theorem dX5_table_35 : decode cX5_table 35 = .ok (.putfield 79, 3) := by decide +kernel
theorem dX5_table_38 : decode cX5_table 38 = .ok (.iconst 1, 1) := by decide +kernel
theorem dX5_table_39 : decode cX5_table 39 = .ok (.ireturn, 1) := by decide +kernel
set_option maxRecDepth 20000 in
theorem ggX5_set_X5_in : GoodIn wsX5_set wsX5_in := goodIn_r _ [7] (by decide +kernel) (by decide +kernel)
set_option maxRecDepth 20000 in
theorem gX5_set_X5_in : GoodIn wsX5_set (va_wsS RX5 53 yX5_in wsX5_in) := goodIn_app (goodIn_of _ (by decide +kernel)) ggX5_set_X5_in
theorem dX5_set_0 : decode cX5_set 0 = .ok (.iload_n 1, 1) := by decide +kernel
theorem dX5_set_1 : decode cX5_set 1 = .ok (.i2l, 1) := by decide +kernel
theorem dX5_set_2 : decode cX5_set 2 = .ok (.lconst 0, 1) := by decide +kernel
theorem dX5_set_3 : decode cX5_set 3 = .ok (.lconst 1, 1) := by decide +kernel
theorem dX5_set_4 : decode cX5_set 4 = .ok (.invokestatic 53, 3) := by decide +kernel
theorem dX5_set_7 : decode cX5_set 7 = .ok (.ifCond .eq 23, 3) := by decide +kernel
theorem dX5_set_10 : decode cX5_set 10 = .ok (.iload_n 2, 1) := by decide +kernel
theorem dX5_set_11 : decode cX5_set 11 = .ok (.i2l, 1) := by decide +kernel
theorem dX5_set_12 : decode cX5_set 12 = .ok (.iload_n 1, 1) := by decide +kernel
theorem dX5_set_13 : decode cX5_set 13 = .ok (.ifCond .ne 7, 3) := by decide +kernel
theorem dX5_set_16 : decode cX5_set 16 = .ok (.lconst 1, 1) := by decide +kernel
theorem dX5_set_17 : decode cX5_set 17 = .ok (.goto 4, 3) := by decide +kernel
theorem dX5_set_20 : decode cX5_set 20 = .ok (.lconst 0, 1) := by decide +kernel
theorem dX5_set_21 : decode cX5_set 21 = .ok (.ldc2_w 57, 3) := by decide +kernel
theorem dX5_set_24 : decode cX5_set 24 = .ok (.invokestatic 53, 3) := by decide +kernel
theorem dX5_set_27 : decode cX5_set 27 = .ok (.ifCond .ne 6, 3) := by decide +kernel
theorem dX5_set_30 : decode cX5_set 30 = .ok (.bipush (-2), 2) := by decide +kernel
theorem dX5_set_32 : decode cX5_set 32 = .ok (.ireturn, 1) := by decide +kernel
theorem dX5_set_33 : decode cX5_set 33 = .ok (.iload_n 1, 1) := by decide +kernel
theorem dX5_set_34 : decode cX5_set 34 = .ok (.ifCond .ne 10, 3) := by decide +kernel
theorem dX5_set_37 : decode cX5_set 37 = .ok (.aload_n 0, 1) := by decide +kernel
theorem dX5_set_38 : decode cX5_set 38 = .ok (.getfield 44, 3) := by decide +kernel
theorem dX5_set_41 : decode cX5_set 41 = .ok (.goto 7, 3) := by decide +kernel
theorem dX5_set_44 : decode cX5_set 44 = .ok (.aload_n 0, 1) := by decide +kernel
theorem dX5_set_45 : decode cX5_set 45 = .ok (.getfield 48, 3) := by decide +kernel
theorem dX5_set_48 : decode cX5_set 48 = .ok (.istore_n 3, 1) := by decide +kernel
theorem dX5_set_49 : decode cX5_set 49 = .ok (.aload_n 0, 1) := by decide +kernel
theorem dX5_set_50 : decode cX5_set 50 = .ok (.iload_n 1, 1) := by decide +kernel
theorem dX5_set_51 : decode cX5_set 51 = .ok (.ifCond .ne 7, 3) := by decide +kernel
theorem dX5_set_54 : decode cX5_set 54 = .ok (.iload_n 2, 1) := by decide +kernel
theorem dX5_set_55 : decode cX5_set 55 = .ok (.goto 7, 3) := by decide +kernel
theorem dX5_set_58 : decode cX5_set 58 = .ok (.aload_n 0, 1) := by decide +kernel
theorem dX5_set_59 : decode cX5_set 59 = .ok (.getfield 44, 3) := by decide +kernel
theorem dX5_set_62 : decode cX5_set 62 = .ok (.putfield 44, 3) := by decide +kernel
theorem dX5_set_65 : decode cX5_set 65 = .ok (.aload_n 0, 1) := by decide +kernel
theorem dX5_set_66 : decode cX5_set 66 = .ok (.iload_n 1, 1) := by decide +kernel
theorem dX5_set_67 : decode cX5_set 67 = .ok (.iconst 1, 1) := by decide +kernel
theorem dX5_set_68 : decode cX5_set 68 = .ok (.if_icmp .ne 7, 3) := by decide +kernel
theorem dX5_set_71 : decode cX5_set 71 = .ok (.iload_n 2, 1) := by decide +kernel
theorem dX5_set_72 : decode cX5_set 72 = .ok (.goto 7, 3) := by decide +kernel
theorem dX5_set_75 : decode cX5_set 75 = .ok (.aload_n 0, 1) := by decide +kernel
theorem dX5_set_76 : decode cX5_set 76 = .ok (.getfield 48, 3) := by decide +kernel
theorem dX5_set_79 : decode cX5_set 79 = .ok (.putfield 48, 3) := by decide +kernel
theorem dX5_set_82 : decode cX5_set 82 = .ok (.iload_n 3, 1) := by decide +kernel
theorem dX5_set_83 : decode cX5_set 83 = .ok (.ireturn, 1) := by decide +kernel
set_option maxRecDepth 20000 in
theorem ggX5_say_X5_in : GoodIn wsX5_say wsX5_in := goodIn_r _ [8] (by decide +kernel) (by decide +kernel)
set_option maxRecDepth 20000 in
theorem gX5_say_X5_in : GoodIn wsX5_say (va_wsS RX5 53 yX5_in wsX5_in) := goodIn_app (goodIn_of _ (by decide +kernel)) ggX5_say_X5_in
theorem dX5_say_0 : decode cX5_say 0 = .ok (.iload_n 1, 1) := by decide +kernel
theorem dX5_say_1 : decode cX5_say 1 = .ok (.i2l, 1) := by decide +kernel
theorem dX5_say_2 : decode cX5_say 2 = .ok (.ldc2_w 82, 3) := by decide +kernel
theorem dX5_say_5 : decode cX5_say 5 = .ok (.ldc2_w 84, 3) := by decide +kernel
theorem dX5_say_8 : decode cX5_say 8 = .ok (.invokestatic 53, 3) := by decide +kernel
theorem dX5_say_11 : decode cX5_say 11 = .ok (.ifCond .ne 6, 3) := by decide +kernel
theorem dX5_say_14 : decode cX5_say 14 = .ok (.bipush (-2), 2) := by decide +kernel
theorem dX5_say_16 : decode cX5_say 16 = .ok (.ireturn, 1) := by decide +kernel
theorem dX5_say_17 : decode cX5_say 17 = .ok (.aload_n 0, 1) := by decide +kernel
theorem dX5_say_18 : decode cX5_say 18 = .ok (.getfield 86, 3) := by decide +kernel
theorem dX5_say_21 : decode cX5_say 21 = .ok (.bipush 40, 2) := by decide +kernel
theorem dX5_say_23 : decode cX5_say 23 = .ok (.if_icmp .ne 6, 3) := by decide +kernel
theorem dX5_say_26 : decode cX5_say 26 = .ok (.bipush (-4), 2) := by decide +kernel
theorem dX5_say_28 : decode cX5_say 28 = .ok (.ireturn, 1) := by decide +kernel
theorem dX5_say_29 : decode cX5_say 29 = .ok (.aload_n 0, 1) := by decide +kernel
theorem dX5_say_30 : decode cX5_say 30 = .ok (.getfield 28, 3) := by decide +kernel
theorem dX5_say_33 : decode cX5_say 33 = .ok (.aload_n 0, 1) := by decide +kernel
theorem dX5_say_34 : decode cX5_say 34 = .ok (.getfield 86, 3) := by decide +kernel
theorem dX5_say_37 : decode cX5_say 37 = .ok (.iload_n 1, 1) := by decide +kernel
theorem dX5_say_38 : decode cX5_say 38 = .ok (.iastore, 1) := by decide +kernel
theorem dX5_say_39 : decode cX5_say 39 = .ok (.aload_n 0, 1) := by decide +kernel
theorem dX5_say_40 : decode cX5_say 40 = .ok (.dup, 1) := by decide +kernel
theorem dX5_say_41 : decode cX5_say 41 = .ok (.getfield 86, 3) := by decide +kernel
theorem dX5_say_44 : decode cX5_say 44 = .ok (.iconst 1, 1) := by decide +kernel
theorem dX5_say_45 : decode cX5_say 45 = .ok (.iadd, 1) := by decide +kernel
theorem dX5_say_46 : decode cX5_say 46 = .ok (.putfield 86, 3) := by decide +kernel
theorem dX5_say_49 : decode cX5_say 49 = .ok (.aload_n 0, 1) := by decide +kernel
theorem dX5_say_50 : decode cX5_say 50 = .ok (.getfield 86, 3) := by decide +kernel
theorem dX5_say_53 : decode cX5_say 53 = .ok (.ireturn, 1) := by decide +kernel
theorem dX5_wipe_0 : decode cX5_wipe 0 = .ok (.aload_n 0, 1) := by decide +kernel
theorem dX5_wipe_1 : decode cX5_wipe 1 = .ok (.getfield 86, 3) := by decide +kernel
theorem dX5_wipe_4 : decode cX5_wipe 4 = .ok (.istore_n 1, 1) := by decide +kernel
theorem dX5_wipe_5 : decode cX5_wipe 5 = .ok (.aload_n 0, 1) := by decide +kernel
theorem dX5_wipe_6 : decode cX5_wipe 6 = .ok (.iconst 0, 1) := by decide +kernel
theorem dX5_wipe_7 : decode cX5_wipe 7 = .ok (.putfield 86, 3) := by decide +kernel
theorem dX5_wipe_10 : decode cX5_wipe 10 = .ok (.iload_n 1, 1) := by decide +kernel
theorem dX5_wipe_11 : decode cX5_wipe 11 = .ok (.ireturn, 1) := by decide +kernel
set_option maxRecDepth 20000 in
theorem ggX5_canStand_X5_in : GoodIn wsX5_canStand wsX5_in := goodIn_r _ [8] (by decide +kernel) (by decide +kernel)
set_option maxRecDepth 20000 in
theorem gX5_canStand_X5_in : GoodIn wsX5_canStand (va_wsS RX5 53 yX5_in wsX5_in) := goodIn_app (goodIn_of _ (by decide +kernel)) ggX5_canStand_X5_in
theorem dX5_canStand_0 : decode cX5_canStand 0 = .ok (.iload_n 0, 1) := by decide +kernel
theorem dX5_canStand_1 : decode cX5_canStand 1 = .ok (.i2l, 1) := by decide +kernel
theorem dX5_canStand_2 : decode cX5_canStand 2 = .ok (.ldc2_w 89, 3) := by decide +kernel
theorem dX5_canStand_5 : decode cX5_canStand 5 = .ok (.ldc2_w 91, 3) := by decide +kernel
theorem dX5_canStand_8 : decode cX5_canStand 8 = .ok (.invokestatic 53, 3) := by decide +kernel
theorem dX5_canStand_11 : decode cX5_canStand 11 = .ok (.istore_n 2, 1) := by decide +kernel
theorem dX5_canStand_12 : decode cX5_canStand 12 = .ok (.iload_n 1, 1) := by decide +kernel
theorem dX5_canStand_13 : decode cX5_canStand 13 = .ok (.ifCond .ne 37, 3) := by decide +kernel
theorem dX5_canStand_16 : decode cX5_canStand 16 = .ok (.iload_n 2, 1) := by decide +kernel
theorem dX5_canStand_17 : decode cX5_canStand 17 = .ok (.ifCond .ne 27, 3) := by decide +kernel
theorem dX5_canStand_20 : decode cX5_canStand 20 = .ok (.iload_n 0, 1) := by decide +kernel
theorem dX5_canStand_21 : decode cX5_canStand 21 = .ok (.bipush 33, 2) := by decide +kernel
theorem dX5_canStand_23 : decode cX5_canStand 23 = .ok (.if_icmp .eq 21, 3) := by decide +kernel
theorem dX5_canStand_26 : decode cX5_canStand 26 = .ok (.iload_n 0, 1) := by decide +kernel
theorem dX5_canStand_27 : decode cX5_canStand 27 = .ok (.bipush 45, 2) := by decide +kernel
theorem dX5_canStand_29 : decode cX5_canStand 29 = .ok (.if_icmp .eq 15, 3) := by decide +kernel
theorem dX5_canStand_32 : decode cX5_canStand 32 = .ok (.iload_n 0, 1) := by decide +kernel
theorem dX5_canStand_33 : decode cX5_canStand 33 = .ok (.bipush 46, 2) := by decide +kernel
theorem dX5_canStand_35 : decode cX5_canStand 35 = .ok (.if_icmp .eq 9, 3) := by decide +kernel
theorem dX5_canStand_38 : decode cX5_canStand 38 = .ok (.iload_n 0, 1) := by decide +kernel
theorem dX5_canStand_39 : decode cX5_canStand 39 = .ok (.bipush 126, 2) := by decide +kernel
theorem dX5_canStand_41 : decode cX5_canStand 41 = .ok (.if_icmp .ne 7, 3) := by decide +kernel
theorem dX5_canStand_44 : decode cX5_canStand 44 = .ok (.iconst 1, 1) := by decide +kernel
theorem dX5_canStand_45 : decode cX5_canStand 45 = .ok (.goto 4, 3) := by decide +kernel
theorem dX5_canStand_48 : decode cX5_canStand 48 = .ok (.iconst 0, 1) := by decide +kernel
theorem dX5_canStand_49 : decode cX5_canStand 49 = .ok (.ireturn, 1) := by decide +kernel
theorem dX5_canStand_50 : decode cX5_canStand 50 = .ok (.iload_n 1, 1) := by decide +kernel
theorem dX5_canStand_51 : decode cX5_canStand 51 = .ok (.bipush 126, 2) := by decide +kernel
theorem dX5_canStand_53 : decode cX5_canStand 53 = .ok (.if_icmp .ne 17, 3) := by decide +kernel
theorem dX5_canStand_56 : decode cX5_canStand 56 = .ok (.iload_n 0, 1) := by decide +kernel
theorem dX5_canStand_57 : decode cX5_canStand 57 = .ok (.i2l, 1) := by decide +kernel
theorem dX5_canStand_58 : decode cX5_canStand 58 = .ok (.ldc2_w 93, 3) := by decide +kernel
theorem dX5_canStand_61 : decode cX5_canStand 61 = .ok (.ldc2_w 95, 3) := by decide +kernel
theorem dX5_canStand_64 : decode cX5_canStand 64 = .ok (.invokestatic 53, 3) := by decide +kernel
theorem dX5_canStand_67 : decode cX5_canStand 67 = .ok (.goto 24, 3) := by decide +kernel
theorem dX5_canStand_70 : decode cX5_canStand 70 = .ok (.iload_n 2, 1) := by decide +kernel
theorem dX5_canStand_71 : decode cX5_canStand 71 = .ok (.ifCond .eq 19, 3) := by decide +kernel
theorem dX5_canStand_74 : decode cX5_canStand 74 = .ok (.iload_n 1, 1) := by decide +kernel
theorem dX5_canStand_75 : decode cX5_canStand 75 = .ok (.bipush 33, 2) := by decide +kernel
theorem dX5_canStand_77 : decode cX5_canStand 77 = .ok (.if_icmp .eq 9, 3) := by decide +kernel
theorem dX5_canStand_80 : decode cX5_canStand 80 = .ok (.iload_n 0, 1) := by decide +kernel
theorem dX5_canStand_81 : decode cX5_canStand 81 = .ok (.bipush 48, 2) := by decide +kernel
theorem dX5_canStand_83 : decode cX5_canStand 83 = .ok (.if_icmp .eq 7, 3) := by decide +kernel
theorem dX5_canStand_86 : decode cX5_canStand 86 = .ok (.iconst 1, 1) := by decide +kernel
theorem dX5_canStand_87 : decode cX5_canStand 87 = .ok (.goto 4, 3) := by decide +kernel
theorem dX5_canStand_90 : decode cX5_canStand 90 = .ok (.iconst 0, 1) := by decide +kernel
theorem dX5_canStand_91 : decode cX5_canStand 91 = .ok (.ireturn, 1) := by decide +kernel
theorem dX5_isOpening_0 : decode cX5_isOpening 0 = .ok (.iload_n 1, 1) := by decide +kernel
theorem dX5_isOpening_1 : decode cX5_isOpening 1 = .ok (.ifCond .ne 25, 3) := by decide +kernel
theorem dX5_isOpening_4 : decode cX5_isOpening 4 = .ok (.iload_n 0, 1) := by decide +kernel
theorem dX5_isOpening_5 : decode cX5_isOpening 5 = .ok (.bipush 33, 2) := by decide +kernel
theorem dX5_isOpening_7 : decode cX5_isOpening 7 = .ok (.if_icmp .eq 15, 3) := by decide +kernel
theorem dX5_isOpening_10 : decode cX5_isOpening 10 = .ok (.iload_n 0, 1) := by decide +kernel
theorem dX5_isOpening_11 : decode cX5_isOpening 11 = .ok (.bipush 45, 2) := by decide +kernel
theorem dX5_isOpening_13 : decode cX5_isOpening 13 = .ok (.if_icmp .eq 9, 3) := by decide +kernel
theorem dX5_isOpening_16 : decode cX5_isOpening 16 = .ok (.iload_n 0, 1) := by decide +kernel
theorem dX5_isOpening_17 : decode cX5_isOpening 17 = .ok (.bipush 126, 2) := by decide +kernel
theorem dX5_isOpening_19 : decode cX5_isOpening 19 = .ok (.if_icmp .ne 7, 3) := by decide +kernel
theorem dX5_isOpening_22 : decode cX5_isOpening 22 = .ok (.iconst 1, 1) := by decide +kernel
theorem dX5_isOpening_23 : decode cX5_isOpening 23 = .ok (.goto 4, 3) := by decide +kernel
theorem dX5_isOpening_26 : decode cX5_isOpening 26 = .ok (.iconst 0, 1) := by decide +kernel
theorem dX5_isOpening_27 : decode cX5_isOpening 27 = .ok (.ireturn, 1) := by decide +kernel
set_option maxRecDepth 20000 in
theorem ggX5_fault_X5_canStand : GoodIn wsX5_fault wsX5_canStand := goodIn_r _ [6, 7, 8, 9, 10, 11, 12, 5, 13] (by decide +kernel) (by decide +kernel)
set_option maxRecDepth 20000 in
theorem gX5_fault_X5_canStand : GoodIn wsX5_fault (va_wsS RX5 97 yX5_canStand wsX5_canStand) := goodIn_app (goodIn_of _ (by decide +kernel)) ggX5_fault_X5_canStand
set_option maxRecDepth 20000 in
theorem ggX5_fault_X5_isOpening : GoodIn wsX5_fault wsX5_isOpening := goodIn_r _ [16] (by decide +kernel) (by decide +kernel)
set_option maxRecDepth 20000 in
theorem gX5_fault_X5_isOpening : GoodIn wsX5_fault (va_wsS RX5 101 yX5_isOpening wsX5_isOpening) := goodIn_app (goodIn_of _ (by decide +kernel)) ggX5_fault_X5_isOpening
theorem dX5_fault_0 : decode cX5_fault 0 = .ok (.iconst 0, 1) := by decide +kernel
theorem dX5_fault_1 : decode cX5_fault 1 = .ok (.istore_n 1, 1) := by decide +kernel
theorem dX5_fault_2 : decode cX5_fault 2 = .ok (.iconst 0, 1) := by decide +kernel
theorem dX5_fault_3 : decode cX5_fault 3 = .ok (.istore_n 2, 1) := by decide +kernel
theorem dX5_fault_4 : decode cX5_fault 4 = .ok (.iload_n 2, 1) := by decide +kernel
theorem dX5_fault_5 : decode cX5_fault 5 = .ok (.aload_n 0, 1) := by decide +kernel
theorem dX5_fault_6 : decode cX5_fault 6 = .ok (.getfield 86, 3) := by decide +kernel
theorem dX5_fault_9 : decode cX5_fault 9 = .ok (.if_icmp .ge 48, 3) := by decide +kernel
theorem dX5_fault_12 : decode cX5_fault 12 = .ok (.aload_n 0, 1) := by decide +kernel
theorem dX5_fault_13 : decode cX5_fault 13 = .ok (.getfield 28, 3) := by decide +kernel
theorem dX5_fault_16 : decode cX5_fault 16 = .ok (.iload_n 2, 1) := by decide +kernel
theorem dX5_fault_17 : decode cX5_fault 17 = .ok (.iaload, 1) := by decide +kernel
theorem dX5_fault_18 : decode cX5_fault 18 = .ok (.iload_n 1, 1) := by decide +kernel
theorem dX5_fault_19 : decode cX5_fault 19 = .ok (.invokestatic 97, 3) := by decide +kernel
theorem dX5_fault_22 : decode cX5_fault 22 = .ok (.ifCond .ne 5, 3) := by decide +kernel
theorem dX5_fault_25 : decode cX5_fault 25 = .ok (.iload_n 2, 1) := by decide +kernel
theorem dX5_fault_26 : decode cX5_fault 26 = .ok (.ireturn, 1) := by decide +kernel
theorem dX5_fault_27 : decode cX5_fault 27 = .ok (.aload_n 0, 1) := by decide +kernel
theorem dX5_fault_28 : decode cX5_fault 28 = .ok (.getfield 28, 3) := by decide +kernel
theorem dX5_fault_31 : decode cX5_fault 31 = .ok (.iload_n 2, 1) := by decide +kernel
theorem dX5_fault_32 : decode cX5_fault 32 = .ok (.iaload, 1) := by decide +kernel
theorem dX5_fault_33 : decode cX5_fault 33 = .ok (.iload_n 1, 1) := by decide +kernel
theorem dX5_fault_34 : decode cX5_fault 34 = .ok (.invokestatic 101, 3) := by decide +kernel
theorem dX5_fault_37 : decode cX5_fault 37 = .ok (.ifCond .eq 12, 3) := by decide +kernel
theorem dX5_fault_40 : decode cX5_fault 40 = .ok (.aload_n 0, 1) := by decide +kernel
theorem dX5_fault_41 : decode cX5_fault 41 = .ok (.getfield 28, 3) := by decide +kernel
theorem dX5_fault_44 : decode cX5_fault 44 = .ok (.iload_n 2, 1) := by decide +kernel
theorem dX5_fault_45 : decode cX5_fault 45 = .ok (.iaload, 1) := by decide +kernel
theorem dX5_fault_46 : decode cX5_fault 46 = .ok (.goto 4, 3) := by decide +kernel
theorem dX5_fault_49 : decode cX5_fault 49 = .ok (.iconst 0, 1) := by decide +kernel
theorem dX5_fault_50 : decode cX5_fault 50 = .ok (.istore_n 1, 1) := by decide +kernel
theorem dX5_fault_51 : decode cX5_fault 51 = .ok (.iinc 2 1, 3) := by decide +kernel
theorem dX5_fault_54 : decode cX5_fault 54 = .ok (.goto (-50), 3) := by decide +kernel
theorem dX5_fault_57 : decode cX5_fault 57 = .ok (.iload_n 1, 1) := by decide +kernel
theorem dX5_fault_58 : decode cX5_fault 58 = .ok (.ifCond .ne 8, 3) := by decide +kernel
theorem dX5_fault_61 : decode cX5_fault 61 = .ok (.bipush (-6), 2) := by decide +kernel
theorem dX5_fault_63 : decode cX5_fault 63 = .ok (.goto 7, 3) := by decide +kernel
theorem dX5_fault_66 : decode cX5_fault 66 = .ok (.aload_n 0, 1) := by decide +kernel
theorem dX5_fault_67 : decode cX5_fault 67 = .ok (.getfield 86, 3) := by decide +kernel
theorem dX5_fault_70 : decode cX5_fault 70 = .ok (.ireturn, 1) := by decide +kernel
set_option maxRecDepth 20000 in
theorem ggX5_opensAt_X5_isThere : GoodIn wsX5_opensAt wsX5_isThere := goodIn_r _ [11, 12, 13, 14, 10, 15, 16, 17, 18, 19, 20, 21, 22, 23, 24, 25, 26, 27, 28, 29, 30, 31, 32, 33, 34, 35, 36, 37, 38, 39, 40, 41, 42, 43] (by decide +kernel) (by decide +kernel)
set_option maxRecDepth 20000 in
theorem gX5_opensAt_X5_isThere : GoodIn wsX5_opensAt (wsV RX5 76 RX5 yX5_isThere wsX5_isThere) := goodIn_app (goodIn_of _ (by decide +kernel)) ggX5_opensAt_X5_isThere
theorem dX5_opensAt_0 : decode cX5_opensAt 0 = .ok (.aload_n 0, 1) := by decide +kernel
theorem dX5_opensAt_1 : decode cX5_opensAt 1 = .ok (.iload_n 1, 1) := by decide +kernel
theorem dX5_opensAt_2 : decode cX5_opensAt 2 = .ok (.invokevirtual 76, 3) := by decide +kernel
theorem dX5_opensAt_5 : decode cX5_opensAt 5 = .ok (.ifCond .eq 15, 3) := by decide +kernel
theorem dX5_opensAt_8 : decode cX5_opensAt 8 = .ok (.aload_n 0, 1) := by decide +kernel
theorem dX5_opensAt_9 : decode cX5_opensAt 9 = .ok (.getfield 69, 3) := by decide +kernel
theorem dX5_opensAt_12 : decode cX5_opensAt 12 = .ok (.iload_n 1, 1) := by decide +kernel
theorem dX5_opensAt_13 : decode cX5_opensAt 13 = .ok (.ishr, 1) := by decide +kernel
theorem dX5_opensAt_14 : decode cX5_opensAt 14 = .ok (.iconst 1, 1) := by decide +kernel
theorem dX5_opensAt_15 : decode cX5_opensAt 15 = .ok (.iand, 1) := by decide +kernel
theorem dX5_opensAt_16 : decode cX5_opensAt 16 = .ok (.iconst 1, 1) := by decide +kernel
theorem dX5_opensAt_17 : decode cX5_opensAt 17 = .ok (.if_icmp .ne 7, 3) := by decide +kernel
theorem dX5_opensAt_20 : decode cX5_opensAt 20 = .ok (.sipush 1000, 3) := by decide +kernel
theorem dX5_opensAt_23 : decode cX5_opensAt 23 = .ok (.ireturn, 1) := by decide +kernel
theorem dX5_opensAt_24 : decode cX5_opensAt 24 = .ok (.aload_n 0, 1) := by decide +kernel
theorem dX5_opensAt_25 : decode cX5_opensAt 25 = .ok (.getfield 7, 3) := by decide +kernel
theorem dX5_opensAt_28 : decode cX5_opensAt 28 = .ok (.iload_n 1, 1) := by decide +kernel
theorem dX5_opensAt_29 : decode cX5_opensAt 29 = .ok (.iaload, 1) := by decide +kernel
theorem dX5_opensAt_30 : decode cX5_opensAt 30 = .ok (.iload_n 2, 1) := by decide +kernel
theorem dX5_opensAt_31 : decode cX5_opensAt 31 = .ok (.if_icmp .le 14, 3) := by decide +kernel
theorem dX5_opensAt_34 : decode cX5_opensAt 34 = .ok (.aload_n 0, 1) := by decide +kernel
theorem dX5_opensAt_35 : decode cX5_opensAt 35 = .ok (.getfield 7, 3) := by decide +kernel
theorem dX5_opensAt_38 : decode cX5_opensAt 38 = .ok (.iload_n 1, 1) := by decide +kernel
theorem dX5_opensAt_39 : decode cX5_opensAt 39 = .ok (.iaload, 1) := by decide +kernel
theorem dX5_opensAt_40 : decode cX5_opensAt 40 = .ok (.iload_n 2, 1) := by decide +kernel
theorem dX5_opensAt_41 : decode cX5_opensAt 41 = .ok (.isub, 1) := by decide +kernel
theorem dX5_opensAt_42 : decode cX5_opensAt 42 = .ok (.goto 11, 3) := by decide +kernel
theorem dX5_opensAt_45 : decode cX5_opensAt 45 = .ok (.iload_n 2, 1) := by decide +kernel
theorem dX5_opensAt_46 : decode cX5_opensAt 46 = .ok (.aload_n 0, 1) := by decide +kernel
theorem dX5_opensAt_47 : decode cX5_opensAt 47 = .ok (.getfield 7, 3) := by decide +kernel
theorem dX5_opensAt_50 : decode cX5_opensAt 50 = .ok (.iload_n 1, 1) := by decide +kernel
theorem dX5_opensAt_51 : decode cX5_opensAt 51 = .ok (.iaload, 1) := by decide +kernel
theorem dX5_opensAt_52 : decode cX5_opensAt 52 = .ok (.isub, 1) := by decide +kernel
theorem dX5_opensAt_53 : decode cX5_opensAt 53 = .ok (.istore_n 3, 1) := by decide +kernel
theorem dX5_opensAt_54 : decode cX5_opensAt 54 = .ok (.aload_n 0, 1) := by decide +kernel
theorem dX5_opensAt_55 : decode cX5_opensAt 55 = .ok (.getfield 79, 3) := by decide +kernel
theorem dX5_opensAt_58 : decode cX5_opensAt 58 = .ok (.aload_n 0, 1) := by decide +kernel
theorem dX5_opensAt_59 : decode cX5_opensAt 59 = .ok (.getfield 7, 3) := by decide +kernel
theorem dX5_opensAt_62 : decode cX5_opensAt 62 = .ok (.iload_n 1, 1) := by decide +kernel
theorem dX5_opensAt_63 : decode cX5_opensAt 63 = .ok (.iaload, 1) := by decide +kernel
theorem dX5_opensAt_64 : decode cX5_opensAt 64 = .ok (.ishr, 1) := by decide +kernel
theorem dX5_opensAt_65 : decode cX5_opensAt 65 = .ok (.iconst 1, 1) := by decide +kernel
theorem dX5_opensAt_66 : decode cX5_opensAt 66 = .ok (.iand, 1) := by decide +kernel
theorem dX5_opensAt_67 : decode cX5_opensAt 67 = .ok (.iconst 1, 1) := by decide +kernel
theorem dX5_opensAt_68 : decode cX5_opensAt 68 = .ok (.if_icmp .ne 10, 3) := by decide +kernel
theorem dX5_opensAt_71 : decode cX5_opensAt 71 = .ok (.aload_n 0, 1) := by decide +kernel
theorem dX5_opensAt_72 : decode cX5_opensAt 72 = .ok (.getfield 48, 3) := by decide +kernel
theorem dX5_opensAt_75 : decode cX5_opensAt 75 = .ok (.goto 4, 3) := by decide +kernel
theorem dX5_opensAt_78 : decode cX5_opensAt 78 = .ok (.iconst 0, 1) := by decide +kernel
theorem dX5_opensAt_79 : decode cX5_opensAt 79 = .ok (.istore 4, 2) := by decide +kernel
theorem dX5_opensAt_81 : decode cX5_opensAt 81 = .ok (.aload_n 0, 1) := by decide +kernel
theorem dX5_opensAt_82 : decode cX5_opensAt 82 = .ok (.getfield 44, 3) := by decide +kernel
theorem dX5_opensAt_85 : decode cX5_opensAt 85 = .ok (.iload_n 3, 1) := by decide +kernel
theorem dX5_opensAt_86 : decode cX5_opensAt 86 = .ok (.imul, 1) := by decide +kernel
theorem dX5_opensAt_87 : decode cX5_opensAt 87 = .ok (.aload_n 0, 1) := by decide +kernel
theorem dX5_opensAt_88 : decode cX5_opensAt 88 = .ok (.getfield 13, 3) := by decide +kernel
theorem dX5_opensAt_91 : decode cX5_opensAt 91 = .ok (.iload_n 1, 1) := by decide +kernel
theorem dX5_opensAt_92 : decode cX5_opensAt 92 = .ok (.iaload, 1) := by decide +kernel
theorem dX5_opensAt_93 : decode cX5_opensAt 93 = .ok (.iadd, 1) := by decide +kernel
theorem dX5_opensAt_94 : decode cX5_opensAt 94 = .ok (.iload 4, 2) := by decide +kernel
theorem dX5_opensAt_96 : decode cX5_opensAt 96 = .ok (.iadd, 1) := by decide +kernel
theorem dX5_opensAt_97 : decode cX5_opensAt 97 = .ok (.ireturn, 1) := by decide +kernel
set_option maxRecDepth 20000 in
theorem ggX5_firstAt_X5_opensAt : GoodIn wsX5_firstAt wsX5_opensAt := goodIn_r _ [5, 6, 7, 8, 9, 10, 11, 12, 13, 14, 4, 15, 16, 17, 18, 19, 20, 21, 22, 23, 24, 25, 26, 27, 28, 29, 30, 31, 32, 33, 34, 35, 36, 37, 38, 39, 40, 41, 42, 43, 44, 45, 46, 47] (by decide +kernel) (by decide +kernel)
set_option maxRecDepth 20000 in
theorem gX5_firstAt_X5_opensAt : GoodIn wsX5_firstAt (wsV RX5 104 RX5 yX5_opensAt wsX5_opensAt) := goodIn_app (goodIn_of _ (by decide +kernel)) ggX5_firstAt_X5_opensAt
theorem dX5_firstAt_0 : decode cX5_firstAt 0 = .ok (.sipush 1000, 3) := by decide +kernel
theorem dX5_firstAt_3 : decode cX5_firstAt 3 = .ok (.istore_n 2, 1) := by decide +kernel
theorem dX5_firstAt_4 : decode cX5_firstAt 4 = .ok (.iconst 0, 1) := by decide +kernel
theorem dX5_firstAt_5 : decode cX5_firstAt 5 = .ok (.istore_n 3, 1) := by decide +kernel
theorem dX5_firstAt_6 : decode cX5_firstAt 6 = .ok (.iload_n 3, 1) := by decide +kernel
theorem dX5_firstAt_7 : decode cX5_firstAt 7 = .ok (.bipush 6, 2) := by decide +kernel
theorem dX5_firstAt_9 : decode cX5_firstAt 9 = .ok (.if_icmp .ge 30, 3) := by decide +kernel
theorem dX5_firstAt_12 : decode cX5_firstAt 12 = .ok (.aload_n 0, 1) := by decide +kernel
theorem dX5_firstAt_13 : decode cX5_firstAt 13 = .ok (.iload_n 3, 1) := by decide +kernel
theorem dX5_firstAt_14 : decode cX5_firstAt 14 = .ok (.iload_n 1, 1) := by decide +kernel
theorem dX5_firstAt_15 : decode cX5_firstAt 15 = .ok (.invokevirtual 104, 3) := by decide +kernel
theorem dX5_firstAt_18 : decode cX5_firstAt 18 = .ok (.istore 4, 2) := by decide +kernel
theorem dX5_firstAt_20 : decode cX5_firstAt 20 = .ok (.iload 4, 2) := by decide +kernel
theorem dX5_firstAt_22 : decode cX5_firstAt 22 = .ok (.iload_n 2, 1) := by decide +kernel
theorem dX5_firstAt_23 : decode cX5_firstAt 23 = .ok (.if_icmp .ge 8, 3) := by decide +kernel
theorem dX5_firstAt_26 : decode cX5_firstAt 26 = .ok (.iload 4, 2) := by decide +kernel
theorem dX5_firstAt_28 : decode cX5_firstAt 28 = .ok (.goto 4, 3) := by decide +kernel
theorem dX5_firstAt_31 : decode cX5_firstAt 31 = .ok (.iload_n 2, 1) := by decide +kernel
theorem dX5_firstAt_32 : decode cX5_firstAt 32 = .ok (.istore_n 2, 1) := by decide +kernel
theorem dX5_firstAt_33 : decode cX5_firstAt 33 = .ok (.iinc 3 1, 3) := by decide +kernel
theorem dX5_firstAt_36 : decode cX5_firstAt 36 = .ok (.goto (-30), 3) := by decide +kernel
theorem dX5_firstAt_39 : decode cX5_firstAt 39 = .ok (.iload_n 2, 1) := by decide +kernel
theorem dX5_firstAt_40 : decode cX5_firstAt 40 = .ok (.ireturn, 1) := by decide +kernel
set_option maxRecDepth 20000 in
theorem ggX5_rulersBy_X5_firstAt : GoodIn wsX5_rulersBy wsX5_firstAt := goodIn_r _ [5, 6, 7, 8, 4, 9, 10, 11, 12, 13, 14, 15, 16, 17, 18, 19, 20, 21, 22, 23, 24, 25, 26, 27, 28, 29, 30, 31, 32, 33, 34, 35, 36, 37, 38, 39, 40, 41, 42, 43, 44, 45, 46, 47, 48, 49, 50, 51] (by decide +kernel) (by decide +kernel)
set_option maxRecDepth 20000 in
theorem gX5_rulersBy_X5_firstAt : GoodIn wsX5_rulersBy (wsV RX5 108 RX5 yX5_firstAt wsX5_firstAt) := goodIn_app (goodIn_of _ (by decide +kernel)) ggX5_rulersBy_X5_firstAt
set_option maxRecDepth 20000 in
theorem ggX5_rulersBy_X5_opensAt : GoodIn wsX5_rulersBy wsX5_opensAt := goodIn_r _ [9, 10, 11, 12, 13, 14, 15, 16, 17, 18, 4, 19, 20, 21, 22, 23, 24, 25, 26, 27, 28, 29, 30, 31, 32, 33, 34, 35, 36, 37, 38, 39, 40, 41, 42, 43, 44, 45, 46, 47, 48, 49, 50, 51] (by decide +kernel) (by decide +kernel)
set_option maxRecDepth 20000 in
theorem gX5_rulersBy_X5_opensAt : GoodIn wsX5_rulersBy (wsV RX5 104 RX5 yX5_opensAt wsX5_opensAt) := goodIn_app (goodIn_of _ (by decide +kernel)) ggX5_rulersBy_X5_opensAt
theorem dX5_rulersBy_0 : decode cX5_rulersBy 0 = .ok (.aload_n 0, 1) := by decide +kernel
theorem dX5_rulersBy_1 : decode cX5_rulersBy 1 = .ok (.iload_n 1, 1) := by decide +kernel
theorem dX5_rulersBy_2 : decode cX5_rulersBy 2 = .ok (.invokevirtual 108, 3) := by decide +kernel
theorem dX5_rulersBy_5 : decode cX5_rulersBy 5 = .ok (.istore_n 2, 1) := by decide +kernel
theorem dX5_rulersBy_6 : decode cX5_rulersBy 6 = .ok (.iconst 0, 1) := by decide +kernel
theorem dX5_rulersBy_7 : decode cX5_rulersBy 7 = .ok (.istore_n 3, 1) := by decide +kernel
theorem dX5_rulersBy_8 : decode cX5_rulersBy 8 = .ok (.iconst 0, 1) := by decide +kernel
theorem dX5_rulersBy_9 : decode cX5_rulersBy 9 = .ok (.istore 4, 2) := by decide +kernel
theorem dX5_rulersBy_11 : decode cX5_rulersBy 11 = .ok (.iload 4, 2) := by decide +kernel
theorem dX5_rulersBy_13 : decode cX5_rulersBy 13 = .ok (.bipush 6, 2) := by decide +kernel
theorem dX5_rulersBy_15 : decode cX5_rulersBy 15 = .ok (.if_icmp .ge 38, 3) := by decide +kernel
theorem dX5_rulersBy_18 : decode cX5_rulersBy 18 = .ok (.iload_n 2, 1) := by decide +kernel
theorem dX5_rulersBy_19 : decode cX5_rulersBy 19 = .ok (.sipush 1000, 3) := by decide +kernel
theorem dX5_rulersBy_22 : decode cX5_rulersBy 22 = .ok (.if_icmp .ge 31, 3) := by decide +kernel
theorem dX5_rulersBy_25 : decode cX5_rulersBy 25 = .ok (.iload_n 3, 1) := by decide +kernel
theorem dX5_rulersBy_26 : decode cX5_rulersBy 26 = .ok (.aload_n 0, 1) := by decide +kernel
theorem dX5_rulersBy_27 : decode cX5_rulersBy 27 = .ok (.iload 4, 2) := by decide +kernel
theorem dX5_rulersBy_29 : decode cX5_rulersBy 29 = .ok (.iload_n 1, 1) := by decide +kernel
theorem dX5_rulersBy_30 : decode cX5_rulersBy 30 = .ok (.invokevirtual 104, 3) := by decide +kernel
theorem dX5_rulersBy_33 : decode cX5_rulersBy 33 = .ok (.iload_n 2, 1) := by decide +kernel
theorem dX5_rulersBy_34 : decode cX5_rulersBy 34 = .ok (.if_icmp .ne 10, 3) := by decide +kernel
theorem dX5_rulersBy_37 : decode cX5_rulersBy 37 = .ok (.iconst 1, 1) := by decide +kernel
theorem dX5_rulersBy_38 : decode cX5_rulersBy 38 = .ok (.iload 4, 2) := by decide +kernel
theorem dX5_rulersBy_40 : decode cX5_rulersBy 40 = .ok (.ishl, 1) := by decide +kernel
theorem dX5_rulersBy_41 : decode cX5_rulersBy 41 = .ok (.goto 4, 3) := by decide +kernel
theorem dX5_rulersBy_44 : decode cX5_rulersBy 44 = .ok (.iconst 0, 1) := by decide +kernel
theorem dX5_rulersBy_45 : decode cX5_rulersBy 45 = .ok (.ior, 1) := by decide +kernel
theorem dX5_rulersBy_46 : decode cX5_rulersBy 46 = .ok (.istore_n 3, 1) := by decide +kernel
theorem dX5_rulersBy_47 : decode cX5_rulersBy 47 = .ok (.iinc 4 1, 3) := by decide +kernel
theorem dX5_rulersBy_50 : decode cX5_rulersBy 50 = .ok (.goto (-39), 3) := by decide +kernel
theorem dX5_rulersBy_53 : decode cX5_rulersBy 53 = .ok (.iload_n 3, 1) := by decide +kernel
theorem dX5_rulersBy_54 : decode cX5_rulersBy 54 = .ok (.ireturn, 1) := by decide +kernel
set_option maxRecDepth 20000 in
theorem ggX5_sprinkledBy_X5_opensAt : GoodIn wsX5_sprinkledBy wsX5_opensAt := goodIn_r _ [6, 7, 1, 8, 9, 10, 11, 12, 13, 14, 5, 15, 16, 17, 18, 19, 20, 21, 22, 23, 24, 25, 26, 27, 28, 29, 30, 31, 32, 33, 34, 35, 36, 37, 38, 39, 40, 41, 42, 43, 44, 45, 46, 47] (by decide +kernel) (by decide +kernel)
set_option maxRecDepth 20000 in
theorem gX5_sprinkledBy_X5_opensAt : GoodIn wsX5_sprinkledBy (wsV RX5 104 RX5 yX5_opensAt wsX5_opensAt) := goodIn_app (goodIn_of _ (by decide +kernel)) ggX5_sprinkledBy_X5_opensAt
theorem dX5_sprinkledBy_0 : decode cX5_sprinkledBy 0 = .ok (.sipush 1000, 3) := by decide +kernel
theorem dX5_sprinkledBy_3 : decode cX5_sprinkledBy 3 = .ok (.istore_n 2, 1) := by decide +kernel
theorem dX5_sprinkledBy_4 : decode cX5_sprinkledBy 4 = .ok (.iconst 0, 1) := by decide +kernel
theorem dX5_sprinkledBy_5 : decode cX5_sprinkledBy 5 = .ok (.istore_n 3, 1) := by decide +kernel
theorem dX5_sprinkledBy_6 : decode cX5_sprinkledBy 6 = .ok (.iload_n 3, 1) := by decide +kernel
theorem dX5_sprinkledBy_7 : decode cX5_sprinkledBy 7 = .ok (.bipush 6, 2) := by decide +kernel
theorem dX5_sprinkledBy_9 : decode cX5_sprinkledBy 9 = .ok (.if_icmp .ge 46, 3) := by decide +kernel
theorem dX5_sprinkledBy_12 : decode cX5_sprinkledBy 12 = .ok (.aload_n 0, 1) := by decide +kernel
theorem dX5_sprinkledBy_13 : decode cX5_sprinkledBy 13 = .ok (.getfield 7, 3) := by decide +kernel
theorem dX5_sprinkledBy_16 : decode cX5_sprinkledBy 16 = .ok (.iload_n 3, 1) := by decide +kernel
theorem dX5_sprinkledBy_17 : decode cX5_sprinkledBy 17 = .ok (.iaload, 1) := by decide +kernel
theorem dX5_sprinkledBy_18 : decode cX5_sprinkledBy 18 = .ok (.iload_n 1, 1) := by decide +kernel
theorem dX5_sprinkledBy_19 : decode cX5_sprinkledBy 19 = .ok (.if_icmp .ne 12, 3) := by decide +kernel
theorem dX5_sprinkledBy_22 : decode cX5_sprinkledBy 22 = .ok (.aload_n 0, 1) := by decide +kernel
theorem dX5_sprinkledBy_23 : decode cX5_sprinkledBy 23 = .ok (.iload_n 3, 1) := by decide +kernel
theorem dX5_sprinkledBy_24 : decode cX5_sprinkledBy 24 = .ok (.iload_n 1, 1) := by decide +kernel
theorem dX5_sprinkledBy_25 : decode cX5_sprinkledBy 25 = .ok (.invokevirtual 104, 3) := by decide +kernel
theorem dX5_sprinkledBy_28 : decode cX5_sprinkledBy 28 = .ok (.goto 6, 3) := by decide +kernel
theorem dX5_sprinkledBy_31 : decode cX5_sprinkledBy 31 = .ok (.sipush 1000, 3) := by decide +kernel
theorem dX5_sprinkledBy_34 : decode cX5_sprinkledBy 34 = .ok (.istore 4, 2) := by decide +kernel
theorem dX5_sprinkledBy_36 : decode cX5_sprinkledBy 36 = .ok (.iload 4, 2) := by decide +kernel
theorem dX5_sprinkledBy_38 : decode cX5_sprinkledBy 38 = .ok (.iload_n 2, 1) := by decide +kernel
theorem dX5_sprinkledBy_39 : decode cX5_sprinkledBy 39 = .ok (.if_icmp .ge 8, 3) := by decide +kernel
theorem dX5_sprinkledBy_42 : decode cX5_sprinkledBy 42 = .ok (.iload 4, 2) := by decide +kernel
theorem dX5_sprinkledBy_44 : decode cX5_sprinkledBy 44 = .ok (.goto 4, 3) := by decide +kernel
theorem dX5_sprinkledBy_47 : decode cX5_sprinkledBy 47 = .ok (.iload_n 2, 1) := by decide +kernel
theorem dX5_sprinkledBy_48 : decode cX5_sprinkledBy 48 = .ok (.istore_n 2, 1) := by decide +kernel
theorem dX5_sprinkledBy_49 : decode cX5_sprinkledBy 49 = .ok (.iinc 3 1, 3) := by decide +kernel
theorem dX5_sprinkledBy_52 : decode cX5_sprinkledBy 52 = .ok (.goto (-46), 3) := by decide +kernel
theorem dX5_sprinkledBy_55 : decode cX5_sprinkledBy 55 = .ok (.iconst 0, 1) := by decide +kernel
theorem dX5_sprinkledBy_56 : decode cX5_sprinkledBy 56 = .ok (.istore_n 3, 1) := by decide +kernel
theorem dX5_sprinkledBy_57 : decode cX5_sprinkledBy 57 = .ok (.iconst 0, 1) := by decide +kernel
theorem dX5_sprinkledBy_58 : decode cX5_sprinkledBy 58 = .ok (.istore 4, 2) := by decide +kernel
theorem dX5_sprinkledBy_60 : decode cX5_sprinkledBy 60 = .ok (.iload 4, 2) := by decide +kernel
theorem dX5_sprinkledBy_62 : decode cX5_sprinkledBy 62 = .ok (.bipush 6, 2) := by decide +kernel
theorem dX5_sprinkledBy_64 : decode cX5_sprinkledBy 64 = .ok (.if_icmp .ge 49, 3) := by decide +kernel
theorem dX5_sprinkledBy_67 : decode cX5_sprinkledBy 67 = .ok (.iload_n 2, 1) := by decide +kernel
theorem dX5_sprinkledBy_68 : decode cX5_sprinkledBy 68 = .ok (.sipush 1000, 3) := by decide +kernel
theorem dX5_sprinkledBy_71 : decode cX5_sprinkledBy 71 = .ok (.if_icmp .ge 42, 3) := by decide +kernel
theorem dX5_sprinkledBy_74 : decode cX5_sprinkledBy 74 = .ok (.iload_n 3, 1) := by decide +kernel
theorem dX5_sprinkledBy_75 : decode cX5_sprinkledBy 75 = .ok (.aload_n 0, 1) := by decide +kernel
theorem dX5_sprinkledBy_76 : decode cX5_sprinkledBy 76 = .ok (.getfield 7, 3) := by decide +kernel
theorem dX5_sprinkledBy_79 : decode cX5_sprinkledBy 79 = .ok (.iload 4, 2) := by decide +kernel
theorem dX5_sprinkledBy_81 : decode cX5_sprinkledBy 81 = .ok (.iaload, 1) := by decide +kernel
theorem dX5_sprinkledBy_82 : decode cX5_sprinkledBy 82 = .ok (.iload_n 1, 1) := by decide +kernel
