theorem dX5_divided_0 : decode cX5_divided 0 = .ok (.aload_n 0, 1) := by decide +kernel
theorem dX5_divided_1 : decode cX5_divided 1 = .ok (.iload_n 1, 1) := by decide +kernel
theorem dX5_divided_2 : decode cX5_divided 2 = .ok (.invokevirtual 76, 3) := by decide +kernel
theorem dX5_divided_5 : decode cX5_divided 5 = .ok (.ifCond .ne 6, 3) := by decide +kernel
theorem dX5_divided_8 : decode cX5_divided 8 = .ok (.ldc 80, 2) := by decide +kernel
theorem dX5_divided_10 : decode cX5_divided 10 = .ok (.ireturn, 1) := by decide +kernel
theorem dX5_divided_11 : decode cX5_divided 11 = .ok (.iload_n 2, 1) := by decide +kernel
theorem dX5_divided_12 : decode cX5_divided 12 = .ok (.bipush 10, 2) := by decide +kernel
theorem dX5_divided_14 : decode cX5_divided 14 = .ok (.isub, 1) := by decide +kernel
theorem dX5_divided_15 : decode cX5_divided 15 = .ok (.istore_n 3, 1) := by decide +kernel
theorem dX5_divided_16 : decode cX5_divided 16 = .ok (.iload_n 2, 1) := by decide +kernel
theorem dX5_divided_17 : decode cX5_divided 17 = .ok (.bipush 10, 2) := by decide +kernel
theorem dX5_divided_19 : decode cX5_divided 19 = .ok (.if_icmp .lt 13, 3) := by decide +kernel
theorem dX5_divided_22 : decode cX5_divided 22 = .ok (.iload_n 2, 1) := by decide +kernel
theorem dX5_divided_23 : decode cX5_divided 23 = .ok (.bipush 18, 2) := by decide +kernel
theorem dX5_divided_25 : decode cX5_divided 25 = .ok (.if_icmp .ge 7, 3) := by decide +kernel
theorem dX5_divided_28 : decode cX5_divided 28 = .ok (.iconst 1, 1) := by decide +kernel
theorem dX5_divided_29 : decode cX5_divided 29 = .ok (.goto 4, 3) := by decide +kernel
theorem dX5_divided_32 : decode cX5_divided 32 = .ok (.iconst 0, 1) := by decide +kernel
theorem dX5_divided_33 : decode cX5_divided 33 = .ok (.istore 4, 2) := by decide +kernel
theorem dX5_divided_35 : decode cX5_divided 35 = .ok (.iload_n 2, 1) := by decide +kernel
theorem dX5_divided_36 : decode cX5_divided 36 = .ok (.ifCond .eq 11, 3) := by decide +kernel
theorem dX5_divided_39 : decode cX5_divided 39 = .ok (.iload 4, 2) := by decide +kernel
theorem dX5_divided_41 : decode cX5_divided 41 = .ok (.ifCond .ne 6, 3) := by decide +kernel
theorem dX5_divided_44 : decode cX5_divided 44 = .ok (.ldc 41, 2) := by decide +kernel
theorem dX5_divided_46 : decode cX5_divided 46 = .ok (.ireturn, 1) := by decide +kernel
theorem dX5_divided_47 : decode cX5_divided 47 = .ok (.aload_n 0, 1) := by decide +kernel
theorem dX5_divided_48 : decode cX5_divided 48 = .ok (.getfield 15, 3) := by decide +kernel
theorem dX5_divided_51 : decode cX5_divided 51 = .ok (.iload_n 1, 1) := by decide +kernel
theorem dX5_divided_52 : decode cX5_divided 52 = .ok (.aaload, 1) := by decide +kernel
theorem dX5_divided_53 : decode cX5_divided 53 = .ok (.astore 5, 2) := by decide +kernel
theorem dX5_divided_55 : decode cX5_divided 55 = .ok (.aload 5, 2) := by decide +kernel
theorem dX5_divided_57 : decode cX5_divided 57 = .ok (.invokevirtual 99, 3) := by decide +kernel
theorem dX5_divided_60 : decode cX5_divided 60 = .ok (.ifCond .ne 6, 3) := by decide +kernel
theorem dX5_divided_63 : decode cX5_divided 63 = .ok (.ldc 102, 2) := by decide +kernel
theorem dX5_divided_65 : decode cX5_divided 65 = .ok (.ireturn, 1) := by decide +kernel
theorem dX5_divided_66 : decode cX5_divided 66 = .ok (.iload_n 2, 1) := by decide +kernel
theorem dX5_divided_67 : decode cX5_divided 67 = .ok (.ifCond .ne 12, 3) := by decide +kernel
theorem dX5_divided_70 : decode cX5_divided 70 = .ok (.aload 5, 2) := by decide +kernel
theorem dX5_divided_72 : decode cX5_divided 72 = .ok (.getfield 103, 3) := by decide +kernel
theorem dX5_divided_75 : decode cX5_divided 75 = .ok (.invokevirtual 93, 3) := by decide +kernel
theorem dX5_divided_78 : decode cX5_divided 78 = .ok (.ireturn, 1) := by decide +kernel
theorem dX5_divided_79 : decode cX5_divided 79 = .ok (.iload_n 3, 1) := by decide +kernel
theorem dX5_divided_80 : decode cX5_divided 80 = .ok (.aload 5, 2) := by decide +kernel
theorem dX5_divided_82 : decode cX5_divided 82 = .ok (.getfield 103, 3) := by decide +kernel
theorem dX5_divided_85 : decode cX5_divided 85 = .ok (.invokevirtual 93, 3) := by decide +kernel
theorem dX5_divided_88 : decode cX5_divided 88 = .ok (.if_icmp .ge 15, 3) := by decide +kernel
theorem dX5_divided_91 : decode cX5_divided 91 = .ok (.aload 5, 2) := by decide +kernel
theorem dX5_divided_93 : decode cX5_divided 93 = .ok (.getfield 103, 3) := by decide +kernel
theorem dX5_divided_96 : decode cX5_divided 96 = .ok (.iload_n 3, 1) := by decide +kernel
theorem dX5_divided_97 : decode cX5_divided 97 = .ok (.invokevirtual 85, 3) := by decide +kernel
theorem dX5_divided_100 : decode cX5_divided 100 = .ok (.goto 5, 3) := by decide +kernel
theorem dX5_divided_103 : decode cX5_divided 103 = .ok (.ldc 102, 2) := by decide +kernel
theorem dX5_divided_105 : decode cX5_divided 105 = .ok (.ireturn, 1) := by decide +kernel
set_option maxRecDepth 20000 in
theorem ggX5_unit_X5_hasUnit : GoodIn wsX5_unit wsX5_hasUnit := goodIn_r _ [10, 11, 28, 29, 30, 31, 32, 33, 34, 35, 36, 37, 38] (by decide +kernel) (by decide +kernel)
set_option maxRecDepth 20000 in
theorem gX5_unit_X5_hasUnit : GoodIn wsX5_unit (wsV RX5 106 RX5 yX5_hasUnit wsX5_hasUnit) := goodIn_app (goodIn_of _ (by decide +kernel)) ggX5_unit_X5_hasUnit
set_option maxRecDepth 20000 in
theorem ggX5_unit_X2_at : GoodIn wsX5_unit wsX2_at := goodIn_r _ [16, 17, 18, 41, 42] (by decide +kernel) (by decide +kernel)
set_option maxRecDepth 20000 in
theorem gX5_unit_X2_at : GoodIn wsX5_unit (wsV RX5 85 RX2 yX2_at wsX2_at) := goodIn_app (goodIn_of _ (by decide +kernel)) ggX5_unit_X2_at
set_option maxRecDepth 20000 in
theorem ggX5_unit_X2_size : GoodIn wsX5_unit wsX2_size := goodIn_r _ [22, 17, 41, 42] (by decide +kernel) (by decide +kernel)
set_option maxRecDepth 20000 in
theorem gX5_unit_X2_size : GoodIn wsX5_unit (wsV RX5 93 RX2 yX2_size wsX2_size) := goodIn_app (goodIn_of _ (by decide +kernel)) ggX5_unit_X2_size
set_option maxRecDepth 20000 in
theorem ggX5_unit_X2_total : GoodIn wsX5_unit wsX2_total := goodIn_r _ [26, 27, 13, 14, 15, 16, 17, 18, 41, 42] (by decide +kernel) (by decide +kernel)
set_option maxRecDepth 20000 in
theorem gX5_unit_X2_total : GoodIn wsX5_unit (wsV RX5 96 RX2 yX2_total wsX2_total) := goodIn_app (goodIn_of _ (by decide +kernel)) ggX5_unit_X2_total
theorem dX5_unit_0 : decode cX5_unit 0 = .ok (.aload_n 0, 1) := by decide +kernel
theorem dX5_unit_1 : decode cX5_unit 1 = .ok (.iload_n 1, 1) := by decide +kernel
theorem dX5_unit_2 : decode cX5_unit 2 = .ok (.invokevirtual 106, 3) := by decide +kernel
theorem dX5_unit_5 : decode cX5_unit 5 = .ok (.ifCond .ne 6, 3) := by decide +kernel
theorem dX5_unit_8 : decode cX5_unit 8 = .ok (.ldc 80, 2) := by decide +kernel
theorem dX5_unit_10 : decode cX5_unit 10 = .ok (.ireturn, 1) := by decide +kernel
theorem dX5_unit_11 : decode cX5_unit 11 = .ok (.aload_n 0, 1) := by decide +kernel
theorem dX5_unit_12 : decode cX5_unit 12 = .ok (.getfield 21, 3) := by decide +kernel
theorem dX5_unit_15 : decode cX5_unit 15 = .ok (.iload_n 1, 1) := by decide +kernel
theorem dX5_unit_16 : decode cX5_unit 16 = .ok (.aaload, 1) := by decide +kernel
theorem dX5_unit_17 : decode cX5_unit 17 = .ok (.astore_n 3, 1) := by decide +kernel
theorem dX5_unit_18 : decode cX5_unit 18 = .ok (.iload_n 2, 1) := by decide +kernel
theorem dX5_unit_19 : decode cX5_unit 19 = .ok (.bipush 10, 2) := by decide +kernel
theorem dX5_unit_21 : decode cX5_unit 21 = .ok (.if_icmp .lt 21, 3) := by decide +kernel
theorem dX5_unit_24 : decode cX5_unit 24 = .ok (.iload_n 2, 1) := by decide +kernel
theorem dX5_unit_25 : decode cX5_unit 25 = .ok (.bipush 18, 2) := by decide +kernel
theorem dX5_unit_27 : decode cX5_unit 27 = .ok (.if_icmp .ge 15, 3) := by decide +kernel
theorem dX5_unit_30 : decode cX5_unit 30 = .ok (.aload_n 3, 1) := by decide +kernel
theorem dX5_unit_31 : decode cX5_unit 31 = .ok (.getfield 109, 3) := by decide +kernel
theorem dX5_unit_34 : decode cX5_unit 34 = .ok (.iload_n 2, 1) := by decide +kernel
theorem dX5_unit_35 : decode cX5_unit 35 = .ok (.bipush 10, 2) := by decide +kernel
theorem dX5_unit_37 : decode cX5_unit 37 = .ok (.isub, 1) := by decide +kernel
theorem dX5_unit_38 : decode cX5_unit 38 = .ok (.invokevirtual 85, 3) := by decide +kernel
theorem dX5_unit_41 : decode cX5_unit 41 = .ok (.ireturn, 1) := by decide +kernel
theorem dX5_unit_42 : decode cX5_unit 42 = .ok (.iload_n 2, 1) := by decide +kernel
theorem dX5_unit_43 : decode cX5_unit 43 = .ok (.tableswitch 46 0 2 #[25, 30, 38], 25) := by decide +kernel
theorem dX5_unit_68 : decode cX5_unit 68 = .ok (.aload_n 3, 1) := by decide +kernel
theorem dX5_unit_69 : decode cX5_unit 69 = .ok (.getfield 112, 3) := by decide +kernel
theorem dX5_unit_72 : decode cX5_unit 72 = .ok (.ireturn, 1) := by decide +kernel
theorem dX5_unit_73 : decode cX5_unit 73 = .ok (.aload_n 3, 1) := by decide +kernel
theorem dX5_unit_74 : decode cX5_unit 74 = .ok (.getfield 109, 3) := by decide +kernel
theorem dX5_unit_77 : decode cX5_unit 77 = .ok (.invokevirtual 93, 3) := by decide +kernel
theorem dX5_unit_80 : decode cX5_unit 80 = .ok (.ireturn, 1) := by decide +kernel
theorem dX5_unit_81 : decode cX5_unit 81 = .ok (.aload_n 3, 1) := by decide +kernel
theorem dX5_unit_82 : decode cX5_unit 82 = .ok (.getfield 109, 3) := by decide +kernel
theorem dX5_unit_85 : decode cX5_unit 85 = .ok (.invokevirtual 96, 3) := by decide +kernel
theorem dX5_unit_88 : decode cX5_unit 88 = .ok (.ireturn, 1) := by decide +kernel
theorem dX5_unit_89 : decode cX5_unit 89 = .ok (.ldc 41, 2) := by decide +kernel
theorem dX5_unit_91 : decode cX5_unit 91 = .ok (.ireturn, 1) := by decide +kernel
set_option maxRecDepth 20000 in
theorem ggX5_made_X5_hasUnit : GoodIn wsX5_made wsX5_hasUnit := goodIn_r _ [10, 11, 33, 34, 35, 36, 37, 38, 39, 40, 41, 42, 43] (by decide +kernel) (by decide +kernel)
set_option maxRecDepth 20000 in
theorem gX5_made_X5_hasUnit : GoodIn wsX5_made (wsV RX5 106 RX5 yX5_hasUnit wsX5_hasUnit) := goodIn_app (goodIn_of _ (by decide +kernel)) ggX5_made_X5_hasUnit
set_option maxRecDepth 20000 in
theorem ggX5_made_X5_hasStorm : GoodIn wsX5_made wsX5_hasStorm := goodIn_r _ [15, 16, 33, 34, 35, 36, 37, 38, 39, 40, 41, 42, 43] (by decide +kernel) (by decide +kernel)
set_option maxRecDepth 20000 in
theorem gX5_made_X5_hasStorm : GoodIn wsX5_made (wsV RX5 76 RX5 yX5_hasStorm wsX5_hasStorm) := goodIn_app (goodIn_of _ (by decide +kernel)) ggX5_made_X5_hasStorm
set_option maxRecDepth 20000 in
theorem ggX5_made_X5_isTick : GoodIn wsX5_made wsX5_isTick := goodIn_r _ [19] (by decide +kernel) (by decide +kernel)
set_option maxRecDepth 20000 in
theorem gX5_made_X5_isTick : GoodIn wsX5_made (va_wsS RX5 115 yX5_isTick wsX5_isTick) := goodIn_app (goodIn_of _ (by decide +kernel)) ggX5_made_X5_isTick
set_option maxRecDepth 20000 in
theorem ggX5_made_X3_rainTimes : GoodIn wsX5_made wsX3_rainTimes := goodIn_r _ [24, 25, 26, 27, 28, 29, 30, 31, 32, 46, 47, 48, 49, 50, 51] (by decide +kernel) (by decide +kernel)
set_option maxRecDepth 20000 in
theorem gX5_made_X3_rainTimes : GoodIn wsX5_made (wsV RX5 118 RX3 yX3_rainTimes wsX3_rainTimes) := goodIn_app (goodIn_of _ (by decide +kernel)) ggX5_made_X3_rainTimes
theorem dX5_made_0 : decode cX5_made 0 = .ok (.aload_n 0, 1) := by decide +kernel
theorem dX5_made_1 : decode cX5_made 1 = .ok (.iload_n 1, 1) := by decide +kernel
theorem dX5_made_2 : decode cX5_made 2 = .ok (.invokevirtual 106, 3) := by decide +kernel
theorem dX5_made_5 : decode cX5_made 5 = .ok (.ifCond .eq 11, 3) := by decide +kernel
theorem dX5_made_8 : decode cX5_made 8 = .ok (.aload_n 0, 1) := by decide +kernel
theorem dX5_made_9 : decode cX5_made 9 = .ok (.iload_n 2, 1) := by decide +kernel
theorem dX5_made_10 : decode cX5_made 10 = .ok (.invokevirtual 76, 3) := by decide +kernel
theorem dX5_made_13 : decode cX5_made 13 = .ok (.ifCond .ne 6, 3) := by decide +kernel
theorem dX5_made_16 : decode cX5_made 16 = .ok (.ldc 80, 2) := by decide +kernel
theorem dX5_made_18 : decode cX5_made 18 = .ok (.ireturn, 1) := by decide +kernel
theorem dX5_made_19 : decode cX5_made 19 = .ok (.iload_n 3, 1) := by decide +kernel
theorem dX5_made_20 : decode cX5_made 20 = .ok (.invokestatic 115, 3) := by decide +kernel
theorem dX5_made_23 : decode cX5_made 23 = .ok (.ifCond .ne 6, 3) := by decide +kernel
theorem dX5_made_26 : decode cX5_made 26 = .ok (.ldc 41, 2) := by decide +kernel
theorem dX5_made_28 : decode cX5_made 28 = .ok (.ireturn, 1) := by decide +kernel
theorem dX5_made_29 : decode cX5_made 29 = .ok (.aload_n 0, 1) := by decide +kernel
theorem dX5_made_30 : decode cX5_made 30 = .ok (.getfield 15, 3) := by decide +kernel
theorem dX5_made_33 : decode cX5_made 33 = .ok (.iload_n 2, 1) := by decide +kernel
theorem dX5_made_34 : decode cX5_made 34 = .ok (.aaload, 1) := by decide +kernel
theorem dX5_made_35 : decode cX5_made 35 = .ok (.aload_n 0, 1) := by decide +kernel
theorem dX5_made_36 : decode cX5_made 36 = .ok (.getfield 21, 3) := by decide +kernel
theorem dX5_made_39 : decode cX5_made 39 = .ok (.iload_n 1, 1) := by decide +kernel
theorem dX5_made_40 : decode cX5_made 40 = .ok (.aaload, 1) := by decide +kernel
theorem dX5_made_41 : decode cX5_made 41 = .ok (.getfield 109, 3) := by decide +kernel
theorem dX5_made_44 : decode cX5_made 44 = .ok (.iload_n 3, 1) := by decide +kernel
theorem dX5_made_45 : decode cX5_made 45 = .ok (.invokevirtual 118, 3) := by decide +kernel
theorem dX5_made_48 : decode cX5_made 48 = .ok (.ireturn, 1) := by decide +kernel
set_option maxRecDepth 20000 in
theorem ggX5_missed_X5_hasUnit : GoodIn wsX5_missed wsX5_hasUnit := goodIn_r _ [9, 10, 34, 35, 36, 37, 38, 39, 40, 41, 42, 43, 44] (by decide +kernel) (by decide +kernel)
set_option maxRecDepth 20000 in
theorem gX5_missed_X5_hasUnit : GoodIn wsX5_missed (wsV RX5 106 RX5 yX5_hasUnit wsX5_hasUnit) := goodIn_app (goodIn_of _ (by decide +kernel)) ggX5_missed_X5_hasUnit
set_option maxRecDepth 20000 in
theorem ggX5_missed_X5_hasStorm : GoodIn wsX5_missed wsX5_hasStorm := goodIn_r _ [14, 15, 34, 35, 36, 37, 38, 39, 40, 41, 42, 43, 44] (by decide +kernel) (by decide +kernel)
set_option maxRecDepth 20000 in
theorem gX5_missed_X5_hasStorm : GoodIn wsX5_missed (wsV RX5 76 RX5 yX5_hasStorm wsX5_hasStorm) := goodIn_app (goodIn_of _ (by decide +kernel)) ggX5_missed_X5_hasStorm
set_option maxRecDepth 20000 in
theorem ggX5_missed_X3_squaresMissed : GoodIn wsX5_missed wsX3_squaresMissed := goodIn_r _ [20, 21, 22, 23, 24, 19, 25, 26, 27, 28, 29, 30, 31, 32, 33, 47, 48, 49, 50, 51, 52] (by decide +kernel) (by decide +kernel)
set_option maxRecDepth 20000 in
theorem gX5_missed_X3_squaresMissed : GoodIn wsX5_missed (wsV RX5 122 RX3 yX3_squaresMissed wsX3_squaresMissed) := goodIn_app (goodIn_of _ (by decide +kernel)) ggX5_missed_X3_squaresMissed
theorem dX5_missed_0 : decode cX5_missed 0 = .ok (.aload_n 0, 1) := by decide +kernel
theorem dX5_missed_1 : decode cX5_missed 1 = .ok (.iload_n 1, 1) := by decide +kernel
theorem dX5_missed_2 : decode cX5_missed 2 = .ok (.invokevirtual 106, 3) := by decide +kernel
theorem dX5_missed_5 : decode cX5_missed 5 = .ok (.ifCond .eq 11, 3) := by decide +kernel
theorem dX5_missed_8 : decode cX5_missed 8 = .ok (.aload_n 0, 1) := by decide +kernel
theorem dX5_missed_9 : decode cX5_missed 9 = .ok (.iload_n 2, 1) := by decide +kernel
theorem dX5_missed_10 : decode cX5_missed 10 = .ok (.invokevirtual 76, 3) := by decide +kernel
theorem dX5_missed_13 : decode cX5_missed 13 = .ok (.ifCond .ne 6, 3) := by decide +kernel
theorem dX5_missed_16 : decode cX5_missed 16 = .ok (.ldc 80, 2) := by decide +kernel
theorem dX5_missed_18 : decode cX5_missed 18 = .ok (.ireturn, 1) := by decide +kernel
theorem dX5_missed_19 : decode cX5_missed 19 = .ok (.aload_n 0, 1) := by decide +kernel
theorem dX5_missed_20 : decode cX5_missed 20 = .ok (.getfield 15, 3) := by decide +kernel
theorem dX5_missed_23 : decode cX5_missed 23 = .ok (.iload_n 2, 1) := by decide +kernel
theorem dX5_missed_24 : decode cX5_missed 24 = .ok (.aaload, 1) := by decide +kernel
theorem dX5_missed_25 : decode cX5_missed 25 = .ok (.aload_n 0, 1) := by decide +kernel
theorem dX5_missed_26 : decode cX5_missed 26 = .ok (.getfield 21, 3) := by decide +kernel
theorem dX5_missed_29 : decode cX5_missed 29 = .ok (.iload_n 1, 1) := by decide +kernel
theorem dX5_missed_30 : decode cX5_missed 30 = .ok (.aaload, 1) := by decide +kernel
theorem dX5_missed_31 : decode cX5_missed 31 = .ok (.getfield 109, 3) := by decide +kernel
theorem dX5_missed_34 : decode cX5_missed 34 = .ok (.invokevirtual 122, 3) := by decide +kernel
theorem dX5_missed_37 : decode cX5_missed 37 = .ok (.ireturn, 1) := by decide +kernel
set_option maxRecDepth 20000 in
theorem ggX5_sum_X5_hasUnit : GoodIn wsX5_sum wsX5_hasUnit := goodIn_r _ [8, 9, 27, 28, 29, 30, 31, 32, 33, 34, 35, 36, 37] (by decide +kernel) (by decide +kernel)
set_option maxRecDepth 20000 in
theorem gX5_sum_X5_hasUnit : GoodIn wsX5_sum (wsV RX5 106 RX5 yX5_hasUnit wsX5_hasUnit) := goodIn_app (goodIn_of _ (by decide +kernel)) ggX5_sum_X5_hasUnit
set_option maxRecDepth 20000 in
theorem ggX5_sum_X5_isTick : GoodIn wsX5_sum wsX5_isTick := goodIn_r _ [12] (by decide +kernel) (by decide +kernel)
set_option maxRecDepth 20000 in
theorem gX5_sum_X5_isTick : GoodIn wsX5_sum (va_wsS RX5 115 yX5_isTick wsX5_isTick) := goodIn_app (goodIn_of _ (by decide +kernel)) ggX5_sum_X5_isTick
set_option maxRecDepth 20000 in
theorem ggX5_sum_X4_summedAt : GoodIn wsX5_sum wsX4_summedAt := goodIn_r _ [17, 18, 19, 20, 21, 22, 23, 24, 25, 26, 38, 39, 40, 41] (by decide +kernel) (by decide +kernel)
set_option maxRecDepth 20000 in
theorem gX5_sum_X4_summedAt : GoodIn wsX5_sum (wsV RX5 126 RX4 yX4_summedAt wsX4_summedAt) := goodIn_app (goodIn_of _ (by decide +kernel)) ggX5_sum_X4_summedAt
theorem dX5_sum_0 : decode cX5_sum 0 = .ok (.aload_n 0, 1) := by decide +kernel
theorem dX5_sum_1 : decode cX5_sum 1 = .ok (.iload_n 1, 1) := by decide +kernel
theorem dX5_sum_2 : decode cX5_sum 2 = .ok (.invokevirtual 106, 3) := by decide +kernel
theorem dX5_sum_5 : decode cX5_sum 5 = .ok (.ifCond .ne 6, 3) := by decide +kernel
theorem dX5_sum_8 : decode cX5_sum 8 = .ok (.ldc 80, 2) := by decide +kernel
theorem dX5_sum_10 : decode cX5_sum 10 = .ok (.ireturn, 1) := by decide +kernel
theorem dX5_sum_11 : decode cX5_sum 11 = .ok (.iload_n 2, 1) := by decide +kernel
theorem dX5_sum_12 : decode cX5_sum 12 = .ok (.invokestatic 115, 3) := by decide +kernel
theorem dX5_sum_15 : decode cX5_sum 15 = .ok (.ifCond .ne 6, 3) := by decide +kernel
theorem dX5_sum_18 : decode cX5_sum 18 = .ok (.ldc 41, 2) := by decide +kernel
theorem dX5_sum_20 : decode cX5_sum 20 = .ok (.ireturn, 1) := by decide +kernel
theorem dX5_sum_21 : decode cX5_sum 21 = .ok (.aload_n 0, 1) := by decide +kernel
theorem dX5_sum_22 : decode cX5_sum 22 = .ok (.getfield 21, 3) := by decide +kernel
theorem dX5_sum_25 : decode cX5_sum 25 = .ok (.iload_n 1, 1) := by decide +kernel
theorem dX5_sum_26 : decode cX5_sum 26 = .ok (.aaload, 1) := by decide +kernel
theorem dX5_sum_27 : decode cX5_sum 27 = .ok (.iload_n 2, 1) := by decide +kernel
theorem dX5_sum_28 : decode cX5_sum 28 = .ok (.invokevirtual 126, 3) := by decide +kernel
theorem dX5_sum_31 : decode cX5_sum 31 = .ok (.ireturn, 1) := by decide +kernel
set_option maxRecDepth 20000 in
theorem ggX5_other_X5_hasUnit : GoodIn wsX5_other wsX5_hasUnit := goodIn_r _ [9, 10, 44, 45, 46, 47, 48, 49, 50, 51, 52, 53, 54] (by decide +kernel) (by decide +kernel)
set_option maxRecDepth 20000 in
theorem gX5_other_X5_hasUnit : GoodIn wsX5_other (wsV RX5 106 RX5 yX5_hasUnit wsX5_hasUnit) := goodIn_app (goodIn_of _ (by decide +kernel)) ggX5_other_X5_hasUnit
set_option maxRecDepth 20000 in
theorem ggX5_other_X5_isLength : GoodIn wsX5_other wsX5_isLength := goodIn_r _ [13] (by decide +kernel) (by decide +kernel)
set_option maxRecDepth 20000 in
theorem gX5_other_X5_isLength : GoodIn wsX5_other (va_wsS RX5 129 yX5_isLength wsX5_isLength) := goodIn_app (goodIn_of _ (by decide +kernel)) ggX5_other_X5_isLength
set_option maxRecDepth 20000 in
theorem ggX5_other_X5_isTick : GoodIn wsX5_other wsX5_isTick := goodIn_r _ [16] (by decide +kernel) (by decide +kernel)
set_option maxRecDepth 20000 in
theorem gX5_other_X5_isTick : GoodIn wsX5_other (va_wsS RX5 115 yX5_isTick wsX5_isTick) := goodIn_app (goodIn_of _ (by decide +kernel)) ggX5_other_X5_isTick
set_option maxRecDepth 20000 in
theorem ggX5_other_X5_isPartOfFraction : GoodIn wsX5_other wsX5_isPartOfFraction := goodIn_r _ [19] (by decide +kernel) (by decide +kernel)
set_option maxRecDepth 20000 in
theorem gX5_other_X5_isPartOfFraction : GoodIn wsX5_other (va_wsS RX5 132 yX5_isPartOfFraction wsX5_isPartOfFraction) := goodIn_app (goodIn_of _ (by decide +kernel)) ggX5_other_X5_isPartOfFraction
set_option maxRecDepth 20000 in
theorem ggX5_other_X4_summedAt : GoodIn wsX5_other wsX4_summedAt := goodIn_r _ [24, 25, 26, 27, 28, 29, 30, 31, 32, 33, 55, 56, 57, 58] (by decide +kernel) (by decide +kernel)
set_option maxRecDepth 20000 in
theorem gX5_other_X4_summedAt : GoodIn wsX5_other (wsV RX5 126 RX4 yX4_summedAt wsX4_summedAt) := goodIn_app (goodIn_of _ (by decide +kernel)) ggX5_other_X4_summedAt
set_option maxRecDepth 20000 in
theorem ggX5_other_X5_inLowestTerms : GoodIn wsX5_other wsX5_inLowestTerms := goodIn_r _ [36, 37, 38, 8, 39, 40, 41, 42, 43] (by decide +kernel) (by decide +kernel)
set_option maxRecDepth 20000 in
theorem gX5_other_X5_inLowestTerms : GoodIn wsX5_other (va_wsS RX5 135 yX5_inLowestTerms wsX5_inLowestTerms) := goodIn_app (goodIn_of _ (by decide +kernel)) ggX5_other_X5_inLowestTerms
theorem dX5_other_0 : decode cX5_other 0 = .ok (.aload_n 0, 1) := by decide +kernel
theorem dX5_other_1 : decode cX5_other 1 = .ok (.iload_n 1, 1) := by decide +kernel
theorem dX5_other_2 : decode cX5_other 2 = .ok (.invokevirtual 106, 3) := by decide +kernel
theorem dX5_other_5 : decode cX5_other 5 = .ok (.ifCond .ne 6, 3) := by decide +kernel
theorem dX5_other_8 : decode cX5_other 8 = .ok (.ldc 80, 2) := by decide +kernel
theorem dX5_other_10 : decode cX5_other 10 = .ok (.ireturn, 1) := by decide +kernel
theorem dX5_other_11 : decode cX5_other 11 = .ok (.iload_n 2, 1) := by decide +kernel
theorem dX5_other_12 : decode cX5_other 12 = .ok (.invokestatic 129, 3) := by decide +kernel
theorem dX5_other_15 : decode cX5_other 15 = .ok (.ifCond .eq 18, 3) := by decide +kernel
theorem dX5_other_18 : decode cX5_other 18 = .ok (.iload_n 3, 1) := by decide +kernel
theorem dX5_other_19 : decode cX5_other 19 = .ok (.invokestatic 115, 3) := by decide +kernel
theorem dX5_other_22 : decode cX5_other 22 = .ok (.ifCond .eq 11, 3) := by decide +kernel
theorem dX5_other_25 : decode cX5_other 25 = .ok (.iload 4, 2) := by decide +kernel
theorem dX5_other_27 : decode cX5_other 27 = .ok (.invokestatic 132, 3) := by decide +kernel
theorem dX5_other_30 : decode cX5_other 30 = .ok (.ifCond .ne 6, 3) := by decide +kernel
theorem dX5_other_33 : decode cX5_other 33 = .ok (.ldc 41, 2) := by decide +kernel
theorem dX5_other_35 : decode cX5_other 35 = .ok (.ireturn, 1) := by decide +kernel
theorem dX5_other_36 : decode cX5_other 36 = .ok (.aload_n 0, 1) := by decide +kernel
theorem dX5_other_37 : decode cX5_other 37 = .ok (.getfield 21, 3) := by decide +kernel
theorem dX5_other_40 : decode cX5_other 40 = .ok (.iload_n 1, 1) := by decide +kernel
theorem dX5_other_41 : decode cX5_other 41 = .ok (.aaload, 1) := by decide +kernel
theorem dX5_other_42 : decode cX5_other 42 = .ok (.astore 5, 2) := by decide +kernel
theorem dX5_other_44 : decode cX5_other 44 = .ok (.aload 5, 2) := by decide +kernel
theorem dX5_other_46 : decode cX5_other 46 = .ok (.iload_n 3, 1) := by decide +kernel
theorem dX5_other_47 : decode cX5_other 47 = .ok (.invokevirtual 126, 3) := by decide +kernel
theorem dX5_other_50 : decode cX5_other 50 = .ok (.aload 5, 2) := by decide +kernel
theorem dX5_other_52 : decode cX5_other 52 = .ok (.iload_n 3, 1) := by decide +kernel
theorem dX5_other_53 : decode cX5_other 53 = .ok (.iload_n 2, 1) := by decide +kernel
theorem dX5_other_54 : decode cX5_other 54 = .ok (.isub, 1) := by decide +kernel
theorem dX5_other_55 : decode cX5_other 55 = .ok (.invokevirtual 126, 3) := by decide +kernel
theorem dX5_other_58 : decode cX5_other 58 = .ok (.isub, 1) := by decide +kernel
theorem dX5_other_59 : decode cX5_other 59 = .ok (.istore 6, 2) := by decide +kernel
theorem dX5_other_61 : decode cX5_other 61 = .ok (.iload 6, 2) := by decide +kernel
theorem dX5_other_63 : decode cX5_other 63 = .ok (.aload 5, 2) := by decide +kernel
theorem dX5_other_65 : decode cX5_other 65 = .ok (.getfield 112, 3) := by decide +kernel
theorem dX5_other_68 : decode cX5_other 68 = .ok (.imul, 1) := by decide +kernel
theorem dX5_other_69 : decode cX5_other 69 = .ok (.i2l, 1) := by decide +kernel
theorem dX5_other_70 : decode cX5_other 70 = .ok (.iload_n 2, 1) := by decide +kernel
theorem dX5_other_71 : decode cX5_other 71 = .ok (.i2l, 1) := by decide +kernel
theorem dX5_other_72 : decode cX5_other 72 = .ok (.iload 4, 2) := by decide +kernel
theorem dX5_other_74 : decode cX5_other 74 = .ok (.invokestatic 135, 3) := by decide +kernel
theorem dX5_other_77 : decode cX5_other 77 = .ok (.l2i, 1) := by decide +kernel
theorem dX5_other_78 : decode cX5_other 78 = .ok (.ireturn, 1) := by decide +kernel
set_option maxRecDepth 20000 in
theorem ggX5_best_X5_canFit : GoodIn wsX5_best wsX5_canFit := goodIn_r _ [7, 8, 100, 101, 102, 103, 104, 105, 106, 107, 108, 109, 110] (by decide +kernel) (by decide +kernel)
set_option maxRecDepth 20000 in
theorem gX5_best_X5_canFit : GoodIn wsX5_best (wsV RX5 139 RX5 yX5_canFit wsX5_canFit) := goodIn_app (goodIn_of _ (by decide +kernel)) ggX5_best_X5_canFit
set_option maxRecDepth 20000 in
theorem ggX5_best_X5_isFitted : GoodIn wsX5_best wsX5_isFitted := goodIn_r _ [11] (by decide +kernel) (by decide +kernel)
set_option maxRecDepth 20000 in
theorem gX5_best_X5_isFitted : GoodIn wsX5_best (va_wsS RX5 143 yX5_isFitted wsX5_isFitted) := goodIn_app (goodIn_of _ (by decide +kernel)) ggX5_best_X5_isFitted
set_option maxRecDepth 20000 in
theorem ggX5_best_X5_isPartOfFraction : GoodIn wsX5_best wsX5_isPartOfFraction := goodIn_r _ [14] (by decide +kernel) (by decide +kernel)
set_option maxRecDepth 20000 in
theorem gX5_best_X5_isPartOfFraction : GoodIn wsX5_best (va_wsS RX5 132 yX5_isPartOfFraction wsX5_isPartOfFraction) := goodIn_app (goodIn_of _ (by decide +kernel)) ggX5_best_X5_isPartOfFraction
set_option maxRecDepth 20000 in
theorem ggX5_best_X5_fitStorms : GoodIn wsX5_best wsX5_fitStorms := goodIn_r _ [18, 2, 8, 19, 20, 21, 22, 23, 24, 25, 26, 27, 28, 29, 30, 31, 32, 33, 34, 35, 36, 37, 38, 39, 40, 41, 42, 43, 44, 45, 46, 47, 48, 49, 50, 51, 52, 53, 54, 55, 56, 57, 58, 59, 60, 61, 62, 63, 64, 65, 66, 67, 68, 69, 70, 71, 72, 73, 74, 75, 76, 77, 78, 79, 80, 81, 82, 100, 101, 102, 103, 104, 105, 106, 107, 108, 109, 110, 111, 112, 113, 114, 115, 116, 117, 118, 119, 120, 121, 122, 123, 124] (by decide +kernel) (by decide +kernel)
set_option maxRecDepth 20000 in
theorem gX5_best_X5_fitStorms : GoodIn wsX5_best (wsV RX5 148 RX5 yX5_fitStorms wsX5_fitStorms) := goodIn_app (goodIn_of _ (by decide +kernel)) ggX5_best_X5_fitStorms
set_option maxRecDepth 20000 in
theorem ggX5_best_X0_partAbove : GoodIn wsX5_best wsX0_partAbove := goodIn_r _ [86, 58, 111, 112, 113, 114, 115, 116, 117, 118] (by decide +kernel) (by decide +kernel)
set_option maxRecDepth 20000 in
theorem gX5_best_X0_partAbove : GoodIn wsX5_best (wsV RX5 152 RX0 yX0_partAbove wsX0_partAbove) := goodIn_app (goodIn_of _ (by decide +kernel)) ggX5_best_X0_partAbove
set_option maxRecDepth 20000 in
theorem ggX5_best_X0_below : GoodIn wsX5_best wsX0_below := goodIn_r _ [90, 57, 111, 112, 113, 114, 115, 116, 117, 118] (by decide +kernel) (by decide +kernel)
set_option maxRecDepth 20000 in
theorem gX5_best_X0_below : GoodIn wsX5_best (wsV RX5 156 RX0 yX0_below wsX0_below) := goodIn_app (goodIn_of _ (by decide +kernel)) ggX5_best_X0_below
set_option maxRecDepth 20000 in
theorem ggX5_best_X5_inLowestTerms : GoodIn wsX5_best wsX5_inLowestTerms := goodIn_r _ [93, 94, 95, 6, 96, 97, 98, 27, 99] (by decide +kernel) (by decide +kernel)
set_option maxRecDepth 20000 in
theorem gX5_best_X5_inLowestTerms : GoodIn wsX5_best (va_wsS RX5 135 yX5_inLowestTerms wsX5_inLowestTerms) := goodIn_app (goodIn_of _ (by decide +kernel)) ggX5_best_X5_inLowestTerms
theorem dX5_best_0 : decode cX5_best 0 = .ok (.aload_n 0, 1) := by decide +kernel
theorem dX5_best_1 : decode cX5_best 1 = .ok (.iload_n 1, 1) := by decide +kernel
theorem dX5_best_2 : decode cX5_best 2 = .ok (.iload_n 2, 1) := by decide +kernel
theorem dX5_best_3 : decode cX5_best 3 = .ok (.invokevirtual 139, 3) := by decide +kernel
theorem dX5_best_6 : decode cX5_best 6 = .ok (.ifCond .eq 19, 3) := by decide +kernel
theorem dX5_best_9 : decode cX5_best 9 = .ok (.iload_n 3, 1) := by decide +kernel
theorem dX5_best_10 : decode cX5_best 10 = .ok (.iload_n 2, 1) := by decide +kernel
theorem dX5_best_11 : decode cX5_best 11 = .ok (.invokestatic 143, 3) := by decide +kernel
theorem dX5_best_14 : decode cX5_best 14 = .ok (.ifCond .eq 11, 3) := by decide +kernel
theorem dX5_best_17 : decode cX5_best 17 = .ok (.iload 4, 2) := by decide +kernel
theorem dX5_best_19 : decode cX5_best 19 = .ok (.invokestatic 132, 3) := by decide +kernel
theorem dX5_best_22 : decode cX5_best 22 = .ok (.ifCond .ne 7, 3) := by decide +kernel
theorem dX5_best_25 : decode cX5_best 25 = .ok (.ldc2_w 146, 3) := by decide +kernel
theorem dX5_best_28 : decode cX5_best 28 = .ok (.lreturn, 1) := by decide +kernel
theorem dX5_best_29 : decode cX5_best 29 = .ok (.aload_n 0, 1) := by decide +kernel
theorem dX5_best_30 : decode cX5_best 30 = .ok (.iload_n 1, 1) := by decide +kernel
theorem dX5_best_31 : decode cX5_best 31 = .ok (.iload_n 2, 1) := by decide +kernel
theorem dX5_best_32 : decode cX5_best 32 = .ok (.invokevirtual 148, 3) := by decide +kernel
theorem dX5_best_35 : decode cX5_best 35 = .ok (.aload_n 0, 1) := by decide +kernel
theorem dX5_best_36 : decode cX5_best 36 = .ok (.getfield 35, 3) := by decide +kernel
theorem dX5_best_39 : decode cX5_best 39 = .ok (.iload_n 3, 1) := by decide +kernel
theorem dX5_best_40 : decode cX5_best 40 = .ok (.invokevirtual 152, 3) := by decide +kernel
theorem dX5_best_43 : decode cX5_best 43 = .ok (.aload_n 0, 1) := by decide +kernel
theorem dX5_best_44 : decode cX5_best 44 = .ok (.getfield 35, 3) := by decide +kernel
theorem dX5_best_47 : decode cX5_best 47 = .ok (.invokevirtual 156, 3) := by decide +kernel
theorem dX5_best_50 : decode cX5_best 50 = .ok (.iload 4, 2) := by decide +kernel
theorem dX5_best_52 : decode cX5_best 52 = .ok (.invokestatic 135, 3) := by decide +kernel
theorem dX5_best_55 : decode cX5_best 55 = .ok (.lreturn, 1) := by decide +kernel
set_option maxRecDepth 20000 in
theorem ggX5_loss_X5_canFit : GoodIn wsX5_loss wsX5_canFit := goodIn_r _ [7, 8, 97, 98, 99, 100, 101, 102, 103, 104, 105, 106, 107] (by decide +kernel) (by decide +kernel)
set_option maxRecDepth 20000 in
theorem gX5_loss_X5_canFit : GoodIn wsX5_loss (wsV RX5 139 RX5 yX5_canFit wsX5_canFit) := goodIn_app (goodIn_of _ (by decide +kernel)) ggX5_loss_X5_canFit
set_option maxRecDepth 20000 in
theorem ggX5_loss_X5_isPartOfFraction : GoodIn wsX5_loss wsX5_isPartOfFraction := goodIn_r _ [11] (by decide +kernel) (by decide +kernel)
set_option maxRecDepth 20000 in
theorem gX5_loss_X5_isPartOfFraction : GoodIn wsX5_loss (va_wsS RX5 132 yX5_isPartOfFraction wsX5_isPartOfFraction) := goodIn_app (goodIn_of _ (by decide +kernel)) ggX5_loss_X5_isPartOfFraction
set_option maxRecDepth 20000 in
theorem ggX5_loss_X5_fitStorms : GoodIn wsX5_loss wsX5_fitStorms := goodIn_r _ [15, 2, 8, 16, 17, 18, 19, 20, 21, 22, 23, 24, 25, 26, 27, 28, 29, 30, 31, 32, 33, 34, 35, 36, 37, 38, 39, 40, 41, 42, 43, 44, 45, 46, 47, 48, 49, 50, 51, 52, 53, 54, 55, 56, 57, 58, 59, 60, 61, 62, 63, 64, 65, 66, 67, 68, 69, 70, 71, 72, 73, 74, 75, 76, 77, 78, 79, 97, 98, 99, 100, 101, 102, 103, 104, 105, 106, 107, 108, 109, 110, 111, 112, 113, 114, 115, 116, 117, 118, 119, 120, 121] (by decide +kernel) (by decide +kernel)
set_option maxRecDepth 20000 in
theorem gX5_loss_X5_fitStorms : GoodIn wsX5_loss (wsV RX5 148 RX5 yX5_fitStorms wsX5_fitStorms) := goodIn_app (goodIn_of _ (by decide +kernel)) ggX5_loss_X5_fitStorms
set_option maxRecDepth 20000 in
theorem ggX5_loss_X0_lossAbove : GoodIn wsX5_loss wsX0_lossAbove := goodIn_r _ [83, 30, 54, 29, 32, 55, 108, 109, 110, 111, 112, 113, 114, 115] (by decide +kernel) (by decide +kernel)
set_option maxRecDepth 20000 in
theorem gX5_loss_X0_lossAbove : GoodIn wsX5_loss (wsV RX5 160 RX0 yX0_lossAbove wsX0_lossAbove) := goodIn_app (goodIn_of _ (by decide +kernel)) ggX5_loss_X0_lossAbove
set_option maxRecDepth 20000 in
theorem ggX5_loss_X0_below : GoodIn wsX5_loss wsX0_below := goodIn_r _ [87, 54, 108, 109, 110, 111, 112, 113, 114, 115] (by decide +kernel) (by decide +kernel)
set_option maxRecDepth 20000 in
theorem gX5_loss_X0_below : GoodIn wsX5_loss (wsV RX5 156 RX0 yX0_below wsX0_below) := goodIn_app (goodIn_of _ (by decide +kernel)) ggX5_loss_X0_below
set_option maxRecDepth 20000 in
theorem ggX5_loss_X5_inLowestTerms : GoodIn wsX5_loss wsX5_inLowestTerms := goodIn_r _ [90, 91, 92, 6, 93, 94, 95, 24, 96] (by decide +kernel) (by decide +kernel)
set_option maxRecDepth 20000 in
theorem gX5_loss_X5_inLowestTerms : GoodIn wsX5_loss (va_wsS RX5 135 yX5_inLowestTerms wsX5_inLowestTerms) := goodIn_app (goodIn_of _ (by decide +kernel)) ggX5_loss_X5_inLowestTerms
theorem dX5_loss_0 : decode cX5_loss 0 = .ok (.aload_n 0, 1) := by decide +kernel
theorem dX5_loss_1 : decode cX5_loss 1 = .ok (.iload_n 1, 1) := by decide +kernel
theorem dX5_loss_2 : decode cX5_loss 2 = .ok (.iload_n 2, 1) := by decide +kernel
theorem dX5_loss_3 : decode cX5_loss 3 = .ok (.invokevirtual 139, 3) := by decide +kernel
theorem dX5_loss_6 : decode cX5_loss 6 = .ok (.ifCond .eq 10, 3) := by decide +kernel
theorem dX5_loss_9 : decode cX5_loss 9 = .ok (.iload_n 3, 1) := by decide +kernel
theorem dX5_loss_10 : decode cX5_loss 10 = .ok (.invokestatic 132, 3) := by decide +kernel
theorem dX5_loss_13 : decode cX5_loss 13 = .ok (.ifCond .ne 7, 3) := by decide +kernel
theorem dX5_loss_16 : decode cX5_loss 16 = .ok (.ldc2_w 146, 3) := by decide +kernel
theorem dX5_loss_19 : decode cX5_loss 19 = .ok (.lreturn, 1) := by decide +kernel
theorem dX5_loss_20 : decode cX5_loss 20 = .ok (.aload_n 0, 1) := by decide +kernel
theorem dX5_loss_21 : decode cX5_loss 21 = .ok (.iload_n 1, 1) := by decide +kernel
theorem dX5_loss_22 : decode cX5_loss 22 = .ok (.iload_n 2, 1) := by decide +kernel
theorem dX5_loss_23 : decode cX5_loss 23 = .ok (.invokevirtual 148, 3) := by decide +kernel
theorem dX5_loss_26 : decode cX5_loss 26 = .ok (.aload_n 0, 1) := by decide +kernel
theorem dX5_loss_27 : decode cX5_loss 27 = .ok (.getfield 35, 3) := by decide +kernel
theorem dX5_loss_30 : decode cX5_loss 30 = .ok (.invokevirtual 160, 3) := by decide +kernel
theorem dX5_loss_33 : decode cX5_loss 33 = .ok (.aload_n 0, 1) := by decide +kernel
theorem dX5_loss_34 : decode cX5_loss 34 = .ok (.getfield 35, 3) := by decide +kernel
theorem dX5_loss_37 : decode cX5_loss 37 = .ok (.invokevirtual 156, 3) := by decide +kernel
theorem dX5_loss_40 : decode cX5_loss 40 = .ok (.iload_n 3, 1) := by decide +kernel
theorem dX5_loss_41 : decode cX5_loss 41 = .ok (.invokestatic 135, 3) := by decide +kernel
theorem dX5_loss_44 : decode cX5_loss 44 = .ok (.lreturn, 1) := by decide +kernel
set_option maxRecDepth 20000 in
theorem ggX5_press_X5_canFit : GoodIn wsX5_press wsX5_canFit := goodIn_r _ [7, 8, 100, 101, 102, 103, 104, 105, 106, 107, 108, 109, 110] (by decide +kernel) (by decide +kernel)
set_option maxRecDepth 20000 in
theorem gX5_press_X5_canFit : GoodIn wsX5_press (wsV RX5 139 RX5 yX5_canFit wsX5_canFit) := goodIn_app (goodIn_of _ (by decide +kernel)) ggX5_press_X5_canFit
set_option maxRecDepth 20000 in
theorem ggX5_press_X5_isFitted : GoodIn wsX5_press wsX5_isFitted := goodIn_r _ [11] (by decide +kernel) (by decide +kernel)
set_option maxRecDepth 20000 in
theorem gX5_press_X5_isFitted : GoodIn wsX5_press (va_wsS RX5 143 yX5_isFitted wsX5_isFitted) := goodIn_app (goodIn_of _ (by decide +kernel)) ggX5_press_X5_isFitted
set_option maxRecDepth 20000 in
theorem ggX5_press_X5_isPartOfFraction : GoodIn wsX5_press wsX5_isPartOfFraction := goodIn_r _ [14] (by decide +kernel) (by decide +kernel)
set_option maxRecDepth 20000 in
theorem gX5_press_X5_isPartOfFraction : GoodIn wsX5_press (va_wsS RX5 132 yX5_isPartOfFraction wsX5_isPartOfFraction) := goodIn_app (goodIn_of _ (by decide +kernel)) ggX5_press_X5_isPartOfFraction
set_option maxRecDepth 20000 in
theorem ggX5_press_X5_fitStorms : GoodIn wsX5_press wsX5_fitStorms := goodIn_r _ [18, 2, 8, 19, 20, 21, 22, 23, 24, 25, 26, 27, 28, 29, 30, 31, 32, 33, 34, 35, 36, 37, 38, 39, 40, 41, 42, 43, 44, 45, 46, 47, 48, 49, 50, 51, 52, 53, 54, 55, 56, 57, 58, 59, 60, 61, 62, 63, 64, 65, 66, 67, 68, 69, 70, 71, 72, 73, 74, 75, 76, 77, 78, 79, 80, 81, 82, 100, 101, 102, 103, 104, 105, 106, 107, 108, 109, 110, 111, 112, 113, 114, 115, 116, 117, 118, 119, 120, 121, 122, 123, 124] (by decide +kernel) (by decide +kernel)
set_option maxRecDepth 20000 in
theorem gX5_press_X5_fitStorms : GoodIn wsX5_press (wsV RX5 148 RX5 yX5_fitStorms wsX5_fitStorms) := goodIn_app (goodIn_of _ (by decide +kernel)) ggX5_press_X5_fitStorms
set_option maxRecDepth 20000 in
theorem ggX5_press_X0_pressAbove : GoodIn wsX5_press wsX0_pressAbove := goodIn_r _ [86, 59, 111, 112, 113, 114, 115, 116, 117, 118] (by decide +kernel) (by decide +kernel)
set_option maxRecDepth 20000 in
theorem gX5_press_X0_pressAbove : GoodIn wsX5_press (wsV RX5 163 RX0 yX0_pressAbove wsX0_pressAbove) := goodIn_app (goodIn_of _ (by decide +kernel)) ggX5_press_X0_pressAbove
set_option maxRecDepth 20000 in
theorem ggX5_press_X0_below : GoodIn wsX5_press wsX0_below := goodIn_r _ [90, 57, 111, 112, 113, 114, 115, 116, 117, 118] (by decide +kernel) (by decide +kernel)
set_option maxRecDepth 20000 in
theorem gX5_press_X0_below : GoodIn wsX5_press (wsV RX5 156 RX0 yX0_below wsX0_below) := goodIn_app (goodIn_of _ (by decide +kernel)) ggX5_press_X0_below
set_option maxRecDepth 20000 in
theorem ggX5_press_X5_inLowestTerms : GoodIn wsX5_press wsX5_inLowestTerms := goodIn_r _ [93, 94, 95, 6, 96, 97, 98, 27, 99] (by decide +kernel) (by decide +kernel)
set_option maxRecDepth 20000 in
theorem gX5_press_X5_inLowestTerms : GoodIn wsX5_press (va_wsS RX5 135 yX5_inLowestTerms wsX5_inLowestTerms) := goodIn_app (goodIn_of _ (by decide +kernel)) ggX5_press_X5_inLowestTerms
theorem dX5_press_0 : decode cX5_press 0 = .ok (.aload_n 0, 1) := by decide +kernel
theorem dX5_press_1 : decode cX5_press 1 = .ok (.iload_n 1, 1) := by decide +kernel
theorem dX5_press_2 : decode cX5_press 2 = .ok (.iload_n 2, 1) := by decide +kernel
theorem dX5_press_3 : decode cX5_press 3 = .ok (.invokevirtual 139, 3) := by decide +kernel
theorem dX5_press_6 : decode cX5_press 6 = .ok (.ifCond .eq 19, 3) := by decide +kernel
theorem dX5_press_9 : decode cX5_press 9 = .ok (.iload_n 3, 1) := by decide +kernel
theorem dX5_press_10 : decode cX5_press 10 = .ok (.iload_n 2, 1) := by decide +kernel
theorem dX5_press_11 : decode cX5_press 11 = .ok (.invokestatic 143, 3) := by decide +kernel
theorem dX5_press_14 : decode cX5_press 14 = .ok (.ifCond .eq 11, 3) := by decide +kernel
theorem dX5_press_17 : decode cX5_press 17 = .ok (.iload 4, 2) := by decide +kernel
theorem dX5_press_19 : decode cX5_press 19 = .ok (.invokestatic 132, 3) := by decide +kernel
theorem dX5_press_22 : decode cX5_press 22 = .ok (.ifCond .ne 7, 3) := by decide +kernel
theorem dX5_press_25 : decode cX5_press 25 = .ok (.ldc2_w 146, 3) := by decide +kernel
theorem dX5_press_28 : decode cX5_press 28 = .ok (.lreturn, 1) := by decide +kernel
theorem dX5_press_29 : decode cX5_press 29 = .ok (.aload_n 0, 1) := by decide +kernel
theorem dX5_press_30 : decode cX5_press 30 = .ok (.iload_n 1, 1) := by decide +kernel
theorem dX5_press_31 : decode cX5_press 31 = .ok (.iload_n 2, 1) := by decide +kernel
theorem dX5_press_32 : decode cX5_press 32 = .ok (.invokevirtual 148, 3) := by decide +kernel
theorem dX5_press_35 : decode cX5_press 35 = .ok (.aload_n 0, 1) := by decide +kernel
theorem dX5_press_36 : decode cX5_press 36 = .ok (.getfield 35, 3) := by decide +kernel
theorem dX5_press_39 : decode cX5_press 39 = .ok (.iload_n 3, 1) := by decide +kernel
theorem dX5_press_40 : decode cX5_press 40 = .ok (.invokevirtual 163, 3) := by decide +kernel
theorem dX5_press_43 : decode cX5_press 43 = .ok (.aload_n 0, 1) := by decide +kernel
theorem dX5_press_44 : decode cX5_press 44 = .ok (.getfield 35, 3) := by decide +kernel
theorem dX5_press_47 : decode cX5_press 47 = .ok (.invokevirtual 156, 3) := by decide +kernel
theorem dX5_press_50 : decode cX5_press 50 = .ok (.iload 4, 2) := by decide +kernel
theorem dX5_press_52 : decode cX5_press 52 = .ok (.invokestatic 135, 3) := by decide +kernel
theorem dX5_press_55 : decode cX5_press 55 = .ok (.lreturn, 1) := by decide +kernel
set_option maxRecDepth 20000 in
theorem ggX5_nothing_X5_canFit : GoodIn wsX5_nothing wsX5_canFit := goodIn_r _ [7, 8, 81, 82, 83, 84, 85, 86, 87, 88, 89, 90, 91] (by decide +kernel) (by decide +kernel)
set_option maxRecDepth 20000 in
theorem gX5_nothing_X5_canFit : GoodIn wsX5_nothing (wsV RX5 139 RX5 yX5_canFit wsX5_canFit) := goodIn_app (goodIn_of _ (by decide +kernel)) ggX5_nothing_X5_canFit
set_option maxRecDepth 20000 in
theorem ggX5_nothing_X5_fitStorms : GoodIn wsX5_nothing wsX5_fitStorms := goodIn_r _ [12, 2, 8, 13, 14, 15, 16, 17, 18, 19, 20, 21, 22, 23, 24, 25, 26, 27, 28, 29, 30, 31, 32, 33, 34, 35, 36, 37, 38, 39, 40, 41, 42, 43, 44, 45, 46, 47, 48, 49, 50, 51, 52, 53, 54, 55, 56, 57, 58, 59, 60, 61, 62, 63, 64, 65, 66, 67, 68, 69, 70, 71, 72, 73, 74, 75, 76, 81, 82, 83, 84, 85, 86, 87, 88, 89, 90, 91, 92, 93, 94, 95, 96, 97, 98, 99, 100, 101, 102, 103, 104, 105] (by decide +kernel) (by decide +kernel)
set_option maxRecDepth 20000 in
theorem gX5_nothing_X5_fitStorms : GoodIn wsX5_nothing (wsV RX5 148 RX5 yX5_fitStorms wsX5_fitStorms) := goodIn_app (goodIn_of _ (by decide +kernel)) ggX5_nothing_X5_fitStorms
set_option maxRecDepth 20000 in
theorem ggX5_nothing_X0_partAbove : GoodIn wsX5_nothing wsX0_partAbove := goodIn_r _ [80, 52, 92, 93, 94, 95, 96, 97, 98, 99] (by decide +kernel) (by decide +kernel)
set_option maxRecDepth 20000 in
theorem gX5_nothing_X0_partAbove : GoodIn wsX5_nothing (wsV RX5 152 RX0 yX0_partAbove wsX0_partAbove) := goodIn_app (goodIn_of _ (by decide +kernel)) ggX5_nothing_X0_partAbove
theorem dX5_nothing_0 : decode cX5_nothing 0 = .ok (.aload_n 0, 1) := by decide +kernel
theorem dX5_nothing_1 : decode cX5_nothing 1 = .ok (.iload_n 1, 1) := by decide +kernel
theorem dX5_nothing_2 : decode cX5_nothing 2 = .ok (.iload_n 2, 1) := by decide +kernel
theorem dX5_nothing_3 : decode cX5_nothing 3 = .ok (.invokevirtual 139, 3) := by decide +kernel
theorem dX5_nothing_6 : decode cX5_nothing 6 = .ok (.ifCond .ne 6, 3) := by decide +kernel
theorem dX5_nothing_9 : decode cX5_nothing 9 = .ok (.ldc 41, 2) := by decide +kernel
theorem dX5_nothing_11 : decode cX5_nothing 11 = .ok (.ireturn, 1) := by decide +kernel
theorem dX5_nothing_12 : decode cX5_nothing 12 = .ok (.aload_n 0, 1) := by decide +kernel
theorem dX5_nothing_13 : decode cX5_nothing 13 = .ok (.iload_n 1, 1) := by decide +kernel
theorem dX5_nothing_14 : decode cX5_nothing 14 = .ok (.iload_n 2, 1) := by decide +kernel
theorem dX5_nothing_15 : decode cX5_nothing 15 = .ok (.invokevirtual 148, 3) := by decide +kernel
theorem dX5_nothing_18 : decode cX5_nothing 18 = .ok (.iconst 0, 1) := by decide +kernel
theorem dX5_nothing_19 : decode cX5_nothing 19 = .ok (.istore_n 3, 1) := by decide +kernel
theorem dX5_nothing_20 : decode cX5_nothing 20 = .ok (.iconst 0, 1) := by decide +kernel
theorem dX5_nothing_21 : decode cX5_nothing 21 = .ok (.istore 4, 2) := by decide +kernel
theorem dX5_nothing_23 : decode cX5_nothing 23 = .ok (.iload 4, 2) := by decide +kernel
theorem dX5_nothing_25 : decode cX5_nothing 25 = .ok (.iload_n 2, 1) := by decide +kernel
theorem dX5_nothing_26 : decode cX5_nothing 26 = .ok (.if_icmp .ge 30, 3) := by decide +kernel
theorem dX5_nothing_29 : decode cX5_nothing 29 = .ok (.aload_n 0, 1) := by decide +kernel
theorem dX5_nothing_30 : decode cX5_nothing 30 = .ok (.getfield 35, 3) := by decide +kernel
theorem dX5_nothing_33 : decode cX5_nothing 33 = .ok (.iload 4, 2) := by decide +kernel
theorem dX5_nothing_35 : decode cX5_nothing 35 = .ok (.invokevirtual 152, 3) := by decide +kernel
theorem dX5_nothing_38 : decode cX5_nothing 38 = .ok (.lconst 0, 1) := by decide +kernel
theorem dX5_nothing_39 : decode cX5_nothing 39 = .ok (.lcmp, 1) := by decide +kernel
theorem dX5_nothing_40 : decode cX5_nothing 40 = .ok (.ifCond .ne 10, 3) := by decide +kernel
theorem dX5_nothing_43 : decode cX5_nothing 43 = .ok (.iload_n 3, 1) := by decide +kernel
theorem dX5_nothing_44 : decode cX5_nothing 44 = .ok (.iconst 1, 1) := by decide +kernel
theorem dX5_nothing_45 : decode cX5_nothing 45 = .ok (.iload 4, 2) := by decide +kernel
theorem dX5_nothing_47 : decode cX5_nothing 47 = .ok (.ishl, 1) := by decide +kernel
theorem dX5_nothing_48 : decode cX5_nothing 48 = .ok (.ior, 1) := by decide +kernel
theorem dX5_nothing_49 : decode cX5_nothing 49 = .ok (.istore_n 3, 1) := by decide +kernel
theorem dX5_nothing_50 : decode cX5_nothing 50 = .ok (.iinc 4 1, 3) := by decide +kernel
theorem dX5_nothing_53 : decode cX5_nothing 53 = .ok (.goto (-30), 3) := by decide +kernel
theorem dX5_nothing_56 : decode cX5_nothing 56 = .ok (.iload_n 3, 1) := by decide +kernel
theorem dX5_nothing_57 : decode cX5_nothing 57 = .ok (.ireturn, 1) := by decide +kernel
set_option maxRecDepth 20000 in
theorem ggX5_keep_X5_canFit : GoodIn wsX5_keep wsX5_canFit := goodIn_r _ [14, 15, 104, 105, 106, 107, 108, 109, 110, 111, 112, 113, 114] (by decide +kernel) (by decide +kernel)
set_option maxRecDepth 20000 in
theorem gX5_keep_X5_canFit : GoodIn wsX5_keep (wsV RX5 139 RX5 yX5_canFit wsX5_canFit) := goodIn_app (goodIn_of _ (by decide +kernel)) ggX5_keep_X5_canFit
set_option maxRecDepth 20000 in
theorem ggX5_keep_X5_isLength : GoodIn wsX5_keep wsX5_isLength := goodIn_r _ [18] (by decide +kernel) (by decide +kernel)
set_option maxRecDepth 20000 in
theorem gX5_keep_X5_isLength : GoodIn wsX5_keep (va_wsS RX5 129 yX5_isLength wsX5_isLength) := goodIn_app (goodIn_of _ (by decide +kernel)) ggX5_keep_X5_isLength
set_option maxRecDepth 20000 in
theorem ggX5_keep_X5_fitStorms : GoodIn wsX5_keep wsX5_fitStorms := goodIn_r _ [22, 2, 15, 23, 24, 25, 26, 27, 28, 29, 30, 31, 32, 33, 34, 35, 36, 37, 38, 39, 40, 41, 42, 43, 44, 45, 46, 47, 48, 49, 50, 51, 52, 53, 54, 55, 56, 57, 58, 59, 60, 61, 62, 63, 64, 65, 66, 67, 68, 69, 70, 71, 72, 73, 74, 75, 76, 77, 78, 79, 80, 81, 82, 83, 84, 85, 86, 104, 105, 106, 107, 108, 109, 110, 111, 112, 113, 114, 117, 118, 119, 120, 121, 122, 123, 124, 125, 126, 127, 128, 129, 130] (by decide +kernel) (by decide +kernel)
set_option maxRecDepth 20000 in
theorem gX5_keep_X5_fitStorms : GoodIn wsX5_keep (wsV RX5 148 RX5 yX5_fitStorms wsX5_fitStorms) := goodIn_app (goodIn_of _ (by decide +kernel)) ggX5_keep_X5_fitStorms
set_option maxRecDepth 20000 in
theorem ggX5_keep_X0_isOfUnitNumbers : GoodIn wsX5_keep wsX0_isOfUnitNumbers := goodIn_r _ [90, 61, 36, 62, 91, 117, 118, 119, 120, 121, 122, 123, 124] (by decide +kernel) (by decide +kernel)
set_option maxRecDepth 20000 in
theorem gX5_keep_X0_isOfUnitNumbers : GoodIn wsX5_keep (wsV RX5 166 RX0 yX0_isOfUnitNumbers wsX0_isOfUnitNumbers) := goodIn_app (goodIn_of _ (by decide +kernel)) ggX5_keep_X0_isOfUnitNumbers
set_option maxRecDepth 20000 in
theorem ggX5_keep_X0_writeInto : GoodIn wsX5_keep wsX0_writeInto := goodIn_r _ [95, 36, 61, 62, 96, 97, 98, 49, 99, 51, 100, 101, 102, 103, 52, 117, 118, 119, 120, 121, 122, 123, 124, 129, 130] (by decide +kernel) (by decide +kernel)
set_option maxRecDepth 20000 in
theorem gX5_keep_X0_writeInto : GoodIn wsX5_keep (wsV RX5 172 RX0 yX0_writeInto wsX0_writeInto) := goodIn_app (goodIn_of _ (by decide +kernel)) ggX5_keep_X0_writeInto
theorem dX5_keep_0 : decode cX5_keep 0 = .ok (.aload_n 0, 1) := by decide +kernel
theorem dX5_keep_1 : decode cX5_keep 1 = .ok (.iload_n 1, 1) := by decide +kernel
theorem dX5_keep_2 : decode cX5_keep 2 = .ok (.iload_n 2, 1) := by decide +kernel
theorem dX5_keep_3 : decode cX5_keep 3 = .ok (.invokevirtual 139, 3) := by decide +kernel
theorem dX5_keep_6 : decode cX5_keep 6 = .ok (.ifCond .eq 10, 3) := by decide +kernel
theorem dX5_keep_9 : decode cX5_keep 9 = .ok (.iload_n 3, 1) := by decide +kernel
theorem dX5_keep_10 : decode cX5_keep 10 = .ok (.invokestatic 129, 3) := by decide +kernel
theorem dX5_keep_13 : decode cX5_keep 13 = .ok (.ifCond .ne 6, 3) := by decide +kernel
theorem dX5_keep_16 : decode cX5_keep 16 = .ok (.ldc 41, 2) := by decide +kernel
theorem dX5_keep_18 : decode cX5_keep 18 = .ok (.ireturn, 1) := by decide +kernel
theorem dX5_keep_19 : decode cX5_keep 19 = .ok (.aload_n 0, 1) := by decide +kernel
theorem dX5_keep_20 : decode cX5_keep 20 = .ok (.iload_n 1, 1) := by decide +kernel
theorem dX5_keep_21 : decode cX5_keep 21 = .ok (.iload_n 2, 1) := by decide +kernel
theorem dX5_keep_22 : decode cX5_keep 22 = .ok (.invokevirtual 148, 3) := by decide +kernel
theorem dX5_keep_25 : decode cX5_keep 25 = .ok (.aload_n 0, 1) := by decide +kernel
theorem dX5_keep_26 : decode cX5_keep 26 = .ok (.getfield 35, 3) := by decide +kernel
theorem dX5_keep_29 : decode cX5_keep 29 = .ok (.invokevirtual 166, 3) := by decide +kernel
theorem dX5_keep_32 : decode cX5_keep 32 = .ok (.ifCond .ne 6, 3) := by decide +kernel
theorem dX5_keep_35 : decode cX5_keep 35 = .ok (.ldc 55, 2) := by decide +kernel
theorem dX5_keep_37 : decode cX5_keep 37 = .ok (.ireturn, 1) := by decide +kernel
theorem dX5_keep_38 : decode cX5_keep 38 = .ok (.aload_n 0, 1) := by decide +kernel
theorem dX5_keep_39 : decode cX5_keep 39 = .ok (.getfield 169, 3) := by decide +kernel
theorem dX5_keep_42 : decode cX5_keep 42 = .ok (.iconst 4, 1) := by decide +kernel
theorem dX5_keep_43 : decode cX5_keep 43 = .ok (.if_icmp .lt 6, 3) := by decide +kernel
theorem dX5_keep_46 : decode cX5_keep 46 = .ok (.ldc 46, 2) := by decide +kernel
theorem dX5_keep_48 : decode cX5_keep 48 = .ok (.ireturn, 1) := by decide +kernel
theorem dX5_keep_49 : decode cX5_keep 49 = .ok (.aload_n 0, 1) := by decide +kernel
theorem dX5_keep_50 : decode cX5_keep 50 = .ok (.getfield 21, 3) := by decide +kernel
theorem dX5_keep_53 : decode cX5_keep 53 = .ok (.aload_n 0, 1) := by decide +kernel
theorem dX5_keep_54 : decode cX5_keep 54 = .ok (.getfield 169, 3) := by decide +kernel
theorem dX5_keep_57 : decode cX5_keep 57 = .ok (.aaload, 1) := by decide +kernel
theorem dX5_keep_58 : decode cX5_keep 58 = .ok (.astore 4, 2) := by decide +kernel
theorem dX5_keep_60 : decode cX5_keep 60 = .ok (.aload 4, 2) := by decide +kernel
theorem dX5_keep_62 : decode cX5_keep 62 = .ok (.iload_n 3, 1) := by decide +kernel
theorem dX5_keep_63 : decode cX5_keep 63 = .ok (.putfield 112, 3) := by decide +kernel
theorem dX5_keep_66 : decode cX5_keep 66 = .ok (.aload_n 0, 1) := by decide +kernel
theorem dX5_keep_67 : decode cX5_keep 67 = .ok (.getfield 35, 3) := by decide +kernel
theorem dX5_keep_70 : decode cX5_keep 70 = .ok (.aload 4, 2) := by decide +kernel
theorem dX5_keep_72 : decode cX5_keep 72 = .ok (.getfield 109, 3) := by decide +kernel
theorem dX5_keep_75 : decode cX5_keep 75 = .ok (.invokevirtual 172, 3) := by decide +kernel
theorem dX5_keep_78 : decode cX5_keep 78 = .ok (.aload_n 0, 1) := by decide +kernel
theorem dX5_keep_79 : decode cX5_keep 79 = .ok (.dup, 1) := by decide +kernel
theorem dX5_keep_80 : decode cX5_keep 80 = .ok (.getfield 169, 3) := by decide +kernel
theorem dX5_keep_83 : decode cX5_keep 83 = .ok (.iconst 1, 1) := by decide +kernel
theorem dX5_keep_84 : decode cX5_keep 84 = .ok (.iadd, 1) := by decide +kernel
theorem dX5_keep_85 : decode cX5_keep 85 = .ok (.putfield 169, 3) := by decide +kernel
theorem dX5_keep_88 : decode cX5_keep 88 = .ok (.aload_n 0, 1) := by decide +kernel
theorem dX5_keep_89 : decode cX5_keep 89 = .ok (.dup, 1) := by decide +kernel
theorem dX5_keep_90 : decode cX5_keep 90 = .ok (.getfield 176, 3) := by decide +kernel
theorem dX5_keep_93 : decode cX5_keep 93 = .ok (.iconst 1, 1) := by decide +kernel
theorem dX5_keep_94 : decode cX5_keep 94 = .ok (.iadd, 1) := by decide +kernel
theorem dX5_keep_95 : decode cX5_keep 95 = .ok (.putfield 176, 3) := by decide +kernel
theorem dX5_keep_98 : decode cX5_keep 98 = .ok (.aload_n 0, 1) := by decide +kernel
theorem dX5_keep_99 : decode cX5_keep 99 = .ok (.getfield 169, 3) := by decide +kernel
theorem dX5_keep_102 : decode cX5_keep 102 = .ok (.iconst 1, 1) := by decide +kernel
theorem dX5_keep_103 : decode cX5_keep 103 = .ok (.isub, 1) := by decide +kernel
theorem dX5_keep_104 : decode cX5_keep 104 = .ok (.ireturn, 1) := by decide +kernel
theorem dX5_count_0 : decode cX5_count 0 = .ok (.iload_n 1, 1) := by decide +kernel
theorem dX5_count_1 : decode cX5_count 1 = .ok (.tableswitch 69 0 5 #[39, 44, 49, 54, 59, 64], 39) := by decide +kernel
theorem dX5_count_40 : decode cX5_count 40 = .ok (.aload_n 0, 1) := by decide +kernel
theorem dX5_count_41 : decode cX5_count 41 = .ok (.getfield 179, 3) := by decide +kernel
theorem dX5_count_44 : decode cX5_count 44 = .ok (.ireturn, 1) := by decide +kernel
theorem dX5_count_45 : decode cX5_count 45 = .ok (.aload_n 0, 1) := by decide +kernel
theorem dX5_count_46 : decode cX5_count 46 = .ok (.getfield 169, 3) := by decide +kernel
theorem dX5_count_49 : decode cX5_count 49 = .ok (.ireturn, 1) := by decide +kernel
theorem dX5_count_50 : decode cX5_count 50 = .ok (.aload_n 0, 1) := by decide +kernel
theorem dX5_count_51 : decode cX5_count 51 = .ok (.getfield 42, 3) := by decide +kernel
theorem dX5_count_54 : decode cX5_count 54 = .ok (.ireturn, 1) := by decide +kernel
theorem dX5_count_55 : decode cX5_count 55 = .ok (.aload_n 0, 1) := by decide +kernel
theorem dX5_count_56 : decode cX5_count 56 = .ok (.getfield 66, 3) := by decide +kernel
theorem dX5_count_59 : decode cX5_count 59 = .ok (.ireturn, 1) := by decide +kernel
theorem dX5_count_60 : decode cX5_count 60 = .ok (.aload_n 0, 1) := by decide +kernel
theorem dX5_count_61 : decode cX5_count 61 = .ok (.getfield 182, 3) := by decide +kernel
theorem dX5_count_64 : decode cX5_count 64 = .ok (.ireturn, 1) := by decide +kernel
theorem dX5_count_65 : decode cX5_count 65 = .ok (.aload_n 0, 1) := by decide +kernel
theorem dX5_count_66 : decode cX5_count 66 = .ok (.getfield 176, 3) := by decide +kernel
theorem dX5_count_69 : decode cX5_count 69 = .ok (.ireturn, 1) := by decide +kernel
theorem dX5_count_70 : decode cX5_count 70 = .ok (.ldc 41, 2) := by decide +kernel
theorem dX5_count_72 : decode cX5_count 72 = .ok (.ireturn, 1) := by decide +kernel
set_option maxRecDepth 20000 in
theorem ggX5_digest_X5_withStorm : GoodIn wsX5_digest wsX5_withStorm := goodIn_r _ [10, 11, 12, 13, 9, 14, 15, 16, 17, 18, 19, 20, 21, 22, 23, 2, 24, 25, 26, 27, 28, 29, 30, 31, 32, 33, 34, 35, 36, 37, 38, 39, 40, 41, 42, 43, 44, 45, 46, 47, 48, 49, 50, 51, 52, 53, 54, 55, 183, 184, 185, 186, 187, 188, 189, 190, 191, 192, 193, 194, 195, 196, 197, 198, 199] (by decide +kernel) (by decide +kernel)
set_option maxRecDepth 20000 in
theorem gX5_digest_X5_withStorm : GoodIn wsX5_digest (wsV RX5 187 RX5 yX5_withStorm wsX5_withStorm) := goodIn_app (goodIn_of _ (by decide +kernel)) ggX5_digest_X5_withStorm
set_option maxRecDepth 20000 in
theorem ggX5_digest_X5_withUnit : GoodIn wsX5_digest wsX5_withUnit := goodIn_r _ [59, 60, 61, 62, 9, 63, 15, 64, 65, 66, 19, 67, 68, 69, 70, 3, 24, 25, 26, 27, 28, 29, 30, 31, 32, 33, 34, 35, 36, 37, 38, 39, 40, 41, 42, 43, 183, 184, 185, 186, 187, 188, 189, 190, 191, 192, 193, 200, 201, 198, 199] (by decide +kernel) (by decide +kernel)
set_option maxRecDepth 20000 in
theorem gX5_digest_X5_withUnit : GoodIn wsX5_digest (wsV RX5 191 RX5 yX5_withUnit wsX5_withUnit) := goodIn_app (goodIn_of _ (by decide +kernel)) ggX5_digest_X5_withUnit
set_option maxRecDepth 20000 in
theorem ggX5_digest_X5_missed : GoodIn wsX5_digest wsX5_missed := goodIn_r _ [74, 15, 16, 64, 65, 67, 68, 69, 9, 70, 3, 20, 21, 22, 23, 2, 75, 76, 77, 53, 78, 79, 80, 81, 82, 83, 84, 85, 25, 26, 27, 28, 29, 30, 183, 184, 185, 186, 187, 188, 189, 190, 191, 192, 193, 200, 201, 194, 195, 196, 197, 198, 199] (by decide +kernel) (by decide +kernel)
set_option maxRecDepth 20000 in
theorem gX5_digest_X5_missed : GoodIn wsX5_digest (wsV RX5 194 RX5 yX5_missed wsX5_missed) := goodIn_app (goodIn_of _ (by decide +kernel)) ggX5_digest_X5_missed
set_option maxRecDepth 20000 in
theorem ggX5_digest_X5_with : GoodIn wsX5_digest wsX5_with := goodIn_r _ [42, 43] (by decide +kernel) (by decide +kernel)
set_option maxRecDepth 20000 in
theorem gX5_digest_X5_with : GoodIn wsX5_digest (va_wsS RX5 198 yX5_with wsX5_with) := goodIn_app (goodIn_of _ (by decide +kernel)) ggX5_digest_X5_with
set_option maxRecDepth 20000 in
theorem ggX5_digest_X5_fitStorms : GoodIn wsX5_digest wsX5_fitStorms := goodIn_r _ [89, 90, 2, 16, 91, 92, 93, 94, 95, 96, 97, 98, 99, 100, 101, 102, 103, 104, 105, 106, 107, 108, 109, 110, 111, 112, 113, 25, 26, 27, 28, 29, 30, 114, 115, 116, 117, 118, 119, 120, 121, 122, 123, 124, 125, 126, 127, 128, 129, 130, 131, 132, 133, 134, 135, 136, 137, 138, 139, 140, 141, 142, 143, 144, 145, 146, 147, 183, 184, 185, 186, 187, 188, 189, 190, 191, 192, 193, 202, 203, 204, 205, 206, 207, 208, 209, 194, 195, 196, 197, 198, 199] (by decide +kernel) (by decide +kernel)
set_option maxRecDepth 20000 in
theorem gX5_digest_X5_fitStorms : GoodIn wsX5_digest (wsV RX5 148 RX5 yX5_fitStorms wsX5_fitStorms) := goodIn_app (goodIn_of _ (by decide +kernel)) ggX5_digest_X5_fitStorms
set_option maxRecDepth 20000 in
theorem ggX5_digest_X5_withFit : GoodIn wsX5_digest wsX5_withFit := goodIn_r _ [151, 90, 152, 153, 154, 94, 155, 123, 156, 157, 158, 159, 122, 160, 161, 9, 162, 163, 164, 165, 166, 167, 168, 169, 170, 98, 171, 40, 41, 42, 43, 172, 173, 174, 175, 104, 103, 106, 183, 184, 185, 186, 187, 188, 189, 190, 191, 192, 193, 202, 203, 204, 205, 206, 207, 208, 209] (by decide +kernel) (by decide +kernel)
set_option maxRecDepth 20000 in
theorem gX5_digest_X5_withFit : GoodIn wsX5_digest (wsV RX5 202 RX5 yX5_withFit wsX5_withFit) := goodIn_app (goodIn_of _ (by decide +kernel)) ggX5_digest_X5_withFit
set_option maxRecDepth 20000 in
theorem ggX5_digest_X5_count : GoodIn wsX5_digest wsX5_count := goodIn_r _ [179, 2, 3, 4, 180, 181, 182, 19, 183, 184, 185, 186, 187, 188, 189, 190, 191, 192, 193] (by decide +kernel) (by decide +kernel)
set_option maxRecDepth 20000 in
theorem gX5_digest_X5_count : GoodIn wsX5_digest (wsV RX5 205 RX5 yX5_count wsX5_count) := goodIn_app (goodIn_of _ (by decide +kernel)) ggX5_digest_X5_count
theorem dX5_digest_0 : decode cX5_digest 0 = .ok (.ldc2_w 185, 3) := by decide +kernel
theorem dX5_digest_3 : decode cX5_digest 3 = .ok (.lstore_n 1, 1) := by decide +kernel
theorem dX5_digest_4 : decode cX5_digest 4 = .ok (.iconst 0, 1) := by decide +kernel
theorem dX5_digest_5 : decode cX5_digest 5 = .ok (.istore_n 3, 1) := by decide +kernel
theorem dX5_digest_6 : decode cX5_digest 6 = .ok (.iload_n 3, 1) := by decide +kernel
theorem dX5_digest_7 : decode cX5_digest 7 = .ok (.aload_n 0, 1) := by decide +kernel
theorem dX5_digest_8 : decode cX5_digest 8 = .ok (.getfield 179, 3) := by decide +kernel
theorem dX5_digest_11 : decode cX5_digest 11 = .ok (.if_icmp .ge 16, 3) := by decide +kernel
theorem dX5_digest_14 : decode cX5_digest 14 = .ok (.aload_n 0, 1) := by decide +kernel
theorem dX5_digest_15 : decode cX5_digest 15 = .ok (.lload_n 1, 1) := by decide +kernel
theorem dX5_digest_16 : decode cX5_digest 16 = .ok (.iload_n 3, 1) := by decide +kernel
theorem dX5_digest_17 : decode cX5_digest 17 = .ok (.invokevirtual 187, 3) := by decide +kernel
theorem dX5_digest_20 : decode cX5_digest 20 = .ok (.lstore_n 1, 1) := by decide +kernel
theorem dX5_digest_21 : decode cX5_digest 21 = .ok (.iinc 3 1, 3) := by decide +kernel
theorem dX5_digest_24 : decode cX5_digest 24 = .ok (.goto (-18), 3) := by decide +kernel
theorem dX5_digest_27 : decode cX5_digest 27 = .ok (.iconst 0, 1) := by decide +kernel
theorem dX5_digest_28 : decode cX5_digest 28 = .ok (.istore_n 3, 1) := by decide +kernel
theorem dX5_digest_29 : decode cX5_digest 29 = .ok (.iload_n 3, 1) := by decide +kernel
theorem dX5_digest_30 : decode cX5_digest 30 = .ok (.aload_n 0, 1) := by decide +kernel
theorem dX5_digest_31 : decode cX5_digest 31 = .ok (.getfield 169, 3) := by decide +kernel
theorem dX5_digest_34 : decode cX5_digest 34 = .ok (.if_icmp .ge 16, 3) := by decide +kernel
theorem dX5_digest_37 : decode cX5_digest 37 = .ok (.aload_n 0, 1) := by decide +kernel
theorem dX5_digest_38 : decode cX5_digest 38 = .ok (.lload_n 1, 1) := by decide +kernel
theorem dX5_digest_39 : decode cX5_digest 39 = .ok (.iload_n 3, 1) := by decide +kernel
theorem dX5_digest_40 : decode cX5_digest 40 = .ok (.invokevirtual 191, 3) := by decide +kernel
theorem dX5_digest_43 : decode cX5_digest 43 = .ok (.lstore_n 1, 1) := by decide +kernel
theorem dX5_digest_44 : decode cX5_digest 44 = .ok (.iinc 3 1, 3) := by decide +kernel
theorem dX5_digest_47 : decode cX5_digest 47 = .ok (.goto (-18), 3) := by decide +kernel
theorem dX5_digest_50 : decode cX5_digest 50 = .ok (.iconst 0, 1) := by decide +kernel
theorem dX5_digest_51 : decode cX5_digest 51 = .ok (.istore_n 3, 1) := by decide +kernel
theorem dX5_digest_52 : decode cX5_digest 52 = .ok (.iload_n 3, 1) := by decide +kernel
theorem dX5_digest_53 : decode cX5_digest 53 = .ok (.aload_n 0, 1) := by decide +kernel
theorem dX5_digest_54 : decode cX5_digest 54 = .ok (.getfield 169, 3) := by decide +kernel
theorem dX5_digest_57 : decode cX5_digest 57 = .ok (.if_icmp .ge 40, 3) := by decide +kernel
theorem dX5_digest_60 : decode cX5_digest 60 = .ok (.iconst 0, 1) := by decide +kernel
theorem dX5_digest_61 : decode cX5_digest 61 = .ok (.istore 4, 2) := by decide +kernel
theorem dX5_digest_63 : decode cX5_digest 63 = .ok (.iload 4, 2) := by decide +kernel
theorem dX5_digest_65 : decode cX5_digest 65 = .ok (.aload_n 0, 1) := by decide +kernel
theorem dX5_digest_66 : decode cX5_digest 66 = .ok (.getfield 179, 3) := by decide +kernel
theorem dX5_digest_69 : decode cX5_digest 69 = .ok (.if_icmp .ge 22, 3) := by decide +kernel
theorem dX5_digest_72 : decode cX5_digest 72 = .ok (.lload_n 1, 1) := by decide +kernel
theorem dX5_digest_73 : decode cX5_digest 73 = .ok (.aload_n 0, 1) := by decide +kernel
theorem dX5_digest_74 : decode cX5_digest 74 = .ok (.iload_n 3, 1) := by decide +kernel
theorem dX5_digest_75 : decode cX5_digest 75 = .ok (.iload 4, 2) := by decide +kernel
theorem dX5_digest_77 : decode cX5_digest 77 = .ok (.invokevirtual 194, 3) := by decide +kernel
theorem dX5_digest_80 : decode cX5_digest 80 = .ok (.i2l, 1) := by decide +kernel
theorem dX5_digest_81 : decode cX5_digest 81 = .ok (.invokestatic 198, 3) := by decide +kernel
theorem dX5_digest_84 : decode cX5_digest 84 = .ok (.lstore_n 1, 1) := by decide +kernel
theorem dX5_digest_85 : decode cX5_digest 85 = .ok (.iinc 4 1, 3) := by decide +kernel
theorem dX5_digest_88 : decode cX5_digest 88 = .ok (.goto (-25), 3) := by decide +kernel
theorem dX5_digest_91 : decode cX5_digest 91 = .ok (.iinc 3 1, 3) := by decide +kernel
theorem dX5_digest_94 : decode cX5_digest 94 = .ok (.goto (-42), 3) := by decide +kernel
theorem dX5_digest_97 : decode cX5_digest 97 = .ok (.iconst 1, 1) := by decide +kernel
theorem dX5_digest_98 : decode cX5_digest 98 = .ok (.istore_n 3, 1) := by decide +kernel
theorem dX5_digest_99 : decode cX5_digest 99 = .ok (.iload_n 3, 1) := by decide +kernel
theorem dX5_digest_100 : decode cX5_digest 100 = .ok (.iconst 4, 1) := by decide +kernel
theorem dX5_digest_101 : decode cX5_digest 101 = .ok (.if_icmp .gt 36, 3) := by decide +kernel
theorem dX5_digest_104 : decode cX5_digest 104 = .ok (.aload_n 0, 1) := by decide +kernel
theorem dX5_digest_105 : decode cX5_digest 105 = .ok (.getfield 179, 3) := by decide +kernel
theorem dX5_digest_108 : decode cX5_digest 108 = .ok (.ifCond .le 29, 3) := by decide +kernel
theorem dX5_digest_111 : decode cX5_digest 111 = .ok (.aload_n 0, 1) := by decide +kernel
theorem dX5_digest_112 : decode cX5_digest 112 = .ok (.iconst 1, 1) := by decide +kernel
theorem dX5_digest_113 : decode cX5_digest 113 = .ok (.aload_n 0, 1) := by decide +kernel
theorem dX5_digest_114 : decode cX5_digest 114 = .ok (.getfield 179, 3) := by decide +kernel
theorem dX5_digest_117 : decode cX5_digest 117 = .ok (.ishl, 1) := by decide +kernel
theorem dX5_digest_118 : decode cX5_digest 118 = .ok (.iconst 1, 1) := by decide +kernel
theorem dX5_digest_119 : decode cX5_digest 119 = .ok (.isub, 1) := by decide +kernel
theorem dX5_digest_120 : decode cX5_digest 120 = .ok (.iload_n 3, 1) := by decide +kernel
theorem dX5_digest_121 : decode cX5_digest 121 = .ok (.invokevirtual 148, 3) := by decide +kernel
theorem dX5_digest_124 : decode cX5_digest 124 = .ok (.aload_n 0, 1) := by decide +kernel
theorem dX5_digest_125 : decode cX5_digest 125 = .ok (.lload_n 1, 1) := by decide +kernel
theorem dX5_digest_126 : decode cX5_digest 126 = .ok (.iload_n 3, 1) := by decide +kernel
theorem dX5_digest_127 : decode cX5_digest 127 = .ok (.invokevirtual 202, 3) := by decide +kernel
theorem dX5_digest_130 : decode cX5_digest 130 = .ok (.lstore_n 1, 1) := by decide +kernel
theorem dX5_digest_131 : decode cX5_digest 131 = .ok (.iinc 3 1, 3) := by decide +kernel
theorem dX5_digest_134 : decode cX5_digest 134 = .ok (.goto (-35), 3) := by decide +kernel
theorem dX5_digest_137 : decode cX5_digest 137 = .ok (.iconst 0, 1) := by decide +kernel
theorem dX5_digest_138 : decode cX5_digest 138 = .ok (.istore_n 3, 1) := by decide +kernel
theorem dX5_digest_139 : decode cX5_digest 139 = .ok (.iload_n 3, 1) := by decide +kernel
theorem dX5_digest_140 : decode cX5_digest 140 = .ok (.aload_n 0, 1) := by decide +kernel
theorem dX5_digest_141 : decode cX5_digest 141 = .ok (.getfield 42, 3) := by decide +kernel
theorem dX5_digest_144 : decode cX5_digest 144 = .ok (.if_icmp .ge 21, 3) := by decide +kernel
theorem dX5_digest_147 : decode cX5_digest 147 = .ok (.lload_n 1, 1) := by decide +kernel
theorem dX5_digest_148 : decode cX5_digest 148 = .ok (.aload_n 0, 1) := by decide +kernel
theorem dX5_digest_149 : decode cX5_digest 149 = .ok (.getfield 9, 3) := by decide +kernel
theorem dX5_digest_152 : decode cX5_digest 152 = .ok (.iload_n 3, 1) := by decide +kernel
theorem dX5_digest_153 : decode cX5_digest 153 = .ok (.iaload, 1) := by decide +kernel
theorem dX5_digest_154 : decode cX5_digest 154 = .ok (.i2l, 1) := by decide +kernel
theorem dX5_digest_155 : decode cX5_digest 155 = .ok (.invokestatic 198, 3) := by decide +kernel
theorem dX5_digest_158 : decode cX5_digest 158 = .ok (.lstore_n 1, 1) := by decide +kernel
theorem dX5_digest_159 : decode cX5_digest 159 = .ok (.iinc 3 1, 3) := by decide +kernel
theorem dX5_digest_162 : decode cX5_digest 162 = .ok (.goto (-23), 3) := by decide +kernel
theorem dX5_digest_165 : decode cX5_digest 165 = .ok (.iconst 0, 1) := by decide +kernel
theorem dX5_digest_166 : decode cX5_digest 166 = .ok (.istore_n 3, 1) := by decide +kernel
theorem dX5_digest_167 : decode cX5_digest 167 = .ok (.iload_n 3, 1) := by decide +kernel
theorem dX5_digest_168 : decode cX5_digest 168 = .ok (.bipush 6, 2) := by decide +kernel
theorem dX5_digest_170 : decode cX5_digest 170 = .ok (.if_icmp .ge 20, 3) := by decide +kernel
theorem dX5_digest_173 : decode cX5_digest 173 = .ok (.lload_n 1, 1) := by decide +kernel
theorem dX5_digest_174 : decode cX5_digest 174 = .ok (.aload_n 0, 1) := by decide +kernel
theorem dX5_digest_175 : decode cX5_digest 175 = .ok (.iload_n 3, 1) := by decide +kernel
theorem dX5_digest_176 : decode cX5_digest 176 = .ok (.invokevirtual 205, 3) := by decide +kernel
theorem dX5_digest_179 : decode cX5_digest 179 = .ok (.i2l, 1) := by decide +kernel
theorem dX5_digest_180 : decode cX5_digest 180 = .ok (.invokestatic 198, 3) := by decide +kernel
theorem dX5_digest_183 : decode cX5_digest 183 = .ok (.lstore_n 1, 1) := by decide +kernel
theorem dX5_digest_184 : decode cX5_digest 184 = .ok (.iinc 3 1, 3) := by decide +kernel
theorem dX5_digest_187 : decode cX5_digest 187 = .ok (.goto (-20), 3) := by decide +kernel
theorem dX5_digest_190 : decode cX5_digest 190 = .ok (.lload_n 1, 1) := by decide +kernel
theorem dX5_digest_191 : decode cX5_digest 191 = .ok (.lreturn, 1) := by decide +kernel
theorem dX5_with_0 : decode cX5_with 0 = .ok (.ldc2_w 208, 3) := by decide +kernel
theorem dX5_with_3 : decode cX5_with 3 = .ok (.lload_n 0, 1) := by decide +kernel
theorem dX5_with_4 : decode cX5_with 4 = .ok (.lmul, 1) := by decide +kernel
theorem dX5_with_5 : decode cX5_with 5 = .ok (.lload_n 2, 1) := by decide +kernel
theorem dX5_with_6 : decode cX5_with 6 = .ok (.ladd, 1) := by decide +kernel
theorem dX5_with_7 : decode cX5_with 7 = .ok (.lreturn, 1) := by decide +kernel
set_option maxRecDepth 20000 in
theorem ggX5_withStorm_X5_storm : GoodIn wsX5_withStorm wsX5_storm := goodIn_r _ [5, 6, 7, 8, 9, 10, 11, 12, 13, 4, 14, 15, 16, 17, 18, 19, 20, 21, 22, 23, 24, 25, 26, 27, 28, 29, 30, 31, 48, 49, 50, 51, 52, 53, 54, 55, 56, 57, 58, 59, 60, 61, 62, 63, 64] (by decide +kernel) (by decide +kernel)
set_option maxRecDepth 20000 in
theorem gX5_withStorm_X5_storm : GoodIn wsX5_withStorm (wsV RX5 210 RX5 yX5_storm wsX5_storm) := goodIn_app (goodIn_of _ (by decide +kernel)) ggX5_withStorm_X5_storm
set_option maxRecDepth 20000 in
theorem ggX5_withStorm_X5_with : GoodIn wsX5_withStorm wsX5_with := goodIn_r _ [34, 35] (by decide +kernel) (by decide +kernel)
set_option maxRecDepth 20000 in
theorem gX5_withStorm_X5_with : GoodIn wsX5_withStorm (va_wsS RX5 198 yX5_with wsX5_with) := goodIn_app (goodIn_of _ (by decide +kernel)) ggX5_withStorm_X5_with
set_option maxRecDepth 20000 in
theorem ggX5_withStorm_X5_divided : GoodIn wsX5_withStorm wsX5_divided := goodIn_r _ [39, 6, 10, 7, 40, 41, 11, 12, 13, 4, 14, 15, 42, 43, 44, 45, 46, 47, 23, 24, 25, 19, 26, 21, 16, 17, 18, 20, 22, 48, 49, 50, 51, 52, 53, 54, 55, 56, 57, 58, 59, 60, 61, 62, 63, 64] (by decide +kernel) (by decide +kernel)
set_option maxRecDepth 20000 in
theorem gX5_withStorm_X5_divided : GoodIn wsX5_withStorm (wsV RX5 213 RX5 yX5_divided wsX5_divided) := goodIn_app (goodIn_of _ (by decide +kernel)) ggX5_withStorm_X5_divided
theorem dX5_withStorm_0 : decode cX5_withStorm 0 = .ok (.lload_n 1, 1) := by decide +kernel
theorem dX5_withStorm_1 : decode cX5_withStorm 1 = .ok (.lstore 4, 2) := by decide +kernel
theorem dX5_withStorm_3 : decode cX5_withStorm 3 = .ok (.iconst 0, 1) := by decide +kernel
theorem dX5_withStorm_4 : decode cX5_withStorm 4 = .ok (.istore 6, 2) := by decide +kernel
theorem dX5_withStorm_6 : decode cX5_withStorm 6 = .ok (.iload 6, 2) := by decide +kernel
theorem dX5_withStorm_8 : decode cX5_withStorm 8 = .ok (.iconst 3, 1) := by decide +kernel
theorem dX5_withStorm_9 : decode cX5_withStorm 9 = .ok (.if_icmp .gt 24, 3) := by decide +kernel
theorem dX5_withStorm_12 : decode cX5_withStorm 12 = .ok (.lload 4, 2) := by decide +kernel
theorem dX5_withStorm_14 : decode cX5_withStorm 14 = .ok (.aload_n 0, 1) := by decide +kernel
theorem dX5_withStorm_15 : decode cX5_withStorm 15 = .ok (.iload_n 3, 1) := by decide +kernel
theorem dX5_withStorm_16 : decode cX5_withStorm 16 = .ok (.iload 6, 2) := by decide +kernel
theorem dX5_withStorm_18 : decode cX5_withStorm 18 = .ok (.invokevirtual 210, 3) := by decide +kernel
theorem dX5_withStorm_21 : decode cX5_withStorm 21 = .ok (.i2l, 1) := by decide +kernel
theorem dX5_withStorm_22 : decode cX5_withStorm 22 = .ok (.invokestatic 198, 3) := by decide +kernel
theorem dX5_withStorm_25 : decode cX5_withStorm 25 = .ok (.lstore 4, 2) := by decide +kernel
theorem dX5_withStorm_27 : decode cX5_withStorm 27 = .ok (.iinc 6 1, 3) := by decide +kernel
theorem dX5_withStorm_30 : decode cX5_withStorm 30 = .ok (.goto (-24), 3) := by decide +kernel
theorem dX5_withStorm_33 : decode cX5_withStorm 33 = .ok (.iconst 0, 1) := by decide +kernel
theorem dX5_withStorm_34 : decode cX5_withStorm 34 = .ok (.istore 6, 2) := by decide +kernel
theorem dX5_withStorm_36 : decode cX5_withStorm 36 = .ok (.iload 6, 2) := by decide +kernel
theorem dX5_withStorm_38 : decode cX5_withStorm 38 = .ok (.iconst 3, 1) := by decide +kernel
theorem dX5_withStorm_39 : decode cX5_withStorm 39 = .ok (.if_icmp .ge 27, 3) := by decide +kernel
theorem dX5_withStorm_42 : decode cX5_withStorm 42 = .ok (.lload 4, 2) := by decide +kernel
theorem dX5_withStorm_44 : decode cX5_withStorm 44 = .ok (.aload_n 0, 1) := by decide +kernel
theorem dX5_withStorm_45 : decode cX5_withStorm 45 = .ok (.iload_n 3, 1) := by decide +kernel
theorem dX5_withStorm_46 : decode cX5_withStorm 46 = .ok (.bipush 10, 2) := by decide +kernel
theorem dX5_withStorm_48 : decode cX5_withStorm 48 = .ok (.iload 6, 2) := by decide +kernel
theorem dX5_withStorm_50 : decode cX5_withStorm 50 = .ok (.iadd, 1) := by decide +kernel
theorem dX5_withStorm_51 : decode cX5_withStorm 51 = .ok (.invokevirtual 210, 3) := by decide +kernel
theorem dX5_withStorm_54 : decode cX5_withStorm 54 = .ok (.i2l, 1) := by decide +kernel
theorem dX5_withStorm_55 : decode cX5_withStorm 55 = .ok (.invokestatic 198, 3) := by decide +kernel
theorem dX5_withStorm_58 : decode cX5_withStorm 58 = .ok (.lstore 4, 2) := by decide +kernel
theorem dX5_withStorm_60 : decode cX5_withStorm 60 = .ok (.iinc 6 1, 3) := by decide +kernel
theorem dX5_withStorm_63 : decode cX5_withStorm 63 = .ok (.goto (-27), 3) := by decide +kernel
theorem dX5_withStorm_66 : decode cX5_withStorm 66 = .ok (.iconst 0, 1) := by decide +kernel
theorem dX5_withStorm_67 : decode cX5_withStorm 67 = .ok (.istore 6, 2) := by decide +kernel
theorem dX5_withStorm_69 : decode cX5_withStorm 69 = .ok (.iload 6, 2) := by decide +kernel
theorem dX5_withStorm_71 : decode cX5_withStorm 71 = .ok (.bipush 8, 2) := by decide +kernel
theorem dX5_withStorm_73 : decode cX5_withStorm 73 = .ok (.if_icmp .ge 27, 3) := by decide +kernel
theorem dX5_withStorm_76 : decode cX5_withStorm 76 = .ok (.lload 4, 2) := by decide +kernel
theorem dX5_withStorm_78 : decode cX5_withStorm 78 = .ok (.aload_n 0, 1) := by decide +kernel
theorem dX5_withStorm_79 : decode cX5_withStorm 79 = .ok (.iload_n 3, 1) := by decide +kernel
theorem dX5_withStorm_80 : decode cX5_withStorm 80 = .ok (.bipush 20, 2) := by decide +kernel
theorem dX5_withStorm_82 : decode cX5_withStorm 82 = .ok (.iload 6, 2) := by decide +kernel
theorem dX5_withStorm_84 : decode cX5_withStorm 84 = .ok (.iadd, 1) := by decide +kernel
theorem dX5_withStorm_85 : decode cX5_withStorm 85 = .ok (.invokevirtual 210, 3) := by decide +kernel
theorem dX5_withStorm_88 : decode cX5_withStorm 88 = .ok (.i2l, 1) := by decide +kernel
theorem dX5_withStorm_89 : decode cX5_withStorm 89 = .ok (.invokestatic 198, 3) := by decide +kernel
theorem dX5_withStorm_92 : decode cX5_withStorm 92 = .ok (.lstore 4, 2) := by decide +kernel
theorem dX5_withStorm_94 : decode cX5_withStorm 94 = .ok (.iinc 6 1, 3) := by decide +kernel
theorem dX5_withStorm_97 : decode cX5_withStorm 97 = .ok (.goto (-28), 3) := by decide +kernel
theorem dX5_withStorm_100 : decode cX5_withStorm 100 = .ok (.lload 4, 2) := by decide +kernel
theorem dX5_withStorm_102 : decode cX5_withStorm 102 = .ok (.aload_n 0, 1) := by decide +kernel
theorem dX5_withStorm_103 : decode cX5_withStorm 103 = .ok (.iload_n 3, 1) := by decide +kernel
theorem dX5_withStorm_104 : decode cX5_withStorm 104 = .ok (.iconst 0, 1) := by decide +kernel
theorem dX5_withStorm_105 : decode cX5_withStorm 105 = .ok (.invokevirtual 213, 3) := by decide +kernel
theorem dX5_withStorm_108 : decode cX5_withStorm 108 = .ok (.i2l, 1) := by decide +kernel
theorem dX5_withStorm_109 : decode cX5_withStorm 109 = .ok (.invokestatic 198, 3) := by decide +kernel
theorem dX5_withStorm_112 : decode cX5_withStorm 112 = .ok (.lstore 4, 2) := by decide +kernel
