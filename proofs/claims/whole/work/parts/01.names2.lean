theorem dX1_rainGoesOnWith_0 : decode cX1_rainGoesOnWith 0 = .ok (.iload_n 1, 1) := by decide +kernel
theorem dX1_rainGoesOnWith_1 : decode cX1_rainGoesOnWith 1 = .ok (.bipush 58, 2) := by decide +kernel
theorem dX1_rainGoesOnWith_3 : decode cX1_rainGoesOnWith 3 = .ok (.if_icmp .ne 24, 3) := by decide +kernel
theorem dX1_rainGoesOnWith_6 : decode cX1_rainGoesOnWith 6 = .ok (.aload_n 0, 1) := by decide +kernel
theorem dX1_rainGoesOnWith_7 : decode cX1_rainGoesOnWith 7 = .ok (.getfield 32, 3) := by decide +kernel
theorem dX1_rainGoesOnWith_10 : decode cX1_rainGoesOnWith 10 = .ok (.ifCond .eq 15, 3) := by decide +kernel
theorem dX1_rainGoesOnWith_13 : decode cX1_rainGoesOnWith 13 = .ok (.aload_n 0, 1) := by decide +kernel
theorem dX1_rainGoesOnWith_14 : decode cX1_rainGoesOnWith 14 = .ok (.iload_n 1, 1) := by decide +kernel
theorem dX1_rainGoesOnWith_15 : decode cX1_rainGoesOnWith 15 = .ok (.invokevirtual 54, 3) := by decide +kernel
theorem dX1_rainGoesOnWith_18 : decode cX1_rainGoesOnWith 18 = .ok (.ifCond .eq 7, 3) := by decide +kernel
theorem dX1_rainGoesOnWith_21 : decode cX1_rainGoesOnWith 21 = .ok (.iconst 1, 1) := by decide +kernel
theorem dX1_rainGoesOnWith_22 : decode cX1_rainGoesOnWith 22 = .ok (.goto 4, 3) := by decide +kernel
theorem dX1_rainGoesOnWith_25 : decode cX1_rainGoesOnWith 25 = .ok (.iconst 0, 1) := by decide +kernel
theorem dX1_rainGoesOnWith_26 : decode cX1_rainGoesOnWith 26 = .ok (.ireturn, 1) := by decide +kernel
theorem dX1_rainGoesOnWith_27 : decode cX1_rainGoesOnWith 27 = .ok (.iload_n 1, 1) := by decide +kernel
theorem dX1_rainGoesOnWith_28 : decode cX1_rainGoesOnWith 28 = .ok (.bipush 48, 2) := by decide +kernel
theorem dX1_rainGoesOnWith_30 : decode cX1_rainGoesOnWith 30 = .ok (.if_icmp .ne 15, 3) := by decide +kernel
theorem dX1_rainGoesOnWith_33 : decode cX1_rainGoesOnWith 33 = .ok (.aload_n 0, 1) := by decide +kernel
theorem dX1_rainGoesOnWith_34 : decode cX1_rainGoesOnWith 34 = .ok (.getfield 12, 3) := by decide +kernel
theorem dX1_rainGoesOnWith_37 : decode cX1_rainGoesOnWith 37 = .ok (.invokevirtual 61, 3) := by decide +kernel
theorem dX1_rainGoesOnWith_40 : decode cX1_rainGoesOnWith 40 = .ok (.ifCond .ne 5, 3) := by decide +kernel
theorem dX1_rainGoesOnWith_43 : decode cX1_rainGoesOnWith 43 = .ok (.iconst 0, 1) := by decide +kernel
theorem dX1_rainGoesOnWith_44 : decode cX1_rainGoesOnWith 44 = .ok (.ireturn, 1) := by decide +kernel
theorem dX1_rainGoesOnWith_45 : decode cX1_rainGoesOnWith 45 = .ok (.aload_n 0, 1) := by decide +kernel
theorem dX1_rainGoesOnWith_46 : decode cX1_rainGoesOnWith 46 = .ok (.aload_n 0, 1) := by decide +kernel
theorem dX1_rainGoesOnWith_47 : decode cX1_rainGoesOnWith 47 = .ok (.getfield 12, 3) := by decide +kernel
theorem dX1_rainGoesOnWith_50 : decode cX1_rainGoesOnWith 50 = .ok (.iload_n 1, 1) := by decide +kernel
theorem dX1_rainGoesOnWith_51 : decode cX1_rainGoesOnWith 51 = .ok (.iconst 3, 1) := by decide +kernel
theorem dX1_rainGoesOnWith_52 : decode cX1_rainGoesOnWith 52 = .ok (.iconst 5, 1) := by decide +kernel
theorem dX1_rainGoesOnWith_53 : decode cX1_rainGoesOnWith 53 = .ok (.invokevirtual 57, 3) := by decide +kernel
theorem dX1_rainGoesOnWith_56 : decode cX1_rainGoesOnWith 56 = .ok (.ireturn, 1) := by decide +kernel
set_option maxRecDepth 20000 in
theorem ggX1_takesLength_X5_isLength : GoodIn wsX1_takesLength wsX5_isLength := goodIn_r _ [5] (by decide +kernel) (by decide +kernel)
set_option maxRecDepth 20000 in
theorem gX1_takesLength_X5_isLength_n65 : GoodIn wsX1_takesLength (wsX5_isLength) := ggX1_takesLength_X5_isLength
theorem dX1_takesLength_0 : decode cX1_takesLength 0 = .ok (.aload_n 0, 1) := by decide +kernel
theorem dX1_takesLength_1 : decode cX1_takesLength 1 = .ok (.iload_n 1, 1) := by decide +kernel
theorem dX1_takesLength_2 : decode cX1_takesLength 2 = .ok (.putfield 39, 3) := by decide +kernel
theorem dX1_takesLength_5 : decode cX1_takesLength 5 = .ok (.aload_n 0, 1) := by decide +kernel
theorem dX1_takesLength_6 : decode cX1_takesLength 6 = .ok (.iconst 3, 1) := by decide +kernel
theorem dX1_takesLength_7 : decode cX1_takesLength 7 = .ok (.putfield 28, 3) := by decide +kernel
theorem dX1_takesLength_10 : decode cX1_takesLength 10 = .ok (.iload_n 1, 1) := by decide +kernel
theorem dX1_takesLength_11 : decode cX1_takesLength 11 = .ok (.invokestatic 65, 3) := by decide +kernel
theorem dX1_takesLength_14 : decode cX1_takesLength 14 = .ok (.ireturn, 1) := by decide +kernel
theorem dX1_takesColon_0 : decode cX1_takesColon 0 = .ok (.aload_n 0, 1) := by decide +kernel
theorem dX1_takesColon_1 : decode cX1_takesColon 1 = .ok (.iconst 4, 1) := by decide +kernel
theorem dX1_takesColon_2 : decode cX1_takesColon 2 = .ok (.putfield 28, 3) := by decide +kernel
theorem dX1_takesColon_5 : decode cX1_takesColon 5 = .ok (.aload_n 0, 1) := by decide +kernel
theorem dX1_takesColon_6 : decode cX1_takesColon 6 = .ok (.iconst 0, 1) := by decide +kernel
theorem dX1_takesColon_7 : decode cX1_takesColon 7 = .ok (.putfield 32, 3) := by decide +kernel
theorem dX1_takesColon_10 : decode cX1_takesColon 10 = .ok (.iload_n 1, 1) := by decide +kernel
theorem dX1_takesColon_11 : decode cX1_takesColon 11 = .ok (.bipush 58, 2) := by decide +kernel
theorem dX1_takesColon_13 : decode cX1_takesColon 13 = .ok (.if_icmp .ne 7, 3) := by decide +kernel
theorem dX1_takesColon_16 : decode cX1_takesColon 16 = .ok (.iconst 1, 1) := by decide +kernel
theorem dX1_takesColon_17 : decode cX1_takesColon 17 = .ok (.goto 4, 3) := by decide +kernel
theorem dX1_takesColon_20 : decode cX1_takesColon 20 = .ok (.iconst 0, 1) := by decide +kernel
theorem dX1_takesColon_21 : decode cX1_takesColon 21 = .ok (.ireturn, 1) := by decide +kernel
set_option maxRecDepth 20000 in
theorem ggX1_numbersGoOnWith_X2_size : GoodIn wsX1_numbersGoOnWith wsX2_size := goodIn_r _ [6, 7, 32, 33] (by decide +kernel) (by decide +kernel)
set_option maxRecDepth 20000 in
theorem gX1_numbersGoOnWith_X2_size : GoodIn wsX1_numbersGoOnWith (wsV RX1 61 RX2 yX2_size wsX2_size) := goodIn_app (goodIn_of _ (by decide +kernel)) ggX1_numbersGoOnWith_X2_size
set_option maxRecDepth 20000 in
theorem ggX1_numbersGoOnWith_X1_takesFigure : GoodIn wsX1_numbersGoOnWith wsX1_takesFigure := goodIn_r _ [12, 1, 13, 14, 15, 5, 16, 7, 17, 18, 19, 20, 21, 22, 23, 24, 25, 26, 27, 28, 29, 30, 31, 32, 33] (by decide +kernel) (by decide +kernel)
set_option maxRecDepth 20000 in
theorem gX1_numbersGoOnWith_X1_takesFigure : GoodIn wsX1_numbersGoOnWith (wsV RX1 68 RX1 yX1_takesFigure wsX1_takesFigure) := goodIn_app (goodIn_of _ (by decide +kernel)) ggX1_numbersGoOnWith_X1_takesFigure
theorem dX1_numbersGoOnWith_0 : decode cX1_numbersGoOnWith 0 = .ok (.iload_n 2, 1) := by decide +kernel
theorem dX1_numbersGoOnWith_1 : decode cX1_numbersGoOnWith 1 = .ok (.bipush 44, 2) := by decide +kernel
theorem dX1_numbersGoOnWith_3 : decode cX1_numbersGoOnWith 3 = .ok (.if_icmp .ne 33, 3) := by decide +kernel
theorem dX1_numbersGoOnWith_6 : decode cX1_numbersGoOnWith 6 = .ok (.aload_n 0, 1) := by decide +kernel
theorem dX1_numbersGoOnWith_7 : decode cX1_numbersGoOnWith 7 = .ok (.getfield 32, 3) := by decide +kernel
theorem dX1_numbersGoOnWith_10 : decode cX1_numbersGoOnWith 10 = .ok (.ifCond .eq 15, 3) := by decide +kernel
theorem dX1_numbersGoOnWith_13 : decode cX1_numbersGoOnWith 13 = .ok (.aload_n 1, 1) := by decide +kernel
theorem dX1_numbersGoOnWith_14 : decode cX1_numbersGoOnWith 14 = .ok (.invokevirtual 61, 3) := by decide +kernel
theorem dX1_numbersGoOnWith_17 : decode cX1_numbersGoOnWith 17 = .ok (.iload_n 3, 1) := by decide +kernel
theorem dX1_numbersGoOnWith_18 : decode cX1_numbersGoOnWith 18 = .ok (.if_icmp .ge 7, 3) := by decide +kernel
theorem dX1_numbersGoOnWith_21 : decode cX1_numbersGoOnWith 21 = .ok (.iconst 1, 1) := by decide +kernel
theorem dX1_numbersGoOnWith_22 : decode cX1_numbersGoOnWith 22 = .ok (.goto 4, 3) := by decide +kernel
theorem dX1_numbersGoOnWith_25 : decode cX1_numbersGoOnWith 25 = .ok (.iconst 0, 1) := by decide +kernel
theorem dX1_numbersGoOnWith_26 : decode cX1_numbersGoOnWith 26 = .ok (.istore 5, 2) := by decide +kernel
theorem dX1_numbersGoOnWith_28 : decode cX1_numbersGoOnWith 28 = .ok (.aload_n 0, 1) := by decide +kernel
theorem dX1_numbersGoOnWith_29 : decode cX1_numbersGoOnWith 29 = .ok (.iconst 0, 1) := by decide +kernel
theorem dX1_numbersGoOnWith_30 : decode cX1_numbersGoOnWith 30 = .ok (.putfield 32, 3) := by decide +kernel
theorem dX1_numbersGoOnWith_33 : decode cX1_numbersGoOnWith 33 = .ok (.iload 5, 2) := by decide +kernel
theorem dX1_numbersGoOnWith_35 : decode cX1_numbersGoOnWith 35 = .ok (.ireturn, 1) := by decide +kernel
theorem dX1_numbersGoOnWith_36 : decode cX1_numbersGoOnWith 36 = .ok (.iload_n 2, 1) := by decide +kernel
theorem dX1_numbersGoOnWith_37 : decode cX1_numbersGoOnWith 37 = .ok (.bipush 48, 2) := by decide +kernel
theorem dX1_numbersGoOnWith_39 : decode cX1_numbersGoOnWith 39 = .ok (.if_icmp .lt 9, 3) := by decide +kernel
theorem dX1_numbersGoOnWith_42 : decode cX1_numbersGoOnWith 42 = .ok (.iload_n 2, 1) := by decide +kernel
theorem dX1_numbersGoOnWith_43 : decode cX1_numbersGoOnWith 43 = .ok (.bipush 57, 2) := by decide +kernel
theorem dX1_numbersGoOnWith_45 : decode cX1_numbersGoOnWith 45 = .ok (.if_icmp .le 5, 3) := by decide +kernel
theorem dX1_numbersGoOnWith_48 : decode cX1_numbersGoOnWith 48 = .ok (.iconst 0, 1) := by decide +kernel
theorem dX1_numbersGoOnWith_49 : decode cX1_numbersGoOnWith 49 = .ok (.ireturn, 1) := by decide +kernel
theorem dX1_numbersGoOnWith_50 : decode cX1_numbersGoOnWith 50 = .ok (.aload_n 0, 1) := by decide +kernel
theorem dX1_numbersGoOnWith_51 : decode cX1_numbersGoOnWith 51 = .ok (.aload_n 1, 1) := by decide +kernel
theorem dX1_numbersGoOnWith_52 : decode cX1_numbersGoOnWith 52 = .ok (.iload_n 2, 1) := by decide +kernel
theorem dX1_numbersGoOnWith_53 : decode cX1_numbersGoOnWith 53 = .ok (.bipush 48, 2) := by decide +kernel
theorem dX1_numbersGoOnWith_55 : decode cX1_numbersGoOnWith 55 = .ok (.isub, 1) := by decide +kernel
theorem dX1_numbersGoOnWith_56 : decode cX1_numbersGoOnWith 56 = .ok (.iload 4, 2) := by decide +kernel
theorem dX1_numbersGoOnWith_58 : decode cX1_numbersGoOnWith 58 = .ok (.invokevirtual 68, 3) := by decide +kernel
theorem dX1_numbersGoOnWith_61 : decode cX1_numbersGoOnWith 61 = .ok (.ireturn, 1) := by decide +kernel
set_option maxRecDepth 20000 in
theorem ggX1_takesFigure_X2_last : GoodIn wsX1_takesFigure wsX2_last := goodIn_r _ [6, 7, 8, 23, 24] (by decide +kernel) (by decide +kernel)
set_option maxRecDepth 20000 in
theorem gX1_takesFigure_X2_last : GoodIn wsX1_takesFigure (wsV RX1 72 RX2 yX2_last wsX2_last) := goodIn_app (goodIn_of _ (by decide +kernel)) ggX1_takesFigure_X2_last
set_option maxRecDepth 20000 in
theorem ggX1_takesFigure_X2_setLast : GoodIn wsX1_takesFigure wsX2_setLast := goodIn_r _ [12, 7, 8, 23, 24] (by decide +kernel) (by decide +kernel)
set_option maxRecDepth 20000 in
theorem gX1_takesFigure_X2_setLast : GoodIn wsX1_takesFigure (wsV RX1 75 RX2 yX2_setLast wsX2_setLast) := goodIn_app (goodIn_of _ (by decide +kernel)) ggX1_takesFigure_X2_setLast
set_option maxRecDepth 20000 in
theorem ggX1_takesFigure_X2_add : GoodIn wsX1_takesFigure wsX2_add := goodIn_r _ [16, 7, 8, 23, 24] (by decide +kernel) (by decide +kernel)
set_option maxRecDepth 20000 in
theorem gX1_takesFigure_X2_add : GoodIn wsX1_takesFigure (wsV RX1 79 RX2 yX2_add wsX2_add) := goodIn_app (goodIn_of _ (by decide +kernel)) ggX1_takesFigure_X2_add
theorem dX1_takesFigure_0 : decode cX1_takesFigure 0 = .ok (.aload_n 0, 1) := by decide +kernel
theorem dX1_takesFigure_1 : decode cX1_takesFigure 1 = .ok (.getfield 32, 3) := by decide +kernel
theorem dX1_takesFigure_4 : decode cX1_takesFigure 4 = .ok (.ifCond .eq 10, 3) := by decide +kernel
theorem dX1_takesFigure_7 : decode cX1_takesFigure 7 = .ok (.aload_n 1, 1) := by decide +kernel
theorem dX1_takesFigure_8 : decode cX1_takesFigure 8 = .ok (.invokevirtual 72, 3) := by decide +kernel
theorem dX1_takesFigure_11 : decode cX1_takesFigure 11 = .ok (.goto 4, 3) := by decide +kernel
theorem dX1_takesFigure_14 : decode cX1_takesFigure 14 = .ok (.iconst 0, 1) := by decide +kernel
theorem dX1_takesFigure_15 : decode cX1_takesFigure 15 = .ok (.istore 4, 2) := by decide +kernel
theorem dX1_takesFigure_17 : decode cX1_takesFigure 17 = .ok (.iload 4, 2) := by decide +kernel
theorem dX1_takesFigure_19 : decode cX1_takesFigure 19 = .ok (.bipush 10, 2) := by decide +kernel
theorem dX1_takesFigure_21 : decode cX1_takesFigure 21 = .ok (.imul, 1) := by decide +kernel
theorem dX1_takesFigure_22 : decode cX1_takesFigure 22 = .ok (.iload_n 2, 1) := by decide +kernel
theorem dX1_takesFigure_23 : decode cX1_takesFigure 23 = .ok (.iadd, 1) := by decide +kernel
theorem dX1_takesFigure_24 : decode cX1_takesFigure 24 = .ok (.istore 5, 2) := by decide +kernel
theorem dX1_takesFigure_26 : decode cX1_takesFigure 26 = .ok (.aload_n 0, 1) := by decide +kernel
theorem dX1_takesFigure_27 : decode cX1_takesFigure 27 = .ok (.getfield 32, 3) := by decide +kernel
theorem dX1_takesFigure_30 : decode cX1_takesFigure 30 = .ok (.ifCond .eq 12, 3) := by decide +kernel
theorem dX1_takesFigure_33 : decode cX1_takesFigure 33 = .ok (.iload 4, 2) := by decide +kernel
theorem dX1_takesFigure_35 : decode cX1_takesFigure 35 = .ok (.ifCond .ne 7, 3) := by decide +kernel
theorem dX1_takesFigure_38 : decode cX1_takesFigure 38 = .ok (.iconst 1, 1) := by decide +kernel
theorem dX1_takesFigure_39 : decode cX1_takesFigure 39 = .ok (.goto 4, 3) := by decide +kernel
theorem dX1_takesFigure_42 : decode cX1_takesFigure 42 = .ok (.iconst 0, 1) := by decide +kernel
theorem dX1_takesFigure_43 : decode cX1_takesFigure 43 = .ok (.istore 6, 2) := by decide +kernel
theorem dX1_takesFigure_45 : decode cX1_takesFigure 45 = .ok (.iload 6, 2) := by decide +kernel
theorem dX1_takesFigure_47 : decode cX1_takesFigure 47 = .ok (.ifCond .ne 9, 3) := by decide +kernel
theorem dX1_takesFigure_50 : decode cX1_takesFigure 50 = .ok (.iload 5, 2) := by decide +kernel
theorem dX1_takesFigure_52 : decode cX1_takesFigure 52 = .ok (.iload_n 3, 1) := by decide +kernel
theorem dX1_takesFigure_53 : decode cX1_takesFigure 53 = .ok (.if_icmp .le 5, 3) := by decide +kernel
theorem dX1_takesFigure_56 : decode cX1_takesFigure 56 = .ok (.iconst 0, 1) := by decide +kernel
theorem dX1_takesFigure_57 : decode cX1_takesFigure 57 = .ok (.ireturn, 1) := by decide +kernel
theorem dX1_takesFigure_58 : decode cX1_takesFigure 58 = .ok (.aload_n 0, 1) := by decide +kernel
theorem dX1_takesFigure_59 : decode cX1_takesFigure 59 = .ok (.getfield 32, 3) := by decide +kernel
theorem dX1_takesFigure_62 : decode cX1_takesFigure 62 = .ok (.ifCond .eq 12, 3) := by decide +kernel
theorem dX1_takesFigure_65 : decode cX1_takesFigure 65 = .ok (.aload_n 1, 1) := by decide +kernel
theorem dX1_takesFigure_66 : decode cX1_takesFigure 66 = .ok (.iload 5, 2) := by decide +kernel
theorem dX1_takesFigure_68 : decode cX1_takesFigure 68 = .ok (.invokevirtual 75, 3) := by decide +kernel
theorem dX1_takesFigure_71 : decode cX1_takesFigure 71 = .ok (.goto 9, 3) := by decide +kernel
theorem dX1_takesFigure_74 : decode cX1_takesFigure 74 = .ok (.aload_n 1, 1) := by decide +kernel
theorem dX1_takesFigure_75 : decode cX1_takesFigure 75 = .ok (.iload 5, 2) := by decide +kernel
theorem dX1_takesFigure_77 : decode cX1_takesFigure 77 = .ok (.invokevirtual 79, 3) := by decide +kernel
theorem dX1_takesFigure_80 : decode cX1_takesFigure 80 = .ok (.aload_n 0, 1) := by decide +kernel
theorem dX1_takesFigure_81 : decode cX1_takesFigure 81 = .ok (.iconst 1, 1) := by decide +kernel
theorem dX1_takesFigure_82 : decode cX1_takesFigure 82 = .ok (.putfield 32, 3) := by decide +kernel
theorem dX1_takesFigure_85 : decode cX1_takesFigure 85 = .ok (.iconst 1, 1) := by decide +kernel
theorem dX1_takesFigure_86 : decode cX1_takesFigure 86 = .ok (.ireturn, 1) := by decide +kernel
theorem dX2_init_0 : decode cX2_init 0 = .ok (.aload_n 0, 1) := by decide +kernel
theorem dX2_init_1 : decode cX2_init 1 = .ok (.invokespecial 3, 3) := by decide +kernel
theorem dX2_init_4 : decode cX2_init 4 = .ok (.aload_n 0, 1) := by decide +kernel
theorem dX2_init_5 : decode cX2_init 5 = .ok (.bipush 8, 2) := by decide +kernel
theorem dX2_init_7 : decode cX2_init 7 = .ok (.newarray .int, 2) := by decide +kernel
theorem dX2_init_9 : decode cX2_init 9 = .ok (.putfield 9, 3) := by decide +kernel
theorem dX2_init_12 : decode cX2_init 12 = .ok (.return_, 1) := by decide +kernel
theorem dX2_size_0 : decode cX2_size 0 = .ok (.aload_n 0, 1) := by decide +kernel
theorem dX2_size_1 : decode cX2_size 1 = .ok (.getfield 15, 3) := by decide +kernel
theorem dX2_size_4 : decode cX2_size 4 = .ok (.ireturn, 1) := by decide +kernel
theorem dX2_at_0 : decode cX2_at 0 = .ok (.iload_n 1, 1) := by decide +kernel
theorem dX2_at_1 : decode cX2_at 1 = .ok (.ifCond .lt 26, 3) := by decide +kernel
theorem dX2_at_4 : decode cX2_at 4 = .ok (.iload_n 1, 1) := by decide +kernel
theorem dX2_at_5 : decode cX2_at 5 = .ok (.aload_n 0, 1) := by decide +kernel
theorem dX2_at_6 : decode cX2_at 6 = .ok (.getfield 15, 3) := by decide +kernel
theorem dX2_at_9 : decode cX2_at 9 = .ok (.if_icmp .ge 18, 3) := by decide +kernel
theorem dX2_at_12 : decode cX2_at 12 = .ok (.iload_n 1, 1) := by decide +kernel
theorem dX2_at_13 : decode cX2_at 13 = .ok (.bipush 8, 2) := by decide +kernel
theorem dX2_at_15 : decode cX2_at 15 = .ok (.if_icmp .ge 12, 3) := by decide +kernel
theorem dX2_at_18 : decode cX2_at 18 = .ok (.aload_n 0, 1) := by decide +kernel
theorem dX2_at_19 : decode cX2_at 19 = .ok (.getfield 9, 3) := by decide +kernel
theorem dX2_at_22 : decode cX2_at 22 = .ok (.iload_n 1, 1) := by decide +kernel
theorem dX2_at_23 : decode cX2_at 23 = .ok (.iaload, 1) := by decide +kernel
theorem dX2_at_24 : decode cX2_at 24 = .ok (.goto 4, 3) := by decide +kernel
theorem dX2_at_27 : decode cX2_at 27 = .ok (.iconst 0, 1) := by decide +kernel
theorem dX2_at_28 : decode cX2_at 28 = .ok (.ireturn, 1) := by decide +kernel
theorem dX2_last_0 : decode cX2_last 0 = .ok (.aload_n 0, 1) := by decide +kernel
theorem dX2_last_1 : decode cX2_last 1 = .ok (.getfield 15, 3) := by decide +kernel
theorem dX2_last_4 : decode cX2_last 4 = .ok (.ifCond .le 26, 3) := by decide +kernel
theorem dX2_last_7 : decode cX2_last 7 = .ok (.aload_n 0, 1) := by decide +kernel
theorem dX2_last_8 : decode cX2_last 8 = .ok (.getfield 15, 3) := by decide +kernel
theorem dX2_last_11 : decode cX2_last 11 = .ok (.bipush 8, 2) := by decide +kernel
theorem dX2_last_13 : decode cX2_last 13 = .ok (.if_icmp .gt 17, 3) := by decide +kernel
theorem dX2_last_16 : decode cX2_last 16 = .ok (.aload_n 0, 1) := by decide +kernel
theorem dX2_last_17 : decode cX2_last 17 = .ok (.getfield 9, 3) := by decide +kernel
theorem dX2_last_20 : decode cX2_last 20 = .ok (.aload_n 0, 1) := by decide +kernel
theorem dX2_last_21 : decode cX2_last 21 = .ok (.getfield 15, 3) := by decide +kernel
theorem dX2_last_24 : decode cX2_last 24 = .ok (.iconst 1, 1) := by decide +kernel
theorem dX2_last_25 : decode cX2_last 25 = .ok (.isub, 1) := by decide +kernel
theorem dX2_last_26 : decode cX2_last 26 = .ok (.iaload, 1) := by decide +kernel
theorem dX2_last_27 : decode cX2_last 27 = .ok (.goto 4, 3) := by decide +kernel
theorem dX2_last_30 : decode cX2_last 30 = .ok (.iconst 0, 1) := by decide +kernel
theorem dX2_last_31 : decode cX2_last 31 = .ok (.ireturn, 1) := by decide +kernel
set_option maxRecDepth 20000 in
theorem ggX2_total_X2_at : GoodIn wsX2_total wsX2_at := goodIn_r _ [5, 6, 7, 8, 9] (by decide +kernel) (by decide +kernel)
set_option maxRecDepth 20000 in
theorem gX2_total_X2_at : GoodIn wsX2_total (wsV RX2 19 RX2 yX2_at wsX2_at) := goodIn_app (goodIn_of _ (by decide +kernel)) ggX2_total_X2_at
theorem dX2_total_0 : decode cX2_total 0 = .ok (.iconst 0, 1) := by decide +kernel
theorem dX2_total_1 : decode cX2_total 1 = .ok (.istore_n 1, 1) := by decide +kernel
theorem dX2_total_2 : decode cX2_total 2 = .ok (.iconst 0, 1) := by decide +kernel
theorem dX2_total_3 : decode cX2_total 3 = .ok (.istore_n 2, 1) := by decide +kernel
theorem dX2_total_4 : decode cX2_total 4 = .ok (.iload_n 2, 1) := by decide +kernel
theorem dX2_total_5 : decode cX2_total 5 = .ok (.bipush 8, 2) := by decide +kernel
theorem dX2_total_7 : decode cX2_total 7 = .ok (.if_icmp .ge 17, 3) := by decide +kernel
theorem dX2_total_10 : decode cX2_total 10 = .ok (.iload_n 1, 1) := by decide +kernel
theorem dX2_total_11 : decode cX2_total 11 = .ok (.aload_n 0, 1) := by decide +kernel
theorem dX2_total_12 : decode cX2_total 12 = .ok (.iload_n 2, 1) := by decide +kernel
theorem dX2_total_13 : decode cX2_total 13 = .ok (.invokevirtual 19, 3) := by decide +kernel
theorem dX2_total_16 : decode cX2_total 16 = .ok (.iadd, 1) := by decide +kernel
theorem dX2_total_17 : decode cX2_total 17 = .ok (.istore_n 1, 1) := by decide +kernel
theorem dX2_total_18 : decode cX2_total 18 = .ok (.iinc 2 1, 3) := by decide +kernel
theorem dX2_total_21 : decode cX2_total 21 = .ok (.goto (-17), 3) := by decide +kernel
theorem dX2_total_24 : decode cX2_total 24 = .ok (.iload_n 1, 1) := by decide +kernel
theorem dX2_total_25 : decode cX2_total 25 = .ok (.ireturn, 1) := by decide +kernel
theorem dX2_clear_0 : decode cX2_clear 0 = .ok (.aload_n 0, 1) := by decide +kernel
theorem dX2_clear_1 : decode cX2_clear 1 = .ok (.iconst 0, 1) := by decide +kernel
theorem dX2_clear_2 : decode cX2_clear 2 = .ok (.putfield 15, 3) := by decide +kernel
theorem dX2_clear_5 : decode cX2_clear 5 = .ok (.return_, 1) := by decide +kernel
theorem dX2_add_0 : decode cX2_add 0 = .ok (.aload_n 0, 1) := by decide +kernel
theorem dX2_add_1 : decode cX2_add 1 = .ok (.getfield 15, 3) := by decide +kernel
theorem dX2_add_4 : decode cX2_add 4 = .ok (.bipush 8, 2) := by decide +kernel
theorem dX2_add_6 : decode cX2_add 6 = .ok (.if_icmp .ge 23, 3) := by decide +kernel
theorem dX2_add_9 : decode cX2_add 9 = .ok (.aload_n 0, 1) := by decide +kernel
theorem dX2_add_10 : decode cX2_add 10 = .ok (.getfield 9, 3) := by decide +kernel
theorem dX2_add_13 : decode cX2_add 13 = .ok (.aload_n 0, 1) := by decide +kernel
theorem dX2_add_14 : decode cX2_add 14 = .ok (.getfield 15, 3) := by decide +kernel
theorem dX2_add_17 : decode cX2_add 17 = .ok (.iload_n 1, 1) := by decide +kernel
theorem dX2_add_18 : decode cX2_add 18 = .ok (.iastore, 1) := by decide +kernel
theorem dX2_add_19 : decode cX2_add 19 = .ok (.aload_n 0, 1) := by decide +kernel
theorem dX2_add_20 : decode cX2_add 20 = .ok (.dup, 1) := by decide +kernel
theorem dX2_add_21 : decode cX2_add 21 = .ok (.getfield 15, 3) := by decide +kernel
theorem dX2_add_24 : decode cX2_add 24 = .ok (.iconst 1, 1) := by decide +kernel
theorem dX2_add_25 : decode cX2_add 25 = .ok (.iadd, 1) := by decide +kernel
theorem dX2_add_26 : decode cX2_add 26 = .ok (.putfield 15, 3) := by decide +kernel
theorem dX2_add_29 : decode cX2_add 29 = .ok (.return_, 1) := by decide +kernel
theorem dX2_setLast_0 : decode cX2_setLast 0 = .ok (.aload_n 0, 1) := by decide +kernel
theorem dX2_setLast_1 : decode cX2_setLast 1 = .ok (.getfield 15, 3) := by decide +kernel
theorem dX2_setLast_4 : decode cX2_setLast 4 = .ok (.ifCond .le 24, 3) := by decide +kernel
theorem dX2_setLast_7 : decode cX2_setLast 7 = .ok (.aload_n 0, 1) := by decide +kernel
theorem dX2_setLast_8 : decode cX2_setLast 8 = .ok (.getfield 15, 3) := by decide +kernel
theorem dX2_setLast_11 : decode cX2_setLast 11 = .ok (.bipush 8, 2) := by decide +kernel
theorem dX2_setLast_13 : decode cX2_setLast 13 = .ok (.if_icmp .gt 15, 3) := by decide +kernel
theorem dX2_setLast_16 : decode cX2_setLast 16 = .ok (.aload_n 0, 1) := by decide +kernel
theorem dX2_setLast_17 : decode cX2_setLast 17 = .ok (.getfield 9, 3) := by decide +kernel
theorem dX2_setLast_20 : decode cX2_setLast 20 = .ok (.aload_n 0, 1) := by decide +kernel
theorem dX2_setLast_21 : decode cX2_setLast 21 = .ok (.getfield 15, 3) := by decide +kernel
theorem dX2_setLast_24 : decode cX2_setLast 24 = .ok (.iconst 1, 1) := by decide +kernel
theorem dX2_setLast_25 : decode cX2_setLast 25 = .ok (.isub, 1) := by decide +kernel
theorem dX2_setLast_26 : decode cX2_setLast 26 = .ok (.iload_n 1, 1) := by decide +kernel
theorem dX2_setLast_27 : decode cX2_setLast 27 = .ok (.iastore, 1) := by decide +kernel
theorem dX2_setLast_28 : decode cX2_setLast 28 = .ok (.return_, 1) := by decide +kernel
set_option maxRecDepth 20000 in
theorem ggX2_become_X2_at : GoodIn wsX2_become wsX2_at := goodIn_r _ [7, 1, 2, 8, 9] (by decide +kernel) (by decide +kernel)
set_option maxRecDepth 20000 in
theorem gX2_become_X2_at : GoodIn wsX2_become (wsV RX2 19 RX2 yX2_at wsX2_at) := goodIn_app (goodIn_of _ (by decide +kernel)) ggX2_become_X2_at
theorem dX2_become_0 : decode cX2_become 0 = .ok (.aload_n 0, 1) := by decide +kernel
theorem dX2_become_1 : decode cX2_become 1 = .ok (.aload_n 1, 1) := by decide +kernel
theorem dX2_become_2 : decode cX2_become 2 = .ok (.getfield 15, 3) := by decide +kernel
theorem dX2_become_5 : decode cX2_become 5 = .ok (.putfield 15, 3) := by decide +kernel
theorem dX2_become_8 : decode cX2_become 8 = .ok (.iconst 0, 1) := by decide +kernel
theorem dX2_become_9 : decode cX2_become 9 = .ok (.istore_n 2, 1) := by decide +kernel
theorem dX2_become_10 : decode cX2_become 10 = .ok (.iload_n 2, 1) := by decide +kernel
theorem dX2_become_11 : decode cX2_become 11 = .ok (.bipush 8, 2) := by decide +kernel
theorem dX2_become_13 : decode cX2_become 13 = .ok (.if_icmp .ge 20, 3) := by decide +kernel
theorem dX2_become_16 : decode cX2_become 16 = .ok (.aload_n 0, 1) := by decide +kernel
theorem dX2_become_17 : decode cX2_become 17 = .ok (.getfield 9, 3) := by decide +kernel
theorem dX2_become_20 : decode cX2_become 20 = .ok (.iload_n 2, 1) := by decide +kernel
theorem dX2_become_21 : decode cX2_become 21 = .ok (.aload_n 1, 1) := by decide +kernel
theorem dX2_become_22 : decode cX2_become 22 = .ok (.iload_n 2, 1) := by decide +kernel
theorem dX2_become_23 : decode cX2_become 23 = .ok (.invokevirtual 19, 3) := by decide +kernel
theorem dX2_become_26 : decode cX2_become 26 = .ok (.iastore, 1) := by decide +kernel
theorem dX2_become_27 : decode cX2_become 27 = .ok (.iinc 2 1, 3) := by decide +kernel
theorem dX2_become_30 : decode cX2_become 30 = .ok (.goto (-20), 3) := by decide +kernel
theorem dX2_become_33 : decode cX2_become 33 = .ok (.return_, 1) := by decide +kernel
set_option maxRecDepth 20000 in
theorem ggX3_init_X2_init : GoodIn wsX3_init wsX2_init := goodIn_r _ [11, 12, 2, 3, 13, 14, 15, 16] (by decide +kernel) (by decide +kernel)
set_option maxRecDepth 20000 in
theorem gX3_init_X2_init_n11 : GoodIn wsX3_init (wsX2_init) := ggX3_init_X2_init
theorem dX3_init_0 : decode cX3_init 0 = .ok (.aload_n 0, 1) := by decide +kernel
theorem dX3_init_1 : decode cX3_init 1 = .ok (.invokespecial 3, 3) := by decide +kernel
theorem dX3_init_4 : decode cX3_init 4 = .ok (.aload_n 0, 1) := by decide +kernel
theorem dX3_init_5 : decode cX3_init 5 = .ok (.new 9, 3) := by decide +kernel
theorem dX3_init_8 : decode cX3_init 8 = .ok (.dup, 1) := by decide +kernel
theorem dX3_init_9 : decode cX3_init 9 = .ok (.invokespecial 11, 3) := by decide +kernel
theorem dX3_init_12 : decode cX3_init 12 = .ok (.putfield 12, 3) := by decide +kernel
theorem dX3_init_15 : decode cX3_init 15 = .ok (.aload_n 0, 1) := by decide +kernel
theorem dX3_init_16 : decode cX3_init 16 = .ok (.new 9, 3) := by decide +kernel
theorem dX3_init_19 : decode cX3_init 19 = .ok (.dup, 1) := by decide +kernel
theorem dX3_init_20 : decode cX3_init 20 = .ok (.invokespecial 11, 3) := by decide +kernel
theorem dX3_init_23 : decode cX3_init 23 = .ok (.putfield 18, 3) := by decide +kernel
theorem dX3_init_26 : decode cX3_init 26 = .ok (.aload_n 0, 1) := by decide +kernel
theorem dX3_init_27 : decode cX3_init 27 = .ok (.new 9, 3) := by decide +kernel
theorem dX3_init_30 : decode cX3_init 30 = .ok (.dup, 1) := by decide +kernel
theorem dX3_init_31 : decode cX3_init 31 = .ok (.invokespecial 11, 3) := by decide +kernel
theorem dX3_init_34 : decode cX3_init 34 = .ok (.putfield 21, 3) := by decide +kernel
theorem dX3_init_37 : decode cX3_init 37 = .ok (.return_, 1) := by decide +kernel
theorem dX3_goesEvenly_0 : decode cX3_goesEvenly 0 = .ok (.aload_n 0, 1) := by decide +kernel
theorem dX3_goesEvenly_1 : decode cX3_goesEvenly 1 = .ok (.getfield 24, 3) := by decide +kernel
theorem dX3_goesEvenly_4 : decode cX3_goesEvenly 4 = .ok (.ireturn, 1) := by decide +kernel
set_option maxRecDepth 20000 in
theorem ggX3_become_X2_become : GoodIn wsX3_become wsX2_become := goodIn_r _ [7, 8, 9, 10, 11, 12, 6, 13, 42, 43] (by decide +kernel) (by decide +kernel)
set_option maxRecDepth 20000 in
theorem gX3_become_X2_become : GoodIn wsX3_become (wsV RX3 28 RX2 yX2_become wsX2_become) := goodIn_app (goodIn_of _ (by decide +kernel)) ggX3_become_X2_become
set_option maxRecDepth 20000 in
theorem ggX3_become_X3_divide : GoodIn wsX3_become wsX3_divide := goodIn_r _ [18, 19, 2, 1, 20, 21, 22, 23, 6, 24, 8, 25, 26, 27, 28, 29, 11, 12, 13, 9, 30, 31, 32, 17, 33, 34, 35, 36, 37, 38, 39, 40, 41, 42, 43] (by decide +kernel) (by decide +kernel)
set_option maxRecDepth 20000 in
theorem gX3_become_X3_divide : GoodIn wsX3_become (wsV RX3 32 RX3 yX3_divide wsX3_divide) := goodIn_app (goodIn_of _ (by decide +kernel)) ggX3_become_X3_divide
theorem dX3_become_0 : decode cX3_become 0 = .ok (.aload_n 0, 1) := by decide +kernel
theorem dX3_become_1 : decode cX3_become 1 = .ok (.getfield 12, 3) := by decide +kernel
theorem dX3_become_4 : decode cX3_become 4 = .ok (.aload_n 1, 1) := by decide +kernel
theorem dX3_become_5 : decode cX3_become 5 = .ok (.invokevirtual 28, 3) := by decide +kernel
theorem dX3_become_8 : decode cX3_become 8 = .ok (.aload_n 0, 1) := by decide +kernel
theorem dX3_become_9 : decode cX3_become 9 = .ok (.getfield 18, 3) := by decide +kernel
theorem dX3_become_12 : decode cX3_become 12 = .ok (.aload_n 2, 1) := by decide +kernel
theorem dX3_become_13 : decode cX3_become 13 = .ok (.invokevirtual 28, 3) := by decide +kernel
theorem dX3_become_16 : decode cX3_become 16 = .ok (.aload_n 0, 1) := by decide +kernel
theorem dX3_become_17 : decode cX3_become 17 = .ok (.invokevirtual 32, 3) := by decide +kernel
theorem dX3_become_20 : decode cX3_become 20 = .ok (.return_, 1) := by decide +kernel
set_option maxRecDepth 20000 in
theorem ggX3_rainTimes_X2_at : GoodIn wsX3_rainTimes wsX2_at := goodIn_r _ [6, 7, 8, 13, 14] (by decide +kernel) (by decide +kernel)
set_option maxRecDepth 20000 in
theorem gX3_rainTimes_X2_at : GoodIn wsX3_rainTimes (wsV RX3 35 RX2 yX2_at wsX2_at) := goodIn_app (goodIn_of _ (by decide +kernel)) ggX3_rainTimes_X2_at
theorem dX3_rainTimes_0 : decode cX3_rainTimes 0 = .ok (.iconst 0, 1) := by decide +kernel
theorem dX3_rainTimes_1 : decode cX3_rainTimes 1 = .ok (.istore_n 3, 1) := by decide +kernel
theorem dX3_rainTimes_2 : decode cX3_rainTimes 2 = .ok (.iconst 0, 1) := by decide +kernel
theorem dX3_rainTimes_3 : decode cX3_rainTimes 3 = .ok (.istore 4, 2) := by decide +kernel
theorem dX3_rainTimes_5 : decode cX3_rainTimes 5 = .ok (.iload 4, 2) := by decide +kernel
theorem dX3_rainTimes_7 : decode cX3_rainTimes 7 = .ok (.iconst 3, 1) := by decide +kernel
theorem dX3_rainTimes_8 : decode cX3_rainTimes 8 = .ok (.if_icmp .ge 30, 3) := by decide +kernel
theorem dX3_rainTimes_11 : decode cX3_rainTimes 11 = .ok (.iload_n 3, 1) := by decide +kernel
theorem dX3_rainTimes_12 : decode cX3_rainTimes 12 = .ok (.aload_n 0, 1) := by decide +kernel
theorem dX3_rainTimes_13 : decode cX3_rainTimes 13 = .ok (.getfield 12, 3) := by decide +kernel
theorem dX3_rainTimes_16 : decode cX3_rainTimes 16 = .ok (.iload 4, 2) := by decide +kernel
theorem dX3_rainTimes_18 : decode cX3_rainTimes 18 = .ok (.invokevirtual 35, 3) := by decide +kernel
theorem dX3_rainTimes_21 : decode cX3_rainTimes 21 = .ok (.aload_n 1, 1) := by decide +kernel
theorem dX3_rainTimes_22 : decode cX3_rainTimes 22 = .ok (.iload_n 2, 1) := by decide +kernel
theorem dX3_rainTimes_23 : decode cX3_rainTimes 23 = .ok (.iload 4, 2) := by decide +kernel
theorem dX3_rainTimes_25 : decode cX3_rainTimes 25 = .ok (.isub, 1) := by decide +kernel
theorem dX3_rainTimes_26 : decode cX3_rainTimes 26 = .ok (.invokevirtual 35, 3) := by decide +kernel
theorem dX3_rainTimes_29 : decode cX3_rainTimes 29 = .ok (.imul, 1) := by decide +kernel
theorem dX3_rainTimes_30 : decode cX3_rainTimes 30 = .ok (.iadd, 1) := by decide +kernel
theorem dX3_rainTimes_31 : decode cX3_rainTimes 31 = .ok (.istore_n 3, 1) := by decide +kernel
theorem dX3_rainTimes_32 : decode cX3_rainTimes 32 = .ok (.iinc 4 1, 3) := by decide +kernel
theorem dX3_rainTimes_35 : decode cX3_rainTimes 35 = .ok (.goto (-30), 3) := by decide +kernel
theorem dX3_rainTimes_38 : decode cX3_rainTimes 38 = .ok (.iload_n 3, 1) := by decide +kernel
theorem dX3_rainTimes_39 : decode cX3_rainTimes 39 = .ok (.ireturn, 1) := by decide +kernel
set_option maxRecDepth 20000 in
theorem ggX3_squaresMissed_X3_rainTimes : GoodIn wsX3_squaresMissed wsX3_rainTimes := goodIn_r _ [6, 7, 8, 9, 10, 11, 12, 13, 14, 15, 16, 17, 18, 19, 20] (by decide +kernel) (by decide +kernel)
set_option maxRecDepth 20000 in
theorem gX3_squaresMissed_X3_rainTimes : GoodIn wsX3_squaresMissed (wsV RX3 39 RX3 yX3_rainTimes wsX3_rainTimes) := goodIn_app (goodIn_of _ (by decide +kernel)) ggX3_squaresMissed_X3_rainTimes
set_option maxRecDepth 20000 in
theorem ggX3_squaresMissed_X2_at : GoodIn wsX3_squaresMissed wsX2_at := goodIn_r _ [12, 13, 14, 19, 20] (by decide +kernel) (by decide +kernel)
set_option maxRecDepth 20000 in
theorem gX3_squaresMissed_X2_at : GoodIn wsX3_squaresMissed (wsV RX3 35 RX2 yX2_at wsX2_at) := goodIn_app (goodIn_of _ (by decide +kernel)) ggX3_squaresMissed_X2_at
theorem dX3_squaresMissed_0 : decode cX3_squaresMissed 0 = .ok (.iconst 0, 1) := by decide +kernel
theorem dX3_squaresMissed_1 : decode cX3_squaresMissed 1 = .ok (.istore_n 2, 1) := by decide +kernel
theorem dX3_squaresMissed_2 : decode cX3_squaresMissed 2 = .ok (.iconst 0, 1) := by decide +kernel
theorem dX3_squaresMissed_3 : decode cX3_squaresMissed 3 = .ok (.istore_n 3, 1) := by decide +kernel
theorem dX3_squaresMissed_4 : decode cX3_squaresMissed 4 = .ok (.iload_n 3, 1) := by decide +kernel
theorem dX3_squaresMissed_5 : decode cX3_squaresMissed 5 = .ok (.bipush 20, 2) := by decide +kernel
theorem dX3_squaresMissed_7 : decode cX3_squaresMissed 7 = .ok (.if_icmp .gt 34, 3) := by decide +kernel
theorem dX3_squaresMissed_10 : decode cX3_squaresMissed 10 = .ok (.aload_n 0, 1) := by decide +kernel
theorem dX3_squaresMissed_11 : decode cX3_squaresMissed 11 = .ok (.aload_n 1, 1) := by decide +kernel
theorem dX3_squaresMissed_12 : decode cX3_squaresMissed 12 = .ok (.iload_n 3, 1) := by decide +kernel
theorem dX3_squaresMissed_13 : decode cX3_squaresMissed 13 = .ok (.invokevirtual 39, 3) := by decide +kernel
theorem dX3_squaresMissed_16 : decode cX3_squaresMissed 16 = .ok (.aload_n 0, 1) := by decide +kernel
theorem dX3_squaresMissed_17 : decode cX3_squaresMissed 17 = .ok (.getfield 18, 3) := by decide +kernel
theorem dX3_squaresMissed_20 : decode cX3_squaresMissed 20 = .ok (.iload_n 3, 1) := by decide +kernel
theorem dX3_squaresMissed_21 : decode cX3_squaresMissed 21 = .ok (.invokevirtual 35, 3) := by decide +kernel
theorem dX3_squaresMissed_24 : decode cX3_squaresMissed 24 = .ok (.isub, 1) := by decide +kernel
theorem dX3_squaresMissed_25 : decode cX3_squaresMissed 25 = .ok (.istore 4, 2) := by decide +kernel
theorem dX3_squaresMissed_27 : decode cX3_squaresMissed 27 = .ok (.iload_n 2, 1) := by decide +kernel
theorem dX3_squaresMissed_28 : decode cX3_squaresMissed 28 = .ok (.iload 4, 2) := by decide +kernel
theorem dX3_squaresMissed_30 : decode cX3_squaresMissed 30 = .ok (.iload 4, 2) := by decide +kernel
theorem dX3_squaresMissed_32 : decode cX3_squaresMissed 32 = .ok (.imul, 1) := by decide +kernel
theorem dX3_squaresMissed_33 : decode cX3_squaresMissed 33 = .ok (.iadd, 1) := by decide +kernel
theorem dX3_squaresMissed_34 : decode cX3_squaresMissed 34 = .ok (.istore_n 2, 1) := by decide +kernel
theorem dX3_squaresMissed_35 : decode cX3_squaresMissed 35 = .ok (.iinc 3 1, 3) := by decide +kernel
theorem dX3_squaresMissed_38 : decode cX3_squaresMissed 38 = .ok (.goto (-34), 3) := by decide +kernel
theorem dX3_squaresMissed_41 : decode cX3_squaresMissed 41 = .ok (.iload_n 2, 1) := by decide +kernel
theorem dX3_squaresMissed_42 : decode cX3_squaresMissed 42 = .ok (.ireturn, 1) := by decide +kernel
set_option maxRecDepth 20000 in
theorem ggX3_divide_X2_clear : GoodIn wsX3_divide wsX2_clear := goodIn_r _ [9, 10, 33, 34] (by decide +kernel) (by decide +kernel)
set_option maxRecDepth 20000 in
theorem gX3_divide_X2_clear : GoodIn wsX3_divide (wsV RX3 43 RX2 yX2_clear wsX2_clear) := goodIn_app (goodIn_of _ (by decide +kernel)) ggX3_divide_X2_clear
set_option maxRecDepth 20000 in
theorem ggX3_divide_X2_size : GoodIn wsX3_divide wsX2_size := goodIn_r _ [14, 10, 33, 34] (by decide +kernel) (by decide +kernel)
set_option maxRecDepth 20000 in
theorem gX3_divide_X2_size : GoodIn wsX3_divide (wsV RX3 46 RX2 yX2_size wsX2_size) := goodIn_app (goodIn_of _ (by decide +kernel)) ggX3_divide_X2_size
set_option maxRecDepth 20000 in
theorem ggX3_divide_X2_at : GoodIn wsX3_divide wsX2_at := goodIn_r _ [18, 10, 19, 33, 34] (by decide +kernel) (by decide +kernel)
set_option maxRecDepth 20000 in
theorem gX3_divide_X2_at : GoodIn wsX3_divide (wsV RX3 35 RX2 yX2_at wsX2_at) := goodIn_app (goodIn_of _ (by decide +kernel)) ggX3_divide_X2_at
set_option maxRecDepth 20000 in
theorem ggX3_divide_X3_rainTimes : GoodIn wsX3_divide wsX3_rainTimes := goodIn_r _ [24, 3, 15, 16, 17, 8, 18, 10, 19, 29, 30, 31, 32, 33, 34] (by decide +kernel) (by decide +kernel)
set_option maxRecDepth 20000 in
theorem gX3_divide_X3_rainTimes : GoodIn wsX3_divide (wsV RX3 39 RX3 yX3_rainTimes wsX3_rainTimes) := goodIn_app (goodIn_of _ (by decide +kernel)) ggX3_divide_X3_rainTimes
set_option maxRecDepth 20000 in
theorem ggX3_divide_X2_add : GoodIn wsX3_divide wsX2_add := goodIn_r _ [28, 10, 19, 33, 34] (by decide +kernel) (by decide +kernel)
set_option maxRecDepth 20000 in
theorem gX3_divide_X2_add : GoodIn wsX3_divide (wsV RX3 50 RX2 yX2_add wsX2_add) := goodIn_app (goodIn_of _ (by decide +kernel)) ggX3_divide_X2_add
theorem dX3_divide_0 : decode cX3_divide 0 = .ok (.aload_n 0, 1) := by decide +kernel
theorem dX3_divide_1 : decode cX3_divide 1 = .ok (.getfield 21, 3) := by decide +kernel
theorem dX3_divide_4 : decode cX3_divide 4 = .ok (.invokevirtual 43, 3) := by decide +kernel
theorem dX3_divide_7 : decode cX3_divide 7 = .ok (.aload_n 0, 1) := by decide +kernel
theorem dX3_divide_8 : decode cX3_divide 8 = .ok (.getfield 18, 3) := by decide +kernel
theorem dX3_divide_11 : decode cX3_divide 11 = .ok (.invokevirtual 46, 3) := by decide +kernel
theorem dX3_divide_14 : decode cX3_divide 14 = .ok (.aload_n 0, 1) := by decide +kernel
theorem dX3_divide_15 : decode cX3_divide 15 = .ok (.getfield 12, 3) := by decide +kernel
theorem dX3_divide_18 : decode cX3_divide 18 = .ok (.invokevirtual 46, 3) := by decide +kernel
theorem dX3_divide_21 : decode cX3_divide 21 = .ok (.isub, 1) := by decide +kernel
theorem dX3_divide_22 : decode cX3_divide 22 = .ok (.iconst 1, 1) := by decide +kernel
theorem dX3_divide_23 : decode cX3_divide 23 = .ok (.iadd, 1) := by decide +kernel
theorem dX3_divide_24 : decode cX3_divide 24 = .ok (.istore_n 1, 1) := by decide +kernel
theorem dX3_divide_25 : decode cX3_divide 25 = .ok (.aload_n 0, 1) := by decide +kernel
theorem dX3_divide_26 : decode cX3_divide 26 = .ok (.getfield 12, 3) := by decide +kernel
theorem dX3_divide_29 : decode cX3_divide 29 = .ok (.iconst 0, 1) := by decide +kernel
theorem dX3_divide_30 : decode cX3_divide 30 = .ok (.invokevirtual 35, 3) := by decide +kernel
theorem dX3_divide_33 : decode cX3_divide 33 = .ok (.istore_n 2, 1) := by decide +kernel
theorem dX3_divide_34 : decode cX3_divide 34 = .ok (.aload_n 0, 1) := by decide +kernel
theorem dX3_divide_35 : decode cX3_divide 35 = .ok (.iload_n 1, 1) := by decide +kernel
theorem dX3_divide_36 : decode cX3_divide 36 = .ok (.ifCond .le 11, 3) := by decide +kernel
theorem dX3_divide_39 : decode cX3_divide 39 = .ok (.iload_n 2, 1) := by decide +kernel
theorem dX3_divide_40 : decode cX3_divide 40 = .ok (.ifCond .le 7, 3) := by decide +kernel
theorem dX3_divide_43 : decode cX3_divide 43 = .ok (.iconst 1, 1) := by decide +kernel
theorem dX3_divide_44 : decode cX3_divide 44 = .ok (.goto 4, 3) := by decide +kernel
theorem dX3_divide_47 : decode cX3_divide 47 = .ok (.iconst 0, 1) := by decide +kernel
theorem dX3_divide_48 : decode cX3_divide 48 = .ok (.putfield 24, 3) := by decide +kernel
theorem dX3_divide_51 : decode cX3_divide 51 = .ok (.iconst 0, 1) := by decide +kernel
theorem dX3_divide_52 : decode cX3_divide 52 = .ok (.istore_n 3, 1) := by decide +kernel
theorem dX3_divide_53 : decode cX3_divide 53 = .ok (.iload_n 3, 1) := by decide +kernel
theorem dX3_divide_54 : decode cX3_divide 54 = .ok (.bipush 8, 2) := by decide +kernel
theorem dX3_divide_56 : decode cX3_divide 56 = .ok (.if_icmp .ge 88, 3) := by decide +kernel
theorem dX3_divide_59 : decode cX3_divide 59 = .ok (.aload_n 0, 1) := by decide +kernel
theorem dX3_divide_60 : decode cX3_divide 60 = .ok (.getfield 24, 3) := by decide +kernel
theorem dX3_divide_63 : decode cX3_divide 63 = .ok (.ifCond .eq 81, 3) := by decide +kernel
theorem dX3_divide_66 : decode cX3_divide 66 = .ok (.aload_n 0, 1) := by decide +kernel
theorem dX3_divide_67 : decode cX3_divide 67 = .ok (.getfield 18, 3) := by decide +kernel
theorem dX3_divide_70 : decode cX3_divide 70 = .ok (.iload_n 3, 1) := by decide +kernel
theorem dX3_divide_71 : decode cX3_divide 71 = .ok (.invokevirtual 35, 3) := by decide +kernel
theorem dX3_divide_74 : decode cX3_divide 74 = .ok (.aload_n 0, 1) := by decide +kernel
theorem dX3_divide_75 : decode cX3_divide 75 = .ok (.aload_n 0, 1) := by decide +kernel
theorem dX3_divide_76 : decode cX3_divide 76 = .ok (.getfield 21, 3) := by decide +kernel
theorem dX3_divide_79 : decode cX3_divide 79 = .ok (.iload_n 3, 1) := by decide +kernel
theorem dX3_divide_80 : decode cX3_divide 80 = .ok (.invokevirtual 39, 3) := by decide +kernel
theorem dX3_divide_83 : decode cX3_divide 83 = .ok (.isub, 1) := by decide +kernel
theorem dX3_divide_84 : decode cX3_divide 84 = .ok (.istore 4, 2) := by decide +kernel
theorem dX3_divide_86 : decode cX3_divide 86 = .ok (.iload_n 3, 1) := by decide +kernel
theorem dX3_divide_87 : decode cX3_divide 87 = .ok (.iload_n 1, 1) := by decide +kernel
theorem dX3_divide_88 : decode cX3_divide 88 = .ok (.if_icmp .lt 20, 3) := by decide +kernel
theorem dX3_divide_91 : decode cX3_divide 91 = .ok (.aload_n 0, 1) := by decide +kernel
theorem dX3_divide_92 : decode cX3_divide 92 = .ok (.iload 4, 2) := by decide +kernel
theorem dX3_divide_94 : decode cX3_divide 94 = .ok (.ifCond .ne 7, 3) := by decide +kernel
theorem dX3_divide_97 : decode cX3_divide 97 = .ok (.iconst 1, 1) := by decide +kernel
theorem dX3_divide_98 : decode cX3_divide 98 = .ok (.goto 4, 3) := by decide +kernel
theorem dX3_divide_101 : decode cX3_divide 101 = .ok (.iconst 0, 1) := by decide +kernel
theorem dX3_divide_102 : decode cX3_divide 102 = .ok (.putfield 24, 3) := by decide +kernel
theorem dX3_divide_105 : decode cX3_divide 105 = .ok (.goto 33, 3) := by decide +kernel
theorem dX3_divide_108 : decode cX3_divide 108 = .ok (.iload_n 2, 1) := by decide +kernel
theorem dX3_divide_109 : decode cX3_divide 109 = .ok (.ifCond .le 24, 3) := by decide +kernel
theorem dX3_divide_112 : decode cX3_divide 112 = .ok (.iload 4, 2) := by decide +kernel
theorem dX3_divide_114 : decode cX3_divide 114 = .ok (.iload_n 2, 1) := by decide +kernel
theorem dX3_divide_115 : decode cX3_divide 115 = .ok (.irem, 1) := by decide +kernel
theorem dX3_divide_116 : decode cX3_divide 116 = .ok (.ifCond .ne 17, 3) := by decide +kernel
theorem dX3_divide_119 : decode cX3_divide 119 = .ok (.aload_n 0, 1) := by decide +kernel
theorem dX3_divide_120 : decode cX3_divide 120 = .ok (.getfield 21, 3) := by decide +kernel
theorem dX3_divide_123 : decode cX3_divide 123 = .ok (.iload 4, 2) := by decide +kernel
theorem dX3_divide_125 : decode cX3_divide 125 = .ok (.iload_n 2, 1) := by decide +kernel
theorem dX3_divide_126 : decode cX3_divide 126 = .ok (.idiv, 1) := by decide +kernel
theorem dX3_divide_127 : decode cX3_divide 127 = .ok (.invokevirtual 50, 3) := by decide +kernel
theorem dX3_divide_130 : decode cX3_divide 130 = .ok (.goto 8, 3) := by decide +kernel
theorem dX3_divide_133 : decode cX3_divide 133 = .ok (.aload_n 0, 1) := by decide +kernel
theorem dX3_divide_134 : decode cX3_divide 134 = .ok (.iconst 0, 1) := by decide +kernel
theorem dX3_divide_135 : decode cX3_divide 135 = .ok (.putfield 24, 3) := by decide +kernel
theorem dX3_divide_138 : decode cX3_divide 138 = .ok (.iinc 3 1, 3) := by decide +kernel
theorem dX3_divide_141 : decode cX3_divide 141 = .ok (.goto (-88), 3) := by decide +kernel
theorem dX3_divide_144 : decode cX3_divide 144 = .ok (.return_, 1) := by decide +kernel
set_option maxRecDepth 20000 in
theorem ggX4_init_X2_init : GoodIn wsX4_init wsX2_init := goodIn_r _ [10, 11, 2, 3, 12, 13, 14, 15] (by decide +kernel) (by decide +kernel)
set_option maxRecDepth 20000 in
theorem gX4_init_X2_init_n11 : GoodIn wsX4_init (wsX2_init) := ggX4_init_X2_init
theorem dX4_init_0 : decode cX4_init 0 = .ok (.aload_n 0, 1) := by decide +kernel
theorem dX4_init_1 : decode cX4_init 1 = .ok (.invokespecial 3, 3) := by decide +kernel
theorem dX4_init_4 : decode cX4_init 4 = .ok (.aload_n 0, 1) := by decide +kernel
theorem dX4_init_5 : decode cX4_init 5 = .ok (.new 9, 3) := by decide +kernel
theorem dX4_init_8 : decode cX4_init 8 = .ok (.dup, 1) := by decide +kernel
theorem dX4_init_9 : decode cX4_init 9 = .ok (.invokespecial 11, 3) := by decide +kernel
theorem dX4_init_12 : decode cX4_init 12 = .ok (.putfield 12, 3) := by decide +kernel
theorem dX4_init_15 : decode cX4_init 15 = .ok (.aload_n 0, 1) := by decide +kernel
theorem dX4_init_16 : decode cX4_init 16 = .ok (.iconst 1, 1) := by decide +kernel
theorem dX4_init_17 : decode cX4_init 17 = .ok (.putfield 18, 3) := by decide +kernel
theorem dX4_init_20 : decode cX4_init 20 = .ok (.return_, 1) := by decide +kernel
set_option maxRecDepth 20000 in
theorem ggX4_summedAt_X2_at : GoodIn wsX4_summedAt wsX2_at := goodIn_r _ [7, 8, 9, 12, 13] (by decide +kernel) (by decide +kernel)
set_option maxRecDepth 20000 in
theorem gX4_summedAt_X2_at : GoodIn wsX4_summedAt (wsV RX4 22 RX2 yX2_at wsX2_at) := goodIn_app (goodIn_of _ (by decide +kernel)) ggX4_summedAt_X2_at
theorem dX4_summedAt_0 : decode cX4_summedAt 0 = .ok (.iconst 0, 1) := by decide +kernel
theorem dX4_summedAt_1 : decode cX4_summedAt 1 = .ok (.istore_n 2, 1) := by decide +kernel
theorem dX4_summedAt_2 : decode cX4_summedAt 2 = .ok (.iconst 0, 1) := by decide +kernel
theorem dX4_summedAt_3 : decode cX4_summedAt 3 = .ok (.istore_n 3, 1) := by decide +kernel
theorem dX4_summedAt_4 : decode cX4_summedAt 4 = .ok (.iload_n 3, 1) := by decide +kernel
theorem dX4_summedAt_5 : decode cX4_summedAt 5 = .ok (.bipush 20, 2) := by decide +kernel
theorem dX4_summedAt_7 : decode cX4_summedAt 7 = .ok (.if_icmp .gt 27, 3) := by decide +kernel
theorem dX4_summedAt_10 : decode cX4_summedAt 10 = .ok (.iload_n 2, 1) := by decide +kernel
theorem dX4_summedAt_11 : decode cX4_summedAt 11 = .ok (.aload_n 0, 1) := by decide +kernel
theorem dX4_summedAt_12 : decode cX4_summedAt 12 = .ok (.getfield 12, 3) := by decide +kernel
theorem dX4_summedAt_15 : decode cX4_summedAt 15 = .ok (.iload_n 1, 1) := by decide +kernel
theorem dX4_summedAt_16 : decode cX4_summedAt 16 = .ok (.iload_n 3, 1) := by decide +kernel
theorem dX4_summedAt_17 : decode cX4_summedAt 17 = .ok (.aload_n 0, 1) := by decide +kernel
theorem dX4_summedAt_18 : decode cX4_summedAt 18 = .ok (.getfield 18, 3) := by decide +kernel
theorem dX4_summedAt_21 : decode cX4_summedAt 21 = .ok (.imul, 1) := by decide +kernel
theorem dX4_summedAt_22 : decode cX4_summedAt 22 = .ok (.isub, 1) := by decide +kernel
theorem dX4_summedAt_23 : decode cX4_summedAt 23 = .ok (.invokevirtual 22, 3) := by decide +kernel
theorem dX4_summedAt_26 : decode cX4_summedAt 26 = .ok (.iadd, 1) := by decide +kernel
theorem dX4_summedAt_27 : decode cX4_summedAt 27 = .ok (.istore_n 2, 1) := by decide +kernel
theorem dX4_summedAt_28 : decode cX4_summedAt 28 = .ok (.iinc 3 1, 3) := by decide +kernel
theorem dX4_summedAt_31 : decode cX4_summedAt 31 = .ok (.goto (-27), 3) := by decide +kernel
theorem dX4_summedAt_34 : decode cX4_summedAt 34 = .ok (.iload_n 2, 1) := by decide +kernel
theorem dX4_summedAt_35 : decode cX4_summedAt 35 = .ok (.ireturn, 1) := by decide +kernel
set_option maxRecDepth 20000 in
theorem ggX5_init_X1_init : GoodIn wsX5_init wsX1_init := goodIn_r _ [23, 24, 2, 3, 25, 26, 27, 28, 29, 30, 31, 32, 4, 33, 88, 89, 68, 69, 70, 71, 72, 73] (by decide +kernel) (by decide +kernel)
set_option maxRecDepth 20000 in
theorem gX5_init_X1_init_n27 : GoodIn wsX5_init (wsX1_init) := ggX5_init_X1_init
set_option maxRecDepth 20000 in
theorem ggX5_init_X0_init : GoodIn wsX5_init wsX0_init := goodIn_r _ [35, 36, 2, 3, 37, 38, 39, 40, 41, 42, 43, 74, 75, 76, 77, 78, 79, 80, 81] (by decide +kernel) (by decide +kernel)
set_option maxRecDepth 20000 in
theorem gX5_init_X0_init_n34 : GoodIn wsX5_init (wsX0_init) := ggX5_init_X0_init
set_option maxRecDepth 20000 in
theorem ggX5_init_X3_init : GoodIn wsX5_init wsX3_init := goodIn_r _ [45, 46, 2, 3, 47, 26, 27, 48, 49, 50, 30, 31, 32, 4, 33, 88, 89, 82, 83, 84, 85] (by decide +kernel) (by decide +kernel)
set_option maxRecDepth 20000 in
theorem gX5_init_X3_init_n39 : GoodIn wsX5_init (wsX3_init) := ggX5_init_X3_init
set_option maxRecDepth 20000 in
theorem ggX5_init_X4_init : GoodIn wsX5_init wsX4_init := goodIn_r _ [52, 53, 2, 3, 54, 26, 27, 55, 56, 30, 31, 32, 4, 33, 88, 89, 86, 87] (by decide +kernel) (by decide +kernel)
set_option maxRecDepth 20000 in
theorem gX5_init_X4_init_n40 : GoodIn wsX5_init (wsX4_init) := ggX5_init_X4_init
theorem dX5_init_0 : decode cX5_init 0 = .ok (.aload_n 0, 1) := by decide +kernel
theorem dX5_init_1 : decode cX5_init 1 = .ok (.invokespecial 1, 3) := by decide +kernel
theorem dX5_init_4 : decode cX5_init 4 = .ok (.aload_n 0, 1) := by decide +kernel
theorem dX5_init_5 : decode cX5_init 5 = .ok (.bipush 40, 2) := by decide +kernel
theorem dX5_init_7 : decode cX5_init 7 = .ok (.newarray .int, 2) := by decide +kernel
theorem dX5_init_9 : decode cX5_init 9 = .ok (.putfield 9, 3) := by decide +kernel
theorem dX5_init_12 : decode cX5_init 12 = .ok (.aload_n 0, 1) := by decide +kernel
theorem dX5_init_13 : decode cX5_init 13 = .ok (.iconst 3, 1) := by decide +kernel
theorem dX5_init_14 : decode cX5_init 14 = .ok (.anewarray 13, 3) := by decide +kernel
theorem dX5_init_17 : decode cX5_init 17 = .ok (.putfield 15, 3) := by decide +kernel
theorem dX5_init_20 : decode cX5_init 20 = .ok (.aload_n 0, 1) := by decide +kernel
theorem dX5_init_21 : decode cX5_init 21 = .ok (.iconst 4, 1) := by decide +kernel
theorem dX5_init_22 : decode cX5_init 22 = .ok (.anewarray 19, 3) := by decide +kernel
theorem dX5_init_25 : decode cX5_init 25 = .ok (.putfield 21, 3) := by decide +kernel
theorem dX5_init_28 : decode cX5_init 28 = .ok (.aload_n 0, 1) := by decide +kernel
theorem dX5_init_29 : decode cX5_init 29 = .ok (.new 25, 3) := by decide +kernel
theorem dX5_init_32 : decode cX5_init 32 = .ok (.dup, 1) := by decide +kernel
theorem dX5_init_33 : decode cX5_init 33 = .ok (.invokespecial 27, 3) := by decide +kernel
theorem dX5_init_36 : decode cX5_init 36 = .ok (.putfield 28, 3) := by decide +kernel
theorem dX5_init_39 : decode cX5_init 39 = .ok (.aload_n 0, 1) := by decide +kernel
theorem dX5_init_40 : decode cX5_init 40 = .ok (.new 32, 3) := by decide +kernel
theorem dX5_init_43 : decode cX5_init 43 = .ok (.dup, 1) := by decide +kernel
theorem dX5_init_44 : decode cX5_init 44 = .ok (.invokespecial 34, 3) := by decide +kernel
theorem dX5_init_47 : decode cX5_init 47 = .ok (.putfield 35, 3) := by decide +kernel
theorem dX5_init_50 : decode cX5_init 50 = .ok (.iconst 0, 1) := by decide +kernel
theorem dX5_init_51 : decode cX5_init 51 = .ok (.istore_n 1, 1) := by decide +kernel
theorem dX5_init_52 : decode cX5_init 52 = .ok (.iload_n 1, 1) := by decide +kernel
theorem dX5_init_53 : decode cX5_init 53 = .ok (.iconst 3, 1) := by decide +kernel
theorem dX5_init_54 : decode cX5_init 54 = .ok (.if_icmp .ge 22, 3) := by decide +kernel
theorem dX5_init_57 : decode cX5_init 57 = .ok (.aload_n 0, 1) := by decide +kernel
theorem dX5_init_58 : decode cX5_init 58 = .ok (.getfield 15, 3) := by decide +kernel
theorem dX5_init_61 : decode cX5_init 61 = .ok (.iload_n 1, 1) := by decide +kernel
theorem dX5_init_62 : decode cX5_init 62 = .ok (.new 13, 3) := by decide +kernel
theorem dX5_init_65 : decode cX5_init 65 = .ok (.dup, 1) := by decide +kernel
theorem dX5_init_66 : decode cX5_init 66 = .ok (.invokespecial 39, 3) := by decide +kernel
theorem dX5_init_69 : decode cX5_init 69 = .ok (.aastore, 1) := by decide +kernel
theorem dX5_init_70 : decode cX5_init 70 = .ok (.iinc 1 1, 3) := by decide +kernel
theorem dX5_init_73 : decode cX5_init 73 = .ok (.goto (-21), 3) := by decide +kernel
theorem dX5_init_76 : decode cX5_init 76 = .ok (.iconst 0, 1) := by decide +kernel
theorem dX5_init_77 : decode cX5_init 77 = .ok (.istore_n 1, 1) := by decide +kernel
theorem dX5_init_78 : decode cX5_init 78 = .ok (.iload_n 1, 1) := by decide +kernel
theorem dX5_init_79 : decode cX5_init 79 = .ok (.iconst 4, 1) := by decide +kernel
theorem dX5_init_80 : decode cX5_init 80 = .ok (.if_icmp .ge 22, 3) := by decide +kernel
theorem dX5_init_83 : decode cX5_init 83 = .ok (.aload_n 0, 1) := by decide +kernel
theorem dX5_init_84 : decode cX5_init 84 = .ok (.getfield 21, 3) := by decide +kernel
theorem dX5_init_87 : decode cX5_init 87 = .ok (.iload_n 1, 1) := by decide +kernel
theorem dX5_init_88 : decode cX5_init 88 = .ok (.new 19, 3) := by decide +kernel
theorem dX5_init_91 : decode cX5_init 91 = .ok (.dup, 1) := by decide +kernel
theorem dX5_init_92 : decode cX5_init 92 = .ok (.invokespecial 40, 3) := by decide +kernel
theorem dX5_init_95 : decode cX5_init 95 = .ok (.aastore, 1) := by decide +kernel
theorem dX5_init_96 : decode cX5_init 96 = .ok (.iinc 1 1, 3) := by decide +kernel
theorem dX5_init_99 : decode cX5_init 99 = .ok (.goto (-21), 3) := by decide +kernel
theorem dX5_init_102 : decode cX5_init 102 = .ok (.return_, 1) := by decide +kernel
theorem dX5_letter_0 : decode cX5_letter 0 = .ok (.iload_n 1, 1) := by decide +kernel
theorem dX5_letter_1 : decode cX5_letter 1 = .ok (.bipush 32, 2) := by decide +kernel
theorem dX5_letter_3 : decode cX5_letter 3 = .ok (.if_icmp .lt 9, 3) := by decide +kernel
theorem dX5_letter_6 : decode cX5_letter 6 = .ok (.iload_n 1, 1) := by decide +kernel
theorem dX5_letter_7 : decode cX5_letter 7 = .ok (.bipush 126, 2) := by decide +kernel
theorem dX5_letter_9 : decode cX5_letter 9 = .ok (.if_icmp .le 6, 3) := by decide +kernel
theorem dX5_letter_12 : decode cX5_letter 12 = .ok (.ldc 41, 2) := by decide +kernel
theorem dX5_letter_14 : decode cX5_letter 14 = .ok (.ireturn, 1) := by decide +kernel
theorem dX5_letter_15 : decode cX5_letter 15 = .ok (.aload_n 0, 1) := by decide +kernel
theorem dX5_letter_16 : decode cX5_letter 16 = .ok (.getfield 42, 3) := by decide +kernel
theorem dX5_letter_19 : decode cX5_letter 19 = .ok (.bipush 40, 2) := by decide +kernel
theorem dX5_letter_21 : decode cX5_letter 21 = .ok (.if_icmp .lt 6, 3) := by decide +kernel
theorem dX5_letter_24 : decode cX5_letter 24 = .ok (.ldc 46, 2) := by decide +kernel
theorem dX5_letter_26 : decode cX5_letter 26 = .ok (.ireturn, 1) := by decide +kernel
theorem dX5_letter_27 : decode cX5_letter 27 = .ok (.aload_n 0, 1) := by decide +kernel
theorem dX5_letter_28 : decode cX5_letter 28 = .ok (.getfield 9, 3) := by decide +kernel
theorem dX5_letter_31 : decode cX5_letter 31 = .ok (.aload_n 0, 1) := by decide +kernel
theorem dX5_letter_32 : decode cX5_letter 32 = .ok (.getfield 42, 3) := by decide +kernel
theorem dX5_letter_35 : decode cX5_letter 35 = .ok (.iload_n 1, 1) := by decide +kernel
theorem dX5_letter_36 : decode cX5_letter 36 = .ok (.iastore, 1) := by decide +kernel
theorem dX5_letter_37 : decode cX5_letter 37 = .ok (.aload_n 0, 1) := by decide +kernel
theorem dX5_letter_38 : decode cX5_letter 38 = .ok (.dup, 1) := by decide +kernel
theorem dX5_letter_39 : decode cX5_letter 39 = .ok (.getfield 42, 3) := by decide +kernel
theorem dX5_letter_42 : decode cX5_letter 42 = .ok (.iconst 1, 1) := by decide +kernel
theorem dX5_letter_43 : decode cX5_letter 43 = .ok (.iadd, 1) := by decide +kernel
theorem dX5_letter_44 : decode cX5_letter 44 = .ok (.putfield 42, 3) := by decide +kernel
theorem dX5_letter_47 : decode cX5_letter 47 = .ok (.aload_n 0, 1) := by decide +kernel
theorem dX5_letter_48 : decode cX5_letter 48 = .ok (.getfield 42, 3) := by decide +kernel
theorem dX5_letter_51 : decode cX5_letter 51 = .ok (.ireturn, 1) := by decide +kernel
theorem dX5_blank_0 : decode cX5_blank 0 = .ok (.aload_n 0, 1) := by decide +kernel
theorem dX5_blank_1 : decode cX5_blank 1 = .ok (.getfield 42, 3) := by decide +kernel
theorem dX5_blank_4 : decode cX5_blank 4 = .ok (.istore_n 1, 1) := by decide +kernel
theorem dX5_blank_5 : decode cX5_blank 5 = .ok (.aload_n 0, 1) := by decide +kernel
theorem dX5_blank_6 : decode cX5_blank 6 = .ok (.iconst 0, 1) := by decide +kernel
theorem dX5_blank_7 : decode cX5_blank 7 = .ok (.putfield 42, 3) := by decide +kernel
theorem dX5_blank_10 : decode cX5_blank 10 = .ok (.iload_n 1, 1) := by decide +kernel
theorem dX5_blank_11 : decode cX5_blank 11 = .ok (.ireturn, 1) := by decide +kernel
set_option maxRecDepth 20000 in
theorem ggX5_fault_X1_read : GoodIn wsX5_fault wsX1_read := goodIn_r _ [8, 9, 10, 11, 7, 12, 13, 14, 15, 16, 17, 18, 19, 20, 21, 22, 23, 24, 25, 26, 27, 28, 29, 30, 31, 32, 33, 34, 35, 36, 37, 38, 39, 40, 41, 42, 43, 44, 45, 46, 47, 48, 49, 50, 51, 52, 53, 54, 55, 56, 57, 58, 59, 60, 61, 62, 63, 64, 65, 66, 67, 68, 69, 70, 71, 72, 84, 85, 86, 87, 88, 89, 90, 91] (by decide +kernel) (by decide +kernel)
set_option maxRecDepth 20000 in
theorem gX5_fault_X1_read : GoodIn wsX5_fault (wsV RX5 47 RX1 yX1_read wsX1_read) := goodIn_app (goodIn_of _ (by decide +kernel)) ggX5_fault_X1_read
theorem dX5_fault_0 : decode cX5_fault 0 = .ok (.aload_n 0, 1) := by decide +kernel
theorem dX5_fault_1 : decode cX5_fault 1 = .ok (.getfield 28, 3) := by decide +kernel
theorem dX5_fault_4 : decode cX5_fault 4 = .ok (.aload_n 0, 1) := by decide +kernel
theorem dX5_fault_5 : decode cX5_fault 5 = .ok (.getfield 9, 3) := by decide +kernel
theorem dX5_fault_8 : decode cX5_fault 8 = .ok (.aload_n 0, 1) := by decide +kernel
theorem dX5_fault_9 : decode cX5_fault 9 = .ok (.getfield 42, 3) := by decide +kernel
theorem dX5_fault_12 : decode cX5_fault 12 = .ok (.invokevirtual 47, 3) := by decide +kernel
theorem dX5_fault_15 : decode cX5_fault 15 = .ok (.ireturn, 1) := by decide +kernel
set_option maxRecDepth 20000 in
theorem ggX5_take_X1_read : GoodIn wsX5_take wsX1_read := goodIn_r _ [11, 12, 13, 14, 10, 15, 16, 17, 18, 19, 20, 21, 22, 23, 24, 25, 26, 27, 28, 29, 30, 31, 32, 33, 34, 35, 36, 37, 38, 39, 40, 41, 42, 43, 44, 45, 46, 47, 48, 49, 50, 51, 52, 53, 54, 55, 56, 57, 58, 59, 60, 61, 62, 63, 64, 65, 66, 67, 68, 69, 70, 71, 72, 73, 74, 75, 145, 146, 147, 148, 149, 150, 151, 152] (by decide +kernel) (by decide +kernel)
set_option maxRecDepth 20000 in
theorem gX5_take_X1_read : GoodIn wsX5_take (wsV RX5 47 RX1 yX1_read wsX1_read) := goodIn_app (goodIn_of _ (by decide +kernel)) ggX5_take_X1_read
set_option maxRecDepth 20000 in
theorem ggX5_take_X1_isWhole : GoodIn wsX5_take wsX1_isWhole := goodIn_r _ [79, 18, 21, 145, 146, 147, 148, 149, 150] (by decide +kernel) (by decide +kernel)
set_option maxRecDepth 20000 in
theorem gX5_take_X1_isWhole : GoodIn wsX5_take (wsV RX5 51 RX1 yX1_isWhole wsX1_isWhole) := goodIn_app (goodIn_of _ (by decide +kernel)) ggX5_take_X1_isWhole
set_option maxRecDepth 20000 in
theorem ggX5_take_X1_isOfUnit : GoodIn wsX5_take wsX1_isOfUnit := goodIn_r _ [83, 20, 145, 146, 147, 148, 149, 150] (by decide +kernel) (by decide +kernel)
set_option maxRecDepth 20000 in
theorem gX5_take_X1_isOfUnit : GoodIn wsX5_take (wsV RX5 56 RX1 yX1_isOfUnit wsX1_isOfUnit) := goodIn_app (goodIn_of _ (by decide +kernel)) ggX5_take_X1_isOfUnit
set_option maxRecDepth 20000 in
theorem ggX5_take_X5_takeUnit : GoodIn wsX5_take wsX5_takeUnit := goodIn_r _ [87, 88, 5, 89, 1, 90, 91, 92, 93, 94, 95, 10, 96, 19, 97, 98, 99, 25, 100, 27, 60, 101, 102, 103, 104, 134, 135, 136, 137, 138, 139, 140, 141, 142, 143, 144, 153, 154, 145, 146, 147, 148, 149, 150, 151, 152] (by decide +kernel) (by decide +kernel)
set_option maxRecDepth 20000 in
theorem gX5_take_X5_takeUnit : GoodIn wsX5_take (wsV RX5 59 RX5 yX5_takeUnit wsX5_takeUnit) := goodIn_app (goodIn_of _ (by decide +kernel)) ggX5_take_X5_takeUnit
set_option maxRecDepth 20000 in
theorem ggX5_take_X5_takeStorm : GoodIn wsX5_take wsX5_takeStorm := goodIn_r _ [108, 109, 5, 110, 1, 111, 92, 112, 113, 114, 115, 116, 117, 118, 119, 98, 99, 25, 100, 27, 60, 101, 102, 103, 104, 120, 121, 122, 123, 124, 125, 126, 23, 24, 26, 127, 45, 46, 47, 128, 129, 130, 131, 132, 133, 66, 67, 68, 134, 135, 136, 137, 138, 139, 140, 141, 142, 143, 144, 145, 146, 147, 148, 149, 150, 155, 156, 157, 158, 151, 152] (by decide +kernel) (by decide +kernel)
set_option maxRecDepth 20000 in
theorem gX5_take_X5_takeStorm : GoodIn wsX5_take (wsV RX5 63 RX5 yX5_takeStorm wsX5_takeStorm) := goodIn_app (goodIn_of _ (by decide +kernel)) ggX5_take_X5_takeStorm
theorem dX5_take_0 : decode cX5_take 0 = .ok (.aload_n 0, 1) := by decide +kernel
theorem dX5_take_1 : decode cX5_take 1 = .ok (.getfield 28, 3) := by decide +kernel
theorem dX5_take_4 : decode cX5_take 4 = .ok (.aload_n 0, 1) := by decide +kernel
theorem dX5_take_5 : decode cX5_take 5 = .ok (.getfield 9, 3) := by decide +kernel
theorem dX5_take_8 : decode cX5_take 8 = .ok (.aload_n 0, 1) := by decide +kernel
theorem dX5_take_9 : decode cX5_take 9 = .ok (.getfield 42, 3) := by decide +kernel
theorem dX5_take_12 : decode cX5_take 12 = .ok (.invokevirtual 47, 3) := by decide +kernel
theorem dX5_take_15 : decode cX5_take 15 = .ok (.aload_n 0, 1) := by decide +kernel
theorem dX5_take_16 : decode cX5_take 16 = .ok (.getfield 42, 3) := by decide +kernel
theorem dX5_take_19 : decode cX5_take 19 = .ok (.if_icmp .lt 13, 3) := by decide +kernel
theorem dX5_take_22 : decode cX5_take 22 = .ok (.aload_n 0, 1) := by decide +kernel
theorem dX5_take_23 : decode cX5_take 23 = .ok (.getfield 28, 3) := by decide +kernel
theorem dX5_take_26 : decode cX5_take 26 = .ok (.invokevirtual 51, 3) := by decide +kernel
theorem dX5_take_29 : decode cX5_take 29 = .ok (.ifCond .ne 6, 3) := by decide +kernel
theorem dX5_take_32 : decode cX5_take 32 = .ok (.ldc 55, 2) := by decide +kernel
theorem dX5_take_34 : decode cX5_take 34 = .ok (.ireturn, 1) := by decide +kernel
theorem dX5_take_35 : decode cX5_take 35 = .ok (.aload_n 0, 1) := by decide +kernel
theorem dX5_take_36 : decode cX5_take 36 = .ok (.getfield 28, 3) := by decide +kernel
theorem dX5_take_39 : decode cX5_take 39 = .ok (.invokevirtual 56, 3) := by decide +kernel
theorem dX5_take_42 : decode cX5_take 42 = .ok (.ifCond .eq 10, 3) := by decide +kernel
theorem dX5_take_45 : decode cX5_take 45 = .ok (.aload_n 0, 1) := by decide +kernel
theorem dX5_take_46 : decode cX5_take 46 = .ok (.invokevirtual 59, 3) := by decide +kernel
theorem dX5_take_49 : decode cX5_take 49 = .ok (.goto 7, 3) := by decide +kernel
theorem dX5_take_52 : decode cX5_take 52 = .ok (.aload_n 0, 1) := by decide +kernel
theorem dX5_take_53 : decode cX5_take 53 = .ok (.invokevirtual 63, 3) := by decide +kernel
theorem dX5_take_56 : decode cX5_take 56 = .ok (.istore_n 1, 1) := by decide +kernel
theorem dX5_take_57 : decode cX5_take 57 = .ok (.iload_n 1, 1) := by decide +kernel
theorem dX5_take_58 : decode cX5_take 58 = .ok (.ldc 46, 2) := by decide +kernel
theorem dX5_take_60 : decode cX5_take 60 = .ok (.if_icmp .ne 6, 3) := by decide +kernel
theorem dX5_take_63 : decode cX5_take 63 = .ok (.ldc 46, 2) := by decide +kernel
theorem dX5_take_65 : decode cX5_take 65 = .ok (.ireturn, 1) := by decide +kernel
theorem dX5_take_66 : decode cX5_take 66 = .ok (.aload_n 0, 1) := by decide +kernel
theorem dX5_take_67 : decode cX5_take 67 = .ok (.iconst 0, 1) := by decide +kernel
theorem dX5_take_68 : decode cX5_take 68 = .ok (.putfield 42, 3) := by decide +kernel
theorem dX5_take_71 : decode cX5_take 71 = .ok (.aload_n 0, 1) := by decide +kernel
theorem dX5_take_72 : decode cX5_take 72 = .ok (.dup, 1) := by decide +kernel
theorem dX5_take_73 : decode cX5_take 73 = .ok (.getfield 66, 3) := by decide +kernel
theorem dX5_take_76 : decode cX5_take 76 = .ok (.iconst 1, 1) := by decide +kernel
theorem dX5_take_77 : decode cX5_take 77 = .ok (.iadd, 1) := by decide +kernel
theorem dX5_take_78 : decode cX5_take 78 = .ok (.putfield 66, 3) := by decide +kernel
theorem dX5_take_81 : decode cX5_take 81 = .ok (.iload_n 1, 1) := by decide +kernel
theorem dX5_take_82 : decode cX5_take 82 = .ok (.ireturn, 1) := by decide +kernel
set_option maxRecDepth 20000 in
theorem ggX5_drop_X5_dropUnit : GoodIn wsX5_drop wsX5_dropUnit := goodIn_r _ [5, 6, 7, 8, 9, 10, 11, 12, 4, 13, 24, 25, 26, 27, 28, 29, 30, 31, 32, 33, 34] (by decide +kernel) (by decide +kernel)
set_option maxRecDepth 20000 in
theorem gX5_drop_X5_dropUnit : GoodIn wsX5_drop (wsV RX5 69 RX5 yX5_dropUnit wsX5_dropUnit) := goodIn_app (goodIn_of _ (by decide +kernel)) ggX5_drop_X5_dropUnit
set_option maxRecDepth 20000 in
theorem ggX5_drop_X5_dropStorm : GoodIn wsX5_drop wsX5_dropStorm := goodIn_r _ [17, 6, 18, 19, 9, 20, 21, 22, 4, 23, 24, 25, 26, 27, 28, 29, 30, 31, 32, 33, 34] (by decide +kernel) (by decide +kernel)
set_option maxRecDepth 20000 in
theorem gX5_drop_X5_dropStorm : GoodIn wsX5_drop (wsV RX5 73 RX5 yX5_dropStorm wsX5_dropStorm) := goodIn_app (goodIn_of _ (by decide +kernel)) ggX5_drop_X5_dropStorm
theorem dX5_drop_0 : decode cX5_drop 0 = .ok (.iload_n 1, 1) := by decide +kernel
theorem dX5_drop_1 : decode cX5_drop 1 = .ok (.ifCond .eq 11, 3) := by decide +kernel
theorem dX5_drop_4 : decode cX5_drop 4 = .ok (.aload_n 0, 1) := by decide +kernel
theorem dX5_drop_5 : decode cX5_drop 5 = .ok (.iload_n 2, 1) := by decide +kernel
theorem dX5_drop_6 : decode cX5_drop 6 = .ok (.invokevirtual 69, 3) := by decide +kernel
theorem dX5_drop_9 : decode cX5_drop 9 = .ok (.goto 8, 3) := by decide +kernel
theorem dX5_drop_12 : decode cX5_drop 12 = .ok (.aload_n 0, 1) := by decide +kernel
theorem dX5_drop_13 : decode cX5_drop 13 = .ok (.iload_n 2, 1) := by decide +kernel
theorem dX5_drop_14 : decode cX5_drop 14 = .ok (.invokevirtual 73, 3) := by decide +kernel
theorem dX5_drop_17 : decode cX5_drop 17 = .ok (.ireturn, 1) := by decide +kernel
set_option maxRecDepth 20000 in
theorem ggX5_storm_X5_hasStorm : GoodIn wsX5_storm wsX5_hasStorm := goodIn_r _ [10, 11, 28, 29, 30, 31, 32, 33, 34, 35, 36, 37, 38] (by decide +kernel) (by decide +kernel)
set_option maxRecDepth 20000 in
theorem gX5_storm_X5_hasStorm : GoodIn wsX5_storm (wsV RX5 76 RX5 yX5_hasStorm wsX5_hasStorm) := goodIn_app (goodIn_of _ (by decide +kernel)) ggX5_storm_X5_hasStorm
set_option maxRecDepth 20000 in
theorem ggX5_storm_X2_at : GoodIn wsX5_storm wsX2_at := goodIn_r _ [16, 17, 18, 43, 44] (by decide +kernel) (by decide +kernel)
set_option maxRecDepth 20000 in
theorem gX5_storm_X2_at : GoodIn wsX5_storm (wsV RX5 85 RX2 yX2_at wsX2_at) := goodIn_app (goodIn_of _ (by decide +kernel)) ggX5_storm_X2_at
set_option maxRecDepth 20000 in
theorem ggX5_storm_X2_size : GoodIn wsX5_storm wsX2_size := goodIn_r _ [22, 17, 43, 44] (by decide +kernel) (by decide +kernel)
set_option maxRecDepth 20000 in
theorem gX5_storm_X2_size : GoodIn wsX5_storm (wsV RX5 93 RX2 yX2_size wsX2_size) := goodIn_app (goodIn_of _ (by decide +kernel)) ggX5_storm_X2_size
set_option maxRecDepth 20000 in
theorem ggX5_storm_X2_total : GoodIn wsX5_storm wsX2_total := goodIn_r _ [26, 27, 13, 14, 15, 16, 17, 18, 43, 44] (by decide +kernel) (by decide +kernel)
set_option maxRecDepth 20000 in
theorem gX5_storm_X2_total : GoodIn wsX5_storm (wsV RX5 96 RX2 yX2_total wsX2_total) := goodIn_app (goodIn_of _ (by decide +kernel)) ggX5_storm_X2_total
theorem dX5_storm_0 : decode cX5_storm 0 = .ok (.aload_n 0, 1) := by decide +kernel
theorem dX5_storm_1 : decode cX5_storm 1 = .ok (.iload_n 1, 1) := by decide +kernel
theorem dX5_storm_2 : decode cX5_storm 2 = .ok (.invokevirtual 76, 3) := by decide +kernel
theorem dX5_storm_5 : decode cX5_storm 5 = .ok (.ifCond .ne 6, 3) := by decide +kernel
theorem dX5_storm_8 : decode cX5_storm 8 = .ok (.ldc 80, 2) := by decide +kernel
theorem dX5_storm_10 : decode cX5_storm 10 = .ok (.ireturn, 1) := by decide +kernel
theorem dX5_storm_11 : decode cX5_storm 11 = .ok (.aload_n 0, 1) := by decide +kernel
theorem dX5_storm_12 : decode cX5_storm 12 = .ok (.getfield 15, 3) := by decide +kernel
theorem dX5_storm_15 : decode cX5_storm 15 = .ok (.iload_n 1, 1) := by decide +kernel
theorem dX5_storm_16 : decode cX5_storm 16 = .ok (.aaload, 1) := by decide +kernel
theorem dX5_storm_17 : decode cX5_storm 17 = .ok (.astore_n 3, 1) := by decide +kernel
theorem dX5_storm_18 : decode cX5_storm 18 = .ok (.iload_n 2, 1) := by decide +kernel
theorem dX5_storm_19 : decode cX5_storm 19 = .ok (.bipush 10, 2) := by decide +kernel
theorem dX5_storm_21 : decode cX5_storm 21 = .ok (.if_icmp .lt 21, 3) := by decide +kernel
theorem dX5_storm_24 : decode cX5_storm 24 = .ok (.iload_n 2, 1) := by decide +kernel
theorem dX5_storm_25 : decode cX5_storm 25 = .ok (.bipush 13, 2) := by decide +kernel
theorem dX5_storm_27 : decode cX5_storm 27 = .ok (.if_icmp .ge 15, 3) := by decide +kernel
theorem dX5_storm_30 : decode cX5_storm 30 = .ok (.aload_n 3, 1) := by decide +kernel
theorem dX5_storm_31 : decode cX5_storm 31 = .ok (.getfield 81, 3) := by decide +kernel
theorem dX5_storm_34 : decode cX5_storm 34 = .ok (.iload_n 2, 1) := by decide +kernel
theorem dX5_storm_35 : decode cX5_storm 35 = .ok (.bipush 10, 2) := by decide +kernel
theorem dX5_storm_37 : decode cX5_storm 37 = .ok (.isub, 1) := by decide +kernel
theorem dX5_storm_38 : decode cX5_storm 38 = .ok (.invokevirtual 85, 3) := by decide +kernel
theorem dX5_storm_41 : decode cX5_storm 41 = .ok (.ireturn, 1) := by decide +kernel
theorem dX5_storm_42 : decode cX5_storm 42 = .ok (.iload_n 2, 1) := by decide +kernel
theorem dX5_storm_43 : decode cX5_storm 43 = .ok (.bipush 20, 2) := by decide +kernel
theorem dX5_storm_45 : decode cX5_storm 45 = .ok (.if_icmp .lt 21, 3) := by decide +kernel
theorem dX5_storm_48 : decode cX5_storm 48 = .ok (.iload_n 2, 1) := by decide +kernel
theorem dX5_storm_49 : decode cX5_storm 49 = .ok (.bipush 28, 2) := by decide +kernel
theorem dX5_storm_51 : decode cX5_storm 51 = .ok (.if_icmp .ge 15, 3) := by decide +kernel
theorem dX5_storm_54 : decode cX5_storm 54 = .ok (.aload_n 3, 1) := by decide +kernel
theorem dX5_storm_55 : decode cX5_storm 55 = .ok (.getfield 90, 3) := by decide +kernel
theorem dX5_storm_58 : decode cX5_storm 58 = .ok (.iload_n 2, 1) := by decide +kernel
theorem dX5_storm_59 : decode cX5_storm 59 = .ok (.bipush 20, 2) := by decide +kernel
theorem dX5_storm_61 : decode cX5_storm 61 = .ok (.isub, 1) := by decide +kernel
theorem dX5_storm_62 : decode cX5_storm 62 = .ok (.invokevirtual 85, 3) := by decide +kernel
theorem dX5_storm_65 : decode cX5_storm 65 = .ok (.ireturn, 1) := by decide +kernel
theorem dX5_storm_66 : decode cX5_storm 66 = .ok (.iload_n 2, 1) := by decide +kernel
theorem dX5_storm_67 : decode cX5_storm 67 = .ok (.tableswitch 61 0 3 #[29, 37, 45, 53], 29) := by decide +kernel
theorem dX5_storm_96 : decode cX5_storm 96 = .ok (.aload_n 3, 1) := by decide +kernel
theorem dX5_storm_97 : decode cX5_storm 97 = .ok (.getfield 81, 3) := by decide +kernel
theorem dX5_storm_100 : decode cX5_storm 100 = .ok (.invokevirtual 93, 3) := by decide +kernel
theorem dX5_storm_103 : decode cX5_storm 103 = .ok (.ireturn, 1) := by decide +kernel
theorem dX5_storm_104 : decode cX5_storm 104 = .ok (.aload_n 3, 1) := by decide +kernel
theorem dX5_storm_105 : decode cX5_storm 105 = .ok (.getfield 90, 3) := by decide +kernel
theorem dX5_storm_108 : decode cX5_storm 108 = .ok (.invokevirtual 93, 3) := by decide +kernel
theorem dX5_storm_111 : decode cX5_storm 111 = .ok (.ireturn, 1) := by decide +kernel
theorem dX5_storm_112 : decode cX5_storm 112 = .ok (.aload_n 3, 1) := by decide +kernel
theorem dX5_storm_113 : decode cX5_storm 113 = .ok (.getfield 81, 3) := by decide +kernel
theorem dX5_storm_116 : decode cX5_storm 116 = .ok (.invokevirtual 96, 3) := by decide +kernel
theorem dX5_storm_119 : decode cX5_storm 119 = .ok (.ireturn, 1) := by decide +kernel
theorem dX5_storm_120 : decode cX5_storm 120 = .ok (.aload_n 3, 1) := by decide +kernel
theorem dX5_storm_121 : decode cX5_storm 121 = .ok (.getfield 90, 3) := by decide +kernel
theorem dX5_storm_124 : decode cX5_storm 124 = .ok (.invokevirtual 96, 3) := by decide +kernel
theorem dX5_storm_127 : decode cX5_storm 127 = .ok (.ireturn, 1) := by decide +kernel
theorem dX5_storm_128 : decode cX5_storm 128 = .ok (.ldc 41, 2) := by decide +kernel
theorem dX5_storm_130 : decode cX5_storm 130 = .ok (.ireturn, 1) := by decide +kernel
set_option maxRecDepth 20000 in
theorem ggX5_divided_X5_hasStorm : GoodIn wsX5_divided wsX5_hasStorm := goodIn_r _ [10, 11, 29, 30, 31, 32, 33, 34, 35, 36, 37, 38, 39] (by decide +kernel) (by decide +kernel)
set_option maxRecDepth 20000 in
theorem gX5_divided_X5_hasStorm : GoodIn wsX5_divided (wsV RX5 76 RX5 yX5_hasStorm wsX5_hasStorm) := goodIn_app (goodIn_of _ (by decide +kernel)) ggX5_divided_X5_hasStorm
set_option maxRecDepth 20000 in
theorem ggX5_divided_X3_goesEvenly : GoodIn wsX5_divided wsX3_goesEvenly := goodIn_r _ [16, 17, 40, 41, 42, 43] (by decide +kernel) (by decide +kernel)
set_option maxRecDepth 20000 in
theorem gX5_divided_X3_goesEvenly : GoodIn wsX5_divided (wsV RX5 99 RX3 yX3_goesEvenly wsX3_goesEvenly) := goodIn_app (goodIn_of _ (by decide +kernel)) ggX5_divided_X3_goesEvenly
set_option maxRecDepth 20000 in
theorem ggX5_divided_X2_size : GoodIn wsX5_divided wsX2_size := goodIn_r _ [22, 23, 44, 45] (by decide +kernel) (by decide +kernel)
set_option maxRecDepth 20000 in
theorem gX5_divided_X2_size : GoodIn wsX5_divided (wsV RX5 93 RX2 yX2_size wsX2_size) := goodIn_app (goodIn_of _ (by decide +kernel)) ggX5_divided_X2_size
set_option maxRecDepth 20000 in
theorem ggX5_divided_X2_at : GoodIn wsX5_divided wsX2_at := goodIn_r _ [27, 23, 28, 44, 45] (by decide +kernel) (by decide +kernel)
set_option maxRecDepth 20000 in
theorem gX5_divided_X2_at : GoodIn wsX5_divided (wsV RX5 85 RX2 yX2_at wsX2_at) := goodIn_app (goodIn_of _ (by decide +kernel)) ggX5_divided_X2_at
