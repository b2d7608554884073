theorem dX6_clear_29 : decode cX6_clear 29 = .ok (.iadd, 1) := by decide +kernel
theorem dX6_clear_30 : decode cX6_clear 30 = .ok (.laload, 1) := by decide +kernel
theorem dX6_clear_31 : decode cX6_clear 31 = .ok (.lstore 6, 2) := by decide +kernel
theorem dX6_clear_33 : decode cX6_clear 33 = .ok (.iconst 0, 1) := by decide +kernel
theorem dX6_clear_34 : decode cX6_clear 34 = .ok (.istore 8, 2) := by decide +kernel
theorem dX6_clear_36 : decode cX6_clear 36 = .ok (.iload 8, 2) := by decide +kernel
theorem dX6_clear_38 : decode cX6_clear 38 = .ok (.iload_n 2, 1) := by decide +kernel
theorem dX6_clear_39 : decode cX6_clear 39 = .ok (.if_icmp .gt 61, 3) := by decide +kernel
theorem dX6_clear_42 : decode cX6_clear 42 = .ok (.iload 5, 2) := by decide +kernel
theorem dX6_clear_44 : decode cX6_clear 44 = .ok (.iload_n 1, 1) := by decide +kernel
theorem dX6_clear_45 : decode cX6_clear 45 = .ok (.if_icmp .eq 55, 3) := by decide +kernel
theorem dX6_clear_48 : decode cX6_clear 48 = .ok (.aload_n 0, 1) := by decide +kernel
theorem dX6_clear_49 : decode cX6_clear 49 = .ok (.getfield 50, 3) := by decide +kernel
theorem dX6_clear_52 : decode cX6_clear 52 = .ok (.iconst 5, 1) := by decide +kernel
theorem dX6_clear_53 : decode cX6_clear 53 = .ok (.iload 5, 2) := by decide +kernel
theorem dX6_clear_55 : decode cX6_clear 55 = .ok (.imul, 1) := by decide +kernel
theorem dX6_clear_56 : decode cX6_clear 56 = .ok (.iload 8, 2) := by decide +kernel
theorem dX6_clear_58 : decode cX6_clear 58 = .ok (.iadd, 1) := by decide +kernel
theorem dX6_clear_59 : decode cX6_clear 59 = .ok (.lload_n 3, 1) := by decide +kernel
theorem dX6_clear_60 : decode cX6_clear 60 = .ok (.aload_n 0, 1) := by decide +kernel
theorem dX6_clear_61 : decode cX6_clear 61 = .ok (.getfield 50, 3) := by decide +kernel
theorem dX6_clear_64 : decode cX6_clear 64 = .ok (.iconst 5, 1) := by decide +kernel
theorem dX6_clear_65 : decode cX6_clear 65 = .ok (.iload 5, 2) := by decide +kernel
theorem dX6_clear_67 : decode cX6_clear 67 = .ok (.imul, 1) := by decide +kernel
theorem dX6_clear_68 : decode cX6_clear 68 = .ok (.iload 8, 2) := by decide +kernel
theorem dX6_clear_70 : decode cX6_clear 70 = .ok (.iadd, 1) := by decide +kernel
theorem dX6_clear_71 : decode cX6_clear 71 = .ok (.laload, 1) := by decide +kernel
theorem dX6_clear_72 : decode cX6_clear 72 = .ok (.lmul, 1) := by decide +kernel
theorem dX6_clear_73 : decode cX6_clear 73 = .ok (.lload 6, 2) := by decide +kernel
theorem dX6_clear_75 : decode cX6_clear 75 = .ok (.aload_n 0, 1) := by decide +kernel
theorem dX6_clear_76 : decode cX6_clear 76 = .ok (.getfield 50, 3) := by decide +kernel
theorem dX6_clear_79 : decode cX6_clear 79 = .ok (.iconst 5, 1) := by decide +kernel
theorem dX6_clear_80 : decode cX6_clear 80 = .ok (.iload_n 1, 1) := by decide +kernel
theorem dX6_clear_81 : decode cX6_clear 81 = .ok (.imul, 1) := by decide +kernel
theorem dX6_clear_82 : decode cX6_clear 82 = .ok (.iload 8, 2) := by decide +kernel
theorem dX6_clear_84 : decode cX6_clear 84 = .ok (.iadd, 1) := by decide +kernel
theorem dX6_clear_85 : decode cX6_clear 85 = .ok (.laload, 1) := by decide +kernel
theorem dX6_clear_86 : decode cX6_clear 86 = .ok (.lmul, 1) := by decide +kernel
theorem dX6_clear_87 : decode cX6_clear 87 = .ok (.lsub, 1) := by decide +kernel
theorem dX6_clear_88 : decode cX6_clear 88 = .ok (.aload_n 0, 1) := by decide +kernel
theorem dX6_clear_89 : decode cX6_clear 89 = .ok (.getfield 207, 3) := by decide +kernel
theorem dX6_clear_92 : decode cX6_clear 92 = .ok (.ldiv, 1) := by decide +kernel
theorem dX6_clear_93 : decode cX6_clear 93 = .ok (.lastore, 1) := by decide +kernel
theorem dX6_clear_94 : decode cX6_clear 94 = .ok (.iinc 8 1, 3) := by decide +kernel
theorem dX6_clear_97 : decode cX6_clear 97 = .ok (.goto (-61), 3) := by decide +kernel
theorem dX6_clear_100 : decode cX6_clear 100 = .ok (.iinc 5 1, 3) := by decide +kernel
theorem dX6_clear_103 : decode cX6_clear 103 = .ok (.goto (-89), 3) := by decide +kernel
theorem dX6_clear_106 : decode cX6_clear 106 = .ok (.aload_n 0, 1) := by decide +kernel
theorem dX6_clear_107 : decode cX6_clear 107 = .ok (.lload_n 3, 1) := by decide +kernel
theorem dX6_clear_108 : decode cX6_clear 108 = .ok (.putfield 207, 3) := by decide +kernel
theorem dX6_clear_111 : decode cX6_clear 111 = .ok (.return_, 1) := by decide +kernel
set_option maxRecDepth 20000 in
theorem ggX6_pressAbove_X6_apart : GoodIn wsX6_pressAbove wsX6_apart := goodIn_r _ [8] (by decide +kernel) (by decide +kernel)
set_option maxRecDepth 20000 in
theorem gX6_pressAbove_X6_apart : GoodIn wsX6_pressAbove (va_wsS RX6 204 yX6_apart wsX6_apart) := goodIn_app (goodIn_of _ (by decide +kernel)) ggX6_pressAbove_X6_apart
theorem dX6_pressAbove_0 : decode cX6_pressAbove 0 = .ok (.aload_n 0, 1) := by decide +kernel
theorem dX6_pressAbove_1 : decode cX6_pressAbove 1 = .ok (.getfield 47, 3) := by decide +kernel
theorem dX6_pressAbove_4 : decode cX6_pressAbove 4 = .ok (.iload_n 1, 1) := by decide +kernel
theorem dX6_pressAbove_5 : decode cX6_pressAbove 5 = .ok (.laload, 1) := by decide +kernel
theorem dX6_pressAbove_6 : decode cX6_pressAbove 6 = .ok (.lneg, 1) := by decide +kernel
theorem dX6_pressAbove_7 : decode cX6_pressAbove 7 = .ok (.aload_n 0, 1) := by decide +kernel
theorem dX6_pressAbove_8 : decode cX6_pressAbove 8 = .ok (.getfield 207, 3) := by decide +kernel
theorem dX6_pressAbove_11 : decode cX6_pressAbove 11 = .ok (.lmul, 1) := by decide +kernel
theorem dX6_pressAbove_12 : decode cX6_pressAbove 12 = .ok (.lstore_n 3, 1) := by decide +kernel
theorem dX6_pressAbove_13 : decode cX6_pressAbove 13 = .ok (.iconst 0, 1) := by decide +kernel
theorem dX6_pressAbove_14 : decode cX6_pressAbove 14 = .ok (.istore 5, 2) := by decide +kernel
theorem dX6_pressAbove_16 : decode cX6_pressAbove 16 = .ok (.iload 5, 2) := by decide +kernel
theorem dX6_pressAbove_18 : decode cX6_pressAbove 18 = .ok (.iload_n 2, 1) := by decide +kernel
theorem dX6_pressAbove_19 : decode cX6_pressAbove 19 = .ok (.if_icmp .ge 31, 3) := by decide +kernel
theorem dX6_pressAbove_22 : decode cX6_pressAbove 22 = .ok (.lload_n 3, 1) := by decide +kernel
theorem dX6_pressAbove_23 : decode cX6_pressAbove 23 = .ok (.aload_n 0, 1) := by decide +kernel
theorem dX6_pressAbove_24 : decode cX6_pressAbove 24 = .ok (.getfield 43, 3) := by decide +kernel
theorem dX6_pressAbove_27 : decode cX6_pressAbove 27 = .ok (.iload_n 1, 1) := by decide +kernel
theorem dX6_pressAbove_28 : decode cX6_pressAbove 28 = .ok (.iload 5, 2) := by decide +kernel
theorem dX6_pressAbove_30 : decode cX6_pressAbove 30 = .ok (.invokestatic 204, 3) := by decide +kernel
theorem dX6_pressAbove_33 : decode cX6_pressAbove 33 = .ok (.laload, 1) := by decide +kernel
theorem dX6_pressAbove_34 : decode cX6_pressAbove 34 = .ok (.aload_n 0, 1) := by decide +kernel
theorem dX6_pressAbove_35 : decode cX6_pressAbove 35 = .ok (.getfield 56, 3) := by decide +kernel
theorem dX6_pressAbove_38 : decode cX6_pressAbove 38 = .ok (.iload 5, 2) := by decide +kernel
theorem dX6_pressAbove_40 : decode cX6_pressAbove 40 = .ok (.laload, 1) := by decide +kernel
theorem dX6_pressAbove_41 : decode cX6_pressAbove 41 = .ok (.lmul, 1) := by decide +kernel
theorem dX6_pressAbove_42 : decode cX6_pressAbove 42 = .ok (.ladd, 1) := by decide +kernel
theorem dX6_pressAbove_43 : decode cX6_pressAbove 43 = .ok (.lstore_n 3, 1) := by decide +kernel
theorem dX6_pressAbove_44 : decode cX6_pressAbove 44 = .ok (.iinc 5 1, 3) := by decide +kernel
theorem dX6_pressAbove_47 : decode cX6_pressAbove 47 = .ok (.goto (-31), 3) := by decide +kernel
theorem dX6_pressAbove_50 : decode cX6_pressAbove 50 = .ok (.lload_n 3, 1) := by decide +kernel
theorem dX6_pressAbove_51 : decode cX6_pressAbove 51 = .ok (.lreturn, 1) := by decide +kernel
set_option maxRecDepth 20000 in
theorem ggX6_isBest_X6_pressAbove : GoodIn wsX6_isBest wsX6_pressAbove := goodIn_r _ [6, 7, 8, 9, 1, 10, 11, 5, 12, 13, 14, 15, 16, 17, 18, 19, 20, 21, 22, 23, 24, 25, 26, 27, 28, 29, 30, 31, 32, 33, 34, 35, 36, 37, 38, 39, 40, 41, 42, 43, 44, 45] (by decide +kernel) (by decide +kernel)
set_option maxRecDepth 20000 in
theorem gX6_isBest_X6_pressAbove : GoodIn wsX6_isBest (wsV RX6 214 RX6 yX6_pressAbove wsX6_pressAbove) := goodIn_app (goodIn_of _ (by decide +kernel)) ggX6_isBest_X6_pressAbove
theorem dX6_isBest_0 : decode cX6_isBest 0 = .ok (.iconst 1, 1) := by decide +kernel
theorem dX6_isBest_1 : decode cX6_isBest 1 = .ok (.istore_n 2, 1) := by decide +kernel
theorem dX6_isBest_2 : decode cX6_isBest 2 = .ok (.iconst 0, 1) := by decide +kernel
theorem dX6_isBest_3 : decode cX6_isBest 3 = .ok (.istore_n 3, 1) := by decide +kernel
theorem dX6_isBest_4 : decode cX6_isBest 4 = .ok (.iload_n 3, 1) := by decide +kernel
theorem dX6_isBest_5 : decode cX6_isBest 5 = .ok (.iload_n 1, 1) := by decide +kernel
theorem dX6_isBest_6 : decode cX6_isBest 6 = .ok (.if_icmp .ge 41, 3) := by decide +kernel
theorem dX6_isBest_9 : decode cX6_isBest 9 = .ok (.iload_n 2, 1) := by decide +kernel
theorem dX6_isBest_10 : decode cX6_isBest 10 = .ok (.ifCond .eq 29, 3) := by decide +kernel
theorem dX6_isBest_13 : decode cX6_isBest 13 = .ok (.aload_n 0, 1) := by decide +kernel
theorem dX6_isBest_14 : decode cX6_isBest 14 = .ok (.getfield 56, 3) := by decide +kernel
theorem dX6_isBest_17 : decode cX6_isBest 17 = .ok (.iload_n 3, 1) := by decide +kernel
theorem dX6_isBest_18 : decode cX6_isBest 18 = .ok (.laload, 1) := by decide +kernel
theorem dX6_isBest_19 : decode cX6_isBest 19 = .ok (.lconst 0, 1) := by decide +kernel
theorem dX6_isBest_20 : decode cX6_isBest 20 = .ok (.lcmp, 1) := by decide +kernel
theorem dX6_isBest_21 : decode cX6_isBest 21 = .ok (.ifCond .lt 18, 3) := by decide +kernel
theorem dX6_isBest_24 : decode cX6_isBest 24 = .ok (.aload_n 0, 1) := by decide +kernel
theorem dX6_isBest_25 : decode cX6_isBest 25 = .ok (.iload_n 3, 1) := by decide +kernel
theorem dX6_isBest_26 : decode cX6_isBest 26 = .ok (.iload_n 1, 1) := by decide +kernel
theorem dX6_isBest_27 : decode cX6_isBest 27 = .ok (.invokevirtual 214, 3) := by decide +kernel
theorem dX6_isBest_30 : decode cX6_isBest 30 = .ok (.lconst 0, 1) := by decide +kernel
theorem dX6_isBest_31 : decode cX6_isBest 31 = .ok (.lcmp, 1) := by decide +kernel
theorem dX6_isBest_32 : decode cX6_isBest 32 = .ok (.ifCond .lt 7, 3) := by decide +kernel
theorem dX6_isBest_35 : decode cX6_isBest 35 = .ok (.iconst 1, 1) := by decide +kernel
theorem dX6_isBest_36 : decode cX6_isBest 36 = .ok (.goto 4, 3) := by decide +kernel
theorem dX6_isBest_39 : decode cX6_isBest 39 = .ok (.iconst 0, 1) := by decide +kernel
theorem dX6_isBest_40 : decode cX6_isBest 40 = .ok (.istore_n 2, 1) := by decide +kernel
theorem dX6_isBest_41 : decode cX6_isBest 41 = .ok (.iinc 3 1, 3) := by decide +kernel
theorem dX6_isBest_44 : decode cX6_isBest 44 = .ok (.goto (-40), 3) := by decide +kernel
theorem dX6_isBest_47 : decode cX6_isBest 47 = .ok (.iload_n 2, 1) := by decide +kernel
theorem dX6_isBest_48 : decode cX6_isBest 48 = .ok (.ireturn, 1) := by decide +kernel
set_option maxRecDepth 20000 in
theorem ggX6_layBest_X6_layProducts : GoodIn wsX6_layBest wsX6_layProducts := goodIn_r _ [5, 6, 7, 8, 9, 10, 11, 12, 4, 13, 14, 15, 16, 17, 18, 19, 20, 21, 22, 46, 47, 48, 49, 50, 51, 52, 53, 54, 55, 56, 57, 58, 59, 60, 61, 62, 63, 64, 65, 66, 67, 68, 69, 70, 71, 72, 73, 74, 75, 76, 77, 78] (by decide +kernel) (by decide +kernel)
set_option maxRecDepth 20000 in
theorem gX6_layBest_X6_layProducts : GoodIn wsX6_layBest (wsV RX6 218 RX6 yX6_layProducts wsX6_layProducts) := goodIn_app (goodIn_of _ (by decide +kernel)) ggX6_layBest_X6_layProducts
set_option maxRecDepth 20000 in
theorem ggX6_layBest_X6_solve : GoodIn wsX6_layBest wsX6_solve := goodIn_r _ [26, 27, 28, 29, 7, 8, 30, 31, 32, 4, 33, 34, 35, 36, 37, 46, 47, 48, 49, 50, 51, 52, 53, 54, 55, 56, 57, 58, 59, 60, 61, 62, 63, 64, 65, 66, 67, 68, 69, 70, 71, 72, 73, 74, 75, 76, 77, 78] (by decide +kernel) (by decide +kernel)
set_option maxRecDepth 20000 in
theorem gX6_layBest_X6_solve : GoodIn wsX6_layBest (wsV RX6 222 RX6 yX6_solve wsX6_solve) := goodIn_app (goodIn_of _ (by decide +kernel)) ggX6_layBest_X6_solve
set_option maxRecDepth 20000 in
theorem ggX6_layBest_X6_isBest : GoodIn wsX6_layBest wsX6_isBest := goodIn_r _ [41, 27, 42, 43, 44, 4, 45, 8, 30, 7, 31, 32, 33, 46, 47, 48, 49, 50, 51, 52, 53, 54, 55, 56, 57, 58, 59, 60, 61, 62, 63, 64, 65, 66, 67, 68, 69, 70, 71, 72, 73, 74, 75, 76, 77, 78] (by decide +kernel) (by decide +kernel)
set_option maxRecDepth 20000 in
theorem gX6_layBest_X6_isBest : GoodIn wsX6_layBest (wsV RX6 225 RX6 yX6_isBest wsX6_isBest) := goodIn_app (goodIn_of _ (by decide +kernel)) ggX6_layBest_X6_isBest
theorem dX6_layBest_0 : decode cX6_layBest 0 = .ok (.aload_n 0, 1) := by decide +kernel
theorem dX6_layBest_1 : decode cX6_layBest 1 = .ok (.iload_n 1, 1) := by decide +kernel
theorem dX6_layBest_2 : decode cX6_layBest 2 = .ok (.invokevirtual 218, 3) := by decide +kernel
theorem dX6_layBest_5 : decode cX6_layBest 5 = .ok (.iconst 0, 1) := by decide +kernel
theorem dX6_layBest_6 : decode cX6_layBest 6 = .ok (.istore_n 3, 1) := by decide +kernel
theorem dX6_layBest_7 : decode cX6_layBest 7 = .ok (.aload_n 0, 1) := by decide +kernel
theorem dX6_layBest_8 : decode cX6_layBest 8 = .ok (.iload_n 3, 1) := by decide +kernel
theorem dX6_layBest_9 : decode cX6_layBest 9 = .ok (.iload_n 2, 1) := by decide +kernel
theorem dX6_layBest_10 : decode cX6_layBest 10 = .ok (.invokevirtual 222, 3) := by decide +kernel
theorem dX6_layBest_13 : decode cX6_layBest 13 = .ok (.aload_n 0, 1) := by decide +kernel
theorem dX6_layBest_14 : decode cX6_layBest 14 = .ok (.iload_n 2, 1) := by decide +kernel
theorem dX6_layBest_15 : decode cX6_layBest 15 = .ok (.invokevirtual 225, 3) := by decide +kernel
theorem dX6_layBest_18 : decode cX6_layBest 18 = .ok (.ifCond .ne 15, 3) := by decide +kernel
theorem dX6_layBest_21 : decode cX6_layBest 21 = .ok (.iinc 3 1, 3) := by decide +kernel
theorem dX6_layBest_24 : decode cX6_layBest 24 = .ok (.aload_n 0, 1) := by decide +kernel
theorem dX6_layBest_25 : decode cX6_layBest 25 = .ok (.iload_n 3, 1) := by decide +kernel
theorem dX6_layBest_26 : decode cX6_layBest 26 = .ok (.iload_n 2, 1) := by decide +kernel
theorem dX6_layBest_27 : decode cX6_layBest 27 = .ok (.invokevirtual 222, 3) := by decide +kernel
theorem dX6_layBest_30 : decode cX6_layBest 30 = .ok (.goto (-17), 3) := by decide +kernel
theorem dX6_layBest_33 : decode cX6_layBest 33 = .ok (.return_, 1) := by decide +kernel
set_option maxRecDepth 20000 in
theorem ggX6_isAsk_X6_within : GoodIn wsX6_isAsk wsX6_within := goodIn_r _ [5] (by decide +kernel) (by decide +kernel)
set_option maxRecDepth 20000 in
theorem gX6_isAsk_X6_within : GoodIn wsX6_isAsk (va_wsS RX6 59 yX6_within wsX6_within) := goodIn_app (goodIn_of _ (by decide +kernel)) ggX6_isAsk_X6_within
theorem dX6_isAsk_0 : decode cX6_isAsk 0 = .ok (.iload_n 1, 1) := by decide +kernel
theorem dX6_isAsk_1 : decode cX6_isAsk 1 = .ok (.iconst 1, 1) := by decide +kernel
theorem dX6_isAsk_2 : decode cX6_isAsk 2 = .ok (.iconst 1, 1) := by decide +kernel
theorem dX6_isAsk_3 : decode cX6_isAsk 3 = .ok (.aload_n 0, 1) := by decide +kernel
theorem dX6_isAsk_4 : decode cX6_isAsk 4 = .ok (.getfield 114, 3) := by decide +kernel
theorem dX6_isAsk_7 : decode cX6_isAsk 7 = .ok (.ishl, 1) := by decide +kernel
theorem dX6_isAsk_8 : decode cX6_isAsk 8 = .ok (.iconst 1, 1) := by decide +kernel
theorem dX6_isAsk_9 : decode cX6_isAsk 9 = .ok (.isub, 1) := by decide +kernel
theorem dX6_isAsk_10 : decode cX6_isAsk 10 = .ok (.invokestatic 59, 3) := by decide +kernel
theorem dX6_isAsk_13 : decode cX6_isAsk 13 = .ok (.ifCond .eq 16, 3) := by decide +kernel
theorem dX6_isAsk_16 : decode cX6_isAsk 16 = .ok (.iload_n 2, 1) := by decide +kernel
theorem dX6_isAsk_17 : decode cX6_isAsk 17 = .ok (.iconst 1, 1) := by decide +kernel
theorem dX6_isAsk_18 : decode cX6_isAsk 18 = .ok (.iconst 4, 1) := by decide +kernel
theorem dX6_isAsk_19 : decode cX6_isAsk 19 = .ok (.invokestatic 59, 3) := by decide +kernel
theorem dX6_isAsk_22 : decode cX6_isAsk 22 = .ok (.ifCond .eq 7, 3) := by decide +kernel
theorem dX6_isAsk_25 : decode cX6_isAsk 25 = .ok (.iconst 1, 1) := by decide +kernel
theorem dX6_isAsk_26 : decode cX6_isAsk 26 = .ok (.goto 4, 3) := by decide +kernel
theorem dX6_isAsk_29 : decode cX6_isAsk 29 = .ok (.iconst 0, 1) := by decide +kernel
theorem dX6_isAsk_30 : decode cX6_isAsk 30 = .ok (.ireturn, 1) := by decide +kernel
set_option maxRecDepth 20000 in
theorem ggX6_bestNow_X6_layBest : GoodIn wsX6_bestNow wsX6_layBest := goodIn_r _ [7, 8, 9, 10, 6, 11, 12, 13, 14, 15, 16, 17, 18, 19, 20, 21, 22, 23, 24, 25, 26, 27, 28, 29, 30, 31, 32, 1, 33, 34, 2, 35, 36, 37, 38, 39, 40, 41, 42, 43, 44, 45, 46, 47, 48, 49, 56, 57, 58, 59, 60, 61, 62, 63, 64, 65, 66, 67, 68, 69, 70, 71, 72, 73, 74, 75, 76, 77, 78, 79, 80, 81, 82, 83, 84, 85, 86, 87, 88] (by decide +kernel) (by decide +kernel)
set_option maxRecDepth 20000 in
theorem gX6_bestNow_X6_layBest : GoodIn wsX6_bestNow (wsV RX6 228 RX6 yX6_layBest wsX6_layBest) := goodIn_app (goodIn_of _ (by decide +kernel)) ggX6_bestNow_X6_layBest
set_option maxRecDepth 20000 in
theorem ggX6_bestNow_X6_lowest : GoodIn wsX6_bestNow wsX6_lowest := goodIn_r _ [52, 53, 54, 6, 55] (by decide +kernel) (by decide +kernel)
set_option maxRecDepth 20000 in
theorem gX6_bestNow_X6_lowest : GoodIn wsX6_bestNow (va_wsS RX6 196 yX6_lowest wsX6_lowest) := goodIn_app (goodIn_of _ (by decide +kernel)) ggX6_bestNow_X6_lowest
theorem dX6_bestNow_0 : decode cX6_bestNow 0 = .ok (.aload_n 0, 1) := by decide +kernel
theorem dX6_bestNow_1 : decode cX6_bestNow 1 = .ok (.iload_n 1, 1) := by decide +kernel
theorem dX6_bestNow_2 : decode cX6_bestNow 2 = .ok (.iload_n 2, 1) := by decide +kernel
theorem dX6_bestNow_3 : decode cX6_bestNow 3 = .ok (.invokevirtual 228, 3) := by decide +kernel
theorem dX6_bestNow_6 : decode cX6_bestNow 6 = .ok (.aload_n 0, 1) := by decide +kernel
theorem dX6_bestNow_7 : decode cX6_bestNow 7 = .ok (.getfield 56, 3) := by decide +kernel
theorem dX6_bestNow_10 : decode cX6_bestNow 10 = .ok (.iload_n 3, 1) := by decide +kernel
theorem dX6_bestNow_11 : decode cX6_bestNow 11 = .ok (.laload, 1) := by decide +kernel
theorem dX6_bestNow_12 : decode cX6_bestNow 12 = .ok (.aload_n 0, 1) := by decide +kernel
theorem dX6_bestNow_13 : decode cX6_bestNow 13 = .ok (.getfield 207, 3) := by decide +kernel
theorem dX6_bestNow_16 : decode cX6_bestNow 16 = .ok (.iload 4, 2) := by decide +kernel
theorem dX6_bestNow_18 : decode cX6_bestNow 18 = .ok (.invokestatic 196, 3) := by decide +kernel
theorem dX6_bestNow_21 : decode cX6_bestNow 21 = .ok (.lreturn, 1) := by decide +kernel
set_option maxRecDepth 20000 in
theorem ggX6_best_X6_isAsk : GoodIn wsX6_best wsX6_isAsk := goodIn_r _ [6, 7, 8, 9, 5, 10, 65, 66, 67, 68, 69, 70, 71, 72, 73, 74, 75, 76, 77, 78, 79, 80, 81, 82, 83, 84, 85, 86, 87, 88, 89, 90, 91, 92, 93, 94, 95, 96, 97] (by decide +kernel) (by decide +kernel)
set_option maxRecDepth 20000 in
theorem gX6_best_X6_isAsk : GoodIn wsX6_best (wsV RX6 231 RX6 yX6_isAsk wsX6_isAsk) := goodIn_app (goodIn_of _ (by decide +kernel)) ggX6_best_X6_isAsk
set_option maxRecDepth 20000 in
theorem ggX6_best_X6_within : GoodIn wsX6_best wsX6_within := goodIn_r _ [10] (by decide +kernel) (by decide +kernel)
set_option maxRecDepth 20000 in
theorem gX6_best_X6_within : GoodIn wsX6_best (va_wsS RX6 59 yX6_within wsX6_within) := goodIn_app (goodIn_of _ (by decide +kernel)) ggX6_best_X6_within
set_option maxRecDepth 20000 in
theorem ggX6_best_X6_bestNow : GoodIn wsX6_best wsX6_bestNow := goodIn_r _ [14, 15, 16, 17, 18, 19, 5, 20, 21, 22, 23, 24, 25, 26, 27, 7, 28, 29, 30, 31, 32, 8, 9, 10, 33, 34, 35, 36, 37, 38, 39, 40, 41, 42, 43, 44, 45, 46, 47, 48, 49, 50, 51, 52, 53, 54, 55, 56, 57, 58, 59, 60, 61, 62, 63, 64, 65, 66, 67, 68, 69, 70, 71, 72, 73, 74, 75, 76, 77, 78, 79, 80, 81, 82, 83, 84, 85, 86, 87, 88, 89, 90, 91, 92, 93, 94, 95, 96, 97] (by decide +kernel) (by decide +kernel)
set_option maxRecDepth 20000 in
theorem gX6_best_X6_bestNow : GoodIn wsX6_best (wsV RX6 235 RX6 yX6_bestNow wsX6_bestNow) := goodIn_app (goodIn_of _ (by decide +kernel)) ggX6_best_X6_bestNow
theorem dX6_best_0 : decode cX6_best 0 = .ok (.aload_n 0, 1) := by decide +kernel
theorem dX6_best_1 : decode cX6_best 1 = .ok (.iload_n 1, 1) := by decide +kernel
theorem dX6_best_2 : decode cX6_best 2 = .ok (.iload_n 2, 1) := by decide +kernel
theorem dX6_best_3 : decode cX6_best 3 = .ok (.invokevirtual 231, 3) := by decide +kernel
theorem dX6_best_6 : decode cX6_best 6 = .ok (.ifCond .eq 36, 3) := by decide +kernel
theorem dX6_best_9 : decode cX6_best 9 = .ok (.iload_n 3, 1) := by decide +kernel
theorem dX6_best_10 : decode cX6_best 10 = .ok (.iconst 0, 1) := by decide +kernel
theorem dX6_best_11 : decode cX6_best 11 = .ok (.iload_n 2, 1) := by decide +kernel
theorem dX6_best_12 : decode cX6_best 12 = .ok (.iconst 1, 1) := by decide +kernel
theorem dX6_best_13 : decode cX6_best 13 = .ok (.isub, 1) := by decide +kernel
theorem dX6_best_14 : decode cX6_best 14 = .ok (.invokestatic 59, 3) := by decide +kernel
theorem dX6_best_17 : decode cX6_best 17 = .ok (.ifCond .eq 25, 3) := by decide +kernel
theorem dX6_best_20 : decode cX6_best 20 = .ok (.iload 4, 2) := by decide +kernel
theorem dX6_best_22 : decode cX6_best 22 = .ok (.iconst 0, 1) := by decide +kernel
theorem dX6_best_23 : decode cX6_best 23 = .ok (.iconst 1, 1) := by decide +kernel
theorem dX6_best_24 : decode cX6_best 24 = .ok (.invokestatic 59, 3) := by decide +kernel
theorem dX6_best_27 : decode cX6_best 27 = .ok (.ifCond .eq 15, 3) := by decide +kernel
theorem dX6_best_30 : decode cX6_best 30 = .ok (.aload_n 0, 1) := by decide +kernel
theorem dX6_best_31 : decode cX6_best 31 = .ok (.iload_n 1, 1) := by decide +kernel
theorem dX6_best_32 : decode cX6_best 32 = .ok (.iload_n 2, 1) := by decide +kernel
theorem dX6_best_33 : decode cX6_best 33 = .ok (.iload_n 3, 1) := by decide +kernel
theorem dX6_best_34 : decode cX6_best 34 = .ok (.iload 4, 2) := by decide +kernel
theorem dX6_best_36 : decode cX6_best 36 = .ok (.invokevirtual 235, 3) := by decide +kernel
theorem dX6_best_39 : decode cX6_best 39 = .ok (.goto 6, 3) := by decide +kernel
theorem dX6_best_42 : decode cX6_best 42 = .ok (.ldc2_w 239, 3) := by decide +kernel
theorem dX6_best_45 : decode cX6_best 45 = .ok (.lreturn, 1) := by decide +kernel
set_option maxRecDepth 20000 in
theorem ggX6_lossNow_X6_layBest : GoodIn wsX6_lossNow wsX6_layBest := goodIn_r _ [9, 10, 11, 12, 8, 13, 1, 14, 4, 15, 16, 17, 18, 19, 20, 21, 22, 23, 24, 25, 26, 27, 28, 29, 30, 31, 32, 3, 33, 34, 2, 35, 36, 37, 38, 39, 40, 41, 42, 43, 44, 45, 46, 47, 48, 49, 56, 57, 58, 59, 60, 61, 62, 63, 64, 65, 66, 67, 68, 69, 70, 71, 72, 73, 74, 75, 76, 77, 78, 79, 80, 81, 82, 83, 84, 85, 86, 87, 88] (by decide +kernel) (by decide +kernel)
set_option maxRecDepth 20000 in
theorem gX6_lossNow_X6_layBest : GoodIn wsX6_lossNow (wsV RX6 228 RX6 yX6_layBest wsX6_layBest) := goodIn_app (goodIn_of _ (by decide +kernel)) ggX6_lossNow_X6_layBest
set_option maxRecDepth 20000 in
theorem ggX6_lossNow_X6_lowest : GoodIn wsX6_lossNow wsX6_lowest := goodIn_r _ [52, 53, 54, 8, 55] (by decide +kernel) (by decide +kernel)
set_option maxRecDepth 20000 in
theorem gX6_lossNow_X6_lowest : GoodIn wsX6_lossNow (va_wsS RX6 196 yX6_lowest wsX6_lowest) := goodIn_app (goodIn_of _ (by decide +kernel)) ggX6_lossNow_X6_lowest
theorem dX6_lossNow_0 : decode cX6_lossNow 0 = .ok (.aload_n 0, 1) := by decide +kernel
theorem dX6_lossNow_1 : decode cX6_lossNow 1 = .ok (.iload_n 1, 1) := by decide +kernel
theorem dX6_lossNow_2 : decode cX6_lossNow 2 = .ok (.iload_n 2, 1) := by decide +kernel
theorem dX6_lossNow_3 : decode cX6_lossNow 3 = .ok (.invokevirtual 228, 3) := by decide +kernel
theorem dX6_lossNow_6 : decode cX6_lossNow 6 = .ok (.aload_n 0, 1) := by decide +kernel
theorem dX6_lossNow_7 : decode cX6_lossNow 7 = .ok (.getfield 200, 3) := by decide +kernel
theorem dX6_lossNow_10 : decode cX6_lossNow 10 = .ok (.aload_n 0, 1) := by decide +kernel
theorem dX6_lossNow_11 : decode cX6_lossNow 11 = .ok (.getfield 207, 3) := by decide +kernel
theorem dX6_lossNow_14 : decode cX6_lossNow 14 = .ok (.lmul, 1) := by decide +kernel
theorem dX6_lossNow_15 : decode cX6_lossNow 15 = .ok (.lstore 4, 2) := by decide +kernel
theorem dX6_lossNow_17 : decode cX6_lossNow 17 = .ok (.iconst 0, 1) := by decide +kernel
theorem dX6_lossNow_18 : decode cX6_lossNow 18 = .ok (.istore 6, 2) := by decide +kernel
theorem dX6_lossNow_20 : decode cX6_lossNow 20 = .ok (.iload 6, 2) := by decide +kernel
theorem dX6_lossNow_22 : decode cX6_lossNow 22 = .ok (.iload_n 2, 1) := by decide +kernel
theorem dX6_lossNow_23 : decode cX6_lossNow 23 = .ok (.if_icmp .ge 29, 3) := by decide +kernel
theorem dX6_lossNow_26 : decode cX6_lossNow 26 = .ok (.lload 4, 2) := by decide +kernel
theorem dX6_lossNow_28 : decode cX6_lossNow 28 = .ok (.aload_n 0, 1) := by decide +kernel
theorem dX6_lossNow_29 : decode cX6_lossNow 29 = .ok (.getfield 56, 3) := by decide +kernel
theorem dX6_lossNow_32 : decode cX6_lossNow 32 = .ok (.iload 6, 2) := by decide +kernel
theorem dX6_lossNow_34 : decode cX6_lossNow 34 = .ok (.laload, 1) := by decide +kernel
theorem dX6_lossNow_35 : decode cX6_lossNow 35 = .ok (.aload_n 0, 1) := by decide +kernel
theorem dX6_lossNow_36 : decode cX6_lossNow 36 = .ok (.getfield 47, 3) := by decide +kernel
theorem dX6_lossNow_39 : decode cX6_lossNow 39 = .ok (.iload 6, 2) := by decide +kernel
theorem dX6_lossNow_41 : decode cX6_lossNow 41 = .ok (.laload, 1) := by decide +kernel
theorem dX6_lossNow_42 : decode cX6_lossNow 42 = .ok (.lmul, 1) := by decide +kernel
theorem dX6_lossNow_43 : decode cX6_lossNow 43 = .ok (.lsub, 1) := by decide +kernel
theorem dX6_lossNow_44 : decode cX6_lossNow 44 = .ok (.lstore 4, 2) := by decide +kernel
theorem dX6_lossNow_46 : decode cX6_lossNow 46 = .ok (.iinc 6 1, 3) := by decide +kernel
theorem dX6_lossNow_49 : decode cX6_lossNow 49 = .ok (.goto (-29), 3) := by decide +kernel
theorem dX6_lossNow_52 : decode cX6_lossNow 52 = .ok (.lload 4, 2) := by decide +kernel
theorem dX6_lossNow_54 : decode cX6_lossNow 54 = .ok (.aload_n 0, 1) := by decide +kernel
theorem dX6_lossNow_55 : decode cX6_lossNow 55 = .ok (.getfield 207, 3) := by decide +kernel
theorem dX6_lossNow_58 : decode cX6_lossNow 58 = .ok (.iload_n 3, 1) := by decide +kernel
theorem dX6_lossNow_59 : decode cX6_lossNow 59 = .ok (.invokestatic 196, 3) := by decide +kernel
theorem dX6_lossNow_62 : decode cX6_lossNow 62 = .ok (.lreturn, 1) := by decide +kernel
set_option maxRecDepth 20000 in
theorem ggX6_loss_X6_isAsk : GoodIn wsX6_loss wsX6_isAsk := goodIn_r _ [6, 7, 8, 9, 5, 10, 65, 66, 67, 68, 69, 70, 71, 72, 73, 74, 75, 76, 77, 78, 79, 80, 81, 82, 83, 84, 85, 86, 87, 88, 89, 90, 91, 92, 93, 94, 95, 96, 97] (by decide +kernel) (by decide +kernel)
set_option maxRecDepth 20000 in
theorem gX6_loss_X6_isAsk : GoodIn wsX6_loss (wsV RX6 231 RX6 yX6_isAsk wsX6_isAsk) := goodIn_app (goodIn_of _ (by decide +kernel)) ggX6_loss_X6_isAsk
set_option maxRecDepth 20000 in
theorem ggX6_loss_X6_within : GoodIn wsX6_loss wsX6_within := goodIn_r _ [10] (by decide +kernel) (by decide +kernel)
set_option maxRecDepth 20000 in
theorem gX6_loss_X6_within : GoodIn wsX6_loss (va_wsS RX6 59 yX6_within wsX6_within) := goodIn_app (goodIn_of _ (by decide +kernel)) ggX6_loss_X6_within
set_option maxRecDepth 20000 in
theorem ggX6_loss_X6_lossNow : GoodIn wsX6_loss wsX6_lossNow := goodIn_r _ [14, 15, 16, 17, 18, 19, 20, 21, 5, 22, 23, 24, 25, 26, 27, 7, 28, 29, 30, 31, 32, 8, 9, 10, 33, 34, 35, 36, 37, 38, 39, 40, 41, 42, 43, 44, 45, 46, 47, 48, 49, 50, 51, 52, 53, 54, 55, 56, 57, 58, 59, 60, 61, 62, 63, 64, 65, 66, 67, 68, 69, 70, 71, 72, 73, 74, 75, 76, 77, 78, 79, 80, 81, 82, 83, 84, 85, 86, 87, 88, 89, 90, 91, 92, 93, 94, 95, 96, 97] (by decide +kernel) (by decide +kernel)
set_option maxRecDepth 20000 in
theorem gX6_loss_X6_lossNow : GoodIn wsX6_loss (wsV RX6 241 RX6 yX6_lossNow wsX6_lossNow) := goodIn_app (goodIn_of _ (by decide +kernel)) ggX6_loss_X6_lossNow
theorem dX6_loss_0 : decode cX6_loss 0 = .ok (.aload_n 0, 1) := by decide +kernel
theorem dX6_loss_1 : decode cX6_loss 1 = .ok (.iload_n 1, 1) := by decide +kernel
theorem dX6_loss_2 : decode cX6_loss 2 = .ok (.iload_n 2, 1) := by decide +kernel
theorem dX6_loss_3 : decode cX6_loss 3 = .ok (.invokevirtual 231, 3) := by decide +kernel
theorem dX6_loss_6 : decode cX6_loss 6 = .ok (.ifCond .eq 22, 3) := by decide +kernel
theorem dX6_loss_9 : decode cX6_loss 9 = .ok (.iload_n 3, 1) := by decide +kernel
theorem dX6_loss_10 : decode cX6_loss 10 = .ok (.iconst 0, 1) := by decide +kernel
theorem dX6_loss_11 : decode cX6_loss 11 = .ok (.iconst 1, 1) := by decide +kernel
theorem dX6_loss_12 : decode cX6_loss 12 = .ok (.invokestatic 59, 3) := by decide +kernel
theorem dX6_loss_15 : decode cX6_loss 15 = .ok (.ifCond .eq 13, 3) := by decide +kernel
theorem dX6_loss_18 : decode cX6_loss 18 = .ok (.aload_n 0, 1) := by decide +kernel
theorem dX6_loss_19 : decode cX6_loss 19 = .ok (.iload_n 1, 1) := by decide +kernel
theorem dX6_loss_20 : decode cX6_loss 20 = .ok (.iload_n 2, 1) := by decide +kernel
theorem dX6_loss_21 : decode cX6_loss 21 = .ok (.iload_n 3, 1) := by decide +kernel
theorem dX6_loss_22 : decode cX6_loss 22 = .ok (.invokevirtual 241, 3) := by decide +kernel
theorem dX6_loss_25 : decode cX6_loss 25 = .ok (.goto 6, 3) := by decide +kernel
theorem dX6_loss_28 : decode cX6_loss 28 = .ok (.ldc2_w 239, 3) := by decide +kernel
theorem dX6_loss_31 : decode cX6_loss 31 = .ok (.lreturn, 1) := by decide +kernel
set_option maxRecDepth 20000 in
theorem ggX6_pressNow_X6_layBest : GoodIn wsX6_pressNow wsX6_layBest := goodIn_r _ [6, 7, 8, 9, 5, 10, 11, 12, 13, 14, 15, 16, 17, 18, 19, 20, 21, 22, 23, 24, 25, 26, 27, 28, 29, 30, 31, 32, 33, 34, 1, 35, 36, 37, 38, 39, 40, 41, 42, 43, 44, 45, 46, 47, 48, 49, 56, 57, 58, 59, 60, 61, 62, 63, 64, 65, 66, 67, 68, 69, 70, 71, 72, 73, 74, 75, 76, 77, 78, 79, 80, 81, 82, 83, 84, 85, 86, 87, 88] (by decide +kernel) (by decide +kernel)
set_option maxRecDepth 20000 in
theorem gX6_pressNow_X6_layBest : GoodIn wsX6_pressNow (wsV RX6 228 RX6 yX6_layBest wsX6_layBest) := goodIn_app (goodIn_of _ (by decide +kernel)) ggX6_pressNow_X6_layBest
set_option maxRecDepth 20000 in
theorem ggX6_pressNow_X6_pressAbove : GoodIn wsX6_pressNow wsX6_pressAbove := goodIn_r _ [49, 13, 1, 12, 32, 35, 36, 5, 37, 56, 57, 58, 59, 60, 61, 62, 63, 64, 65, 66, 67, 68, 69, 70, 71, 72, 73, 74, 75, 76, 77, 78, 79, 80, 81, 82, 83, 84, 85, 86, 87, 88] (by decide +kernel) (by decide +kernel)
set_option maxRecDepth 20000 in
theorem gX6_pressNow_X6_pressAbove : GoodIn wsX6_pressNow (wsV RX6 214 RX6 yX6_pressAbove wsX6_pressAbove) := goodIn_app (goodIn_of _ (by decide +kernel)) ggX6_pressNow_X6_pressAbove
set_option maxRecDepth 20000 in
theorem ggX6_pressNow_X6_lowest : GoodIn wsX6_pressNow wsX6_lowest := goodIn_r _ [52, 53, 54, 5, 55] (by decide +kernel) (by decide +kernel)
set_option maxRecDepth 20000 in
theorem gX6_pressNow_X6_lowest : GoodIn wsX6_pressNow (va_wsS RX6 196 yX6_lowest wsX6_lowest) := goodIn_app (goodIn_of _ (by decide +kernel)) ggX6_pressNow_X6_lowest
theorem dX6_pressNow_0 : decode cX6_pressNow 0 = .ok (.aload_n 0, 1) := by decide +kernel
theorem dX6_pressNow_1 : decode cX6_pressNow 1 = .ok (.iload_n 1, 1) := by decide +kernel
theorem dX6_pressNow_2 : decode cX6_pressNow 2 = .ok (.iload_n 2, 1) := by decide +kernel
theorem dX6_pressNow_3 : decode cX6_pressNow 3 = .ok (.invokevirtual 228, 3) := by decide +kernel
theorem dX6_pressNow_6 : decode cX6_pressNow 6 = .ok (.aload_n 0, 1) := by decide +kernel
theorem dX6_pressNow_7 : decode cX6_pressNow 7 = .ok (.iload_n 3, 1) := by decide +kernel
theorem dX6_pressNow_8 : decode cX6_pressNow 8 = .ok (.iload_n 2, 1) := by decide +kernel
theorem dX6_pressNow_9 : decode cX6_pressNow 9 = .ok (.invokevirtual 214, 3) := by decide +kernel
theorem dX6_pressNow_12 : decode cX6_pressNow 12 = .ok (.aload_n 0, 1) := by decide +kernel
theorem dX6_pressNow_13 : decode cX6_pressNow 13 = .ok (.getfield 207, 3) := by decide +kernel
theorem dX6_pressNow_16 : decode cX6_pressNow 16 = .ok (.iload 4, 2) := by decide +kernel
theorem dX6_pressNow_18 : decode cX6_pressNow 18 = .ok (.invokestatic 196, 3) := by decide +kernel
theorem dX6_pressNow_21 : decode cX6_pressNow 21 = .ok (.lreturn, 1) := by decide +kernel
set_option maxRecDepth 20000 in
theorem ggX6_press_X6_isAsk : GoodIn wsX6_press wsX6_isAsk := goodIn_r _ [6, 7, 8, 9, 5, 10, 65, 66, 67, 68, 69, 70, 71, 72, 73, 74, 75, 76, 77, 78, 79, 80, 81, 82, 83, 84, 85, 86, 87, 88, 89, 90, 91, 92, 93, 94, 95, 96, 97] (by decide +kernel) (by decide +kernel)
set_option maxRecDepth 20000 in
theorem gX6_press_X6_isAsk : GoodIn wsX6_press (wsV RX6 231 RX6 yX6_isAsk wsX6_isAsk) := goodIn_app (goodIn_of _ (by decide +kernel)) ggX6_press_X6_isAsk
set_option maxRecDepth 20000 in
theorem ggX6_press_X6_within : GoodIn wsX6_press wsX6_within := goodIn_r _ [10] (by decide +kernel) (by decide +kernel)
set_option maxRecDepth 20000 in
theorem gX6_press_X6_within : GoodIn wsX6_press (va_wsS RX6 59 yX6_within wsX6_within) := goodIn_app (goodIn_of _ (by decide +kernel)) ggX6_press_X6_within
set_option maxRecDepth 20000 in
theorem ggX6_press_X6_pressNow : GoodIn wsX6_press wsX6_pressNow := goodIn_r _ [14, 15, 16, 17, 18, 5, 19, 20, 21, 22, 23, 24, 25, 26, 7, 27, 28, 29, 30, 31, 8, 9, 10, 32, 33, 34, 35, 36, 37, 38, 39, 40, 41, 42, 43, 44, 45, 46, 47, 48, 49, 50, 51, 52, 53, 54, 55, 56, 57, 58, 59, 60, 61, 62, 63, 64, 65, 66, 67, 68, 69, 70, 71, 72, 73, 74, 75, 76, 77, 78, 79, 80, 81, 82, 83, 84, 85, 86, 87, 88, 89, 90, 91, 92, 93, 94, 95, 96, 97] (by decide +kernel) (by decide +kernel)
set_option maxRecDepth 20000 in
theorem gX6_press_X6_pressNow : GoodIn wsX6_press (wsV RX6 245 RX6 yX6_pressNow wsX6_pressNow) := goodIn_app (goodIn_of _ (by decide +kernel)) ggX6_press_X6_pressNow
theorem dX6_press_0 : decode cX6_press 0 = .ok (.aload_n 0, 1) := by decide +kernel
theorem dX6_press_1 : decode cX6_press 1 = .ok (.iload_n 1, 1) := by decide +kernel
theorem dX6_press_2 : decode cX6_press 2 = .ok (.iload_n 2, 1) := by decide +kernel
theorem dX6_press_3 : decode cX6_press 3 = .ok (.invokevirtual 231, 3) := by decide +kernel
theorem dX6_press_6 : decode cX6_press 6 = .ok (.ifCond .eq 36, 3) := by decide +kernel
theorem dX6_press_9 : decode cX6_press 9 = .ok (.iload_n 3, 1) := by decide +kernel
theorem dX6_press_10 : decode cX6_press 10 = .ok (.iconst 0, 1) := by decide +kernel
theorem dX6_press_11 : decode cX6_press 11 = .ok (.iload_n 2, 1) := by decide +kernel
theorem dX6_press_12 : decode cX6_press 12 = .ok (.iconst 1, 1) := by decide +kernel
theorem dX6_press_13 : decode cX6_press 13 = .ok (.isub, 1) := by decide +kernel
theorem dX6_press_14 : decode cX6_press 14 = .ok (.invokestatic 59, 3) := by decide +kernel
theorem dX6_press_17 : decode cX6_press 17 = .ok (.ifCond .eq 25, 3) := by decide +kernel
theorem dX6_press_20 : decode cX6_press 20 = .ok (.iload 4, 2) := by decide +kernel
theorem dX6_press_22 : decode cX6_press 22 = .ok (.iconst 0, 1) := by decide +kernel
theorem dX6_press_23 : decode cX6_press 23 = .ok (.iconst 1, 1) := by decide +kernel
theorem dX6_press_24 : decode cX6_press 24 = .ok (.invokestatic 59, 3) := by decide +kernel
theorem dX6_press_27 : decode cX6_press 27 = .ok (.ifCond .eq 15, 3) := by decide +kernel
theorem dX6_press_30 : decode cX6_press 30 = .ok (.aload_n 0, 1) := by decide +kernel
theorem dX6_press_31 : decode cX6_press 31 = .ok (.iload_n 1, 1) := by decide +kernel
theorem dX6_press_32 : decode cX6_press 32 = .ok (.iload_n 2, 1) := by decide +kernel
theorem dX6_press_33 : decode cX6_press 33 = .ok (.iload_n 3, 1) := by decide +kernel
theorem dX6_press_34 : decode cX6_press 34 = .ok (.iload 4, 2) := by decide +kernel
theorem dX6_press_36 : decode cX6_press 36 = .ok (.invokevirtual 245, 3) := by decide +kernel
theorem dX6_press_39 : decode cX6_press 39 = .ok (.goto 6, 3) := by decide +kernel
theorem dX6_press_42 : decode cX6_press 42 = .ok (.ldc2_w 239, 3) := by decide +kernel
theorem dX6_press_45 : decode cX6_press 45 = .ok (.lreturn, 1) := by decide +kernel
set_option maxRecDepth 20000 in
theorem ggX6_nothingNow_X6_layBest : GoodIn wsX6_nothingNow wsX6_layBest := goodIn_r _ [6, 7, 8, 9, 5, 10, 11, 12, 13, 14, 15, 16, 17, 18, 19, 20, 21, 22, 23, 24, 25, 26, 27, 28, 29, 30, 31, 1, 32, 33, 34, 35, 36, 37, 38, 39, 40, 41, 42, 43, 44, 45, 46, 47, 48, 49, 50, 51, 52, 53, 54, 55, 56, 57, 58, 59, 60, 61, 62, 63, 64, 65, 66, 67, 68, 69, 70, 71, 72, 73, 74, 75, 76, 77, 78, 79, 80, 81, 82] (by decide +kernel) (by decide +kernel)
set_option maxRecDepth 20000 in
theorem gX6_nothingNow_X6_layBest : GoodIn wsX6_nothingNow (wsV RX6 228 RX6 yX6_layBest wsX6_layBest) := goodIn_app (goodIn_of _ (by decide +kernel)) ggX6_nothingNow_X6_layBest
theorem dX6_nothingNow_0 : decode cX6_nothingNow 0 = .ok (.aload_n 0, 1) := by decide +kernel
theorem dX6_nothingNow_1 : decode cX6_nothingNow 1 = .ok (.iload_n 1, 1) := by decide +kernel
theorem dX6_nothingNow_2 : decode cX6_nothingNow 2 = .ok (.iload_n 2, 1) := by decide +kernel
theorem dX6_nothingNow_3 : decode cX6_nothingNow 3 = .ok (.invokevirtual 228, 3) := by decide +kernel
theorem dX6_nothingNow_6 : decode cX6_nothingNow 6 = .ok (.iconst 0, 1) := by decide +kernel
theorem dX6_nothingNow_7 : decode cX6_nothingNow 7 = .ok (.istore_n 3, 1) := by decide +kernel
theorem dX6_nothingNow_8 : decode cX6_nothingNow 8 = .ok (.iconst 0, 1) := by decide +kernel
theorem dX6_nothingNow_9 : decode cX6_nothingNow 9 = .ok (.istore 4, 2) := by decide +kernel
theorem dX6_nothingNow_11 : decode cX6_nothingNow 11 = .ok (.iload 4, 2) := by decide +kernel
theorem dX6_nothingNow_13 : decode cX6_nothingNow 13 = .ok (.iload_n 2, 1) := by decide +kernel
theorem dX6_nothingNow_14 : decode cX6_nothingNow 14 = .ok (.if_icmp .ge 32, 3) := by decide +kernel
theorem dX6_nothingNow_17 : decode cX6_nothingNow 17 = .ok (.iload_n 3, 1) := by decide +kernel
theorem dX6_nothingNow_18 : decode cX6_nothingNow 18 = .ok (.aload_n 0, 1) := by decide +kernel
theorem dX6_nothingNow_19 : decode cX6_nothingNow 19 = .ok (.getfield 56, 3) := by decide +kernel
theorem dX6_nothingNow_22 : decode cX6_nothingNow 22 = .ok (.iload 4, 2) := by decide +kernel
theorem dX6_nothingNow_24 : decode cX6_nothingNow 24 = .ok (.laload, 1) := by decide +kernel
theorem dX6_nothingNow_25 : decode cX6_nothingNow 25 = .ok (.lconst 0, 1) := by decide +kernel
theorem dX6_nothingNow_26 : decode cX6_nothingNow 26 = .ok (.lcmp, 1) := by decide +kernel
theorem dX6_nothingNow_27 : decode cX6_nothingNow 27 = .ok (.ifCond .ne 10, 3) := by decide +kernel
theorem dX6_nothingNow_30 : decode cX6_nothingNow 30 = .ok (.iconst 1, 1) := by decide +kernel
theorem dX6_nothingNow_31 : decode cX6_nothingNow 31 = .ok (.iload 4, 2) := by decide +kernel
theorem dX6_nothingNow_33 : decode cX6_nothingNow 33 = .ok (.ishl, 1) := by decide +kernel
theorem dX6_nothingNow_34 : decode cX6_nothingNow 34 = .ok (.goto 4, 3) := by decide +kernel
theorem dX6_nothingNow_37 : decode cX6_nothingNow 37 = .ok (.iconst 0, 1) := by decide +kernel
theorem dX6_nothingNow_38 : decode cX6_nothingNow 38 = .ok (.ior, 1) := by decide +kernel
theorem dX6_nothingNow_39 : decode cX6_nothingNow 39 = .ok (.istore_n 3, 1) := by decide +kernel
theorem dX6_nothingNow_40 : decode cX6_nothingNow 40 = .ok (.iinc 4 1, 3) := by decide +kernel
theorem dX6_nothingNow_43 : decode cX6_nothingNow 43 = .ok (.goto (-32), 3) := by decide +kernel
theorem dX6_nothingNow_46 : decode cX6_nothingNow 46 = .ok (.iload_n 3, 1) := by decide +kernel
theorem dX6_nothingNow_47 : decode cX6_nothingNow 47 = .ok (.ireturn, 1) := by decide +kernel
set_option maxRecDepth 20000 in
theorem ggX6_nothing_X6_isAsk : GoodIn wsX6_nothing wsX6_isAsk := goodIn_r _ [6, 7, 8, 9, 5, 10, 59, 60, 61, 62, 63, 64, 65, 66, 67, 68, 69, 70, 71, 72, 73, 74, 75, 76, 77, 78, 79, 80, 81, 82, 83, 84, 85, 86, 87, 88, 89, 90, 91] (by decide +kernel) (by decide +kernel)
set_option maxRecDepth 20000 in
theorem gX6_nothing_X6_isAsk : GoodIn wsX6_nothing (wsV RX6 231 RX6 yX6_isAsk wsX6_isAsk) := goodIn_app (goodIn_of _ (by decide +kernel)) ggX6_nothing_X6_isAsk
set_option maxRecDepth 20000 in
theorem ggX6_nothing_X6_nothingNow : GoodIn wsX6_nothing wsX6_nothingNow := goodIn_r _ [14, 15, 16, 17, 18, 5, 19, 20, 21, 22, 23, 24, 25, 26, 7, 27, 28, 29, 30, 31, 8, 9, 10, 32, 33, 34, 35, 36, 37, 38, 39, 40, 41, 42, 43, 44, 45, 46, 47, 48, 49, 50, 51, 52, 53, 54, 55, 56, 57, 58, 59, 60, 61, 62, 63, 64, 65, 66, 67, 68, 69, 70, 71, 72, 73, 74, 75, 76, 77, 78, 79, 80, 81, 82, 83, 84, 85, 86, 87, 88, 89, 90, 91] (by decide +kernel) (by decide +kernel)
set_option maxRecDepth 20000 in
theorem gX6_nothing_X6_nothingNow : GoodIn wsX6_nothing (wsV RX6 248 RX6 yX6_nothingNow wsX6_nothingNow) := goodIn_app (goodIn_of _ (by decide +kernel)) ggX6_nothing_X6_nothingNow
theorem dX6_nothing_0 : decode cX6_nothing 0 = .ok (.aload_n 0, 1) := by decide +kernel
theorem dX6_nothing_1 : decode cX6_nothing 1 = .ok (.iload_n 1, 1) := by decide +kernel
theorem dX6_nothing_2 : decode cX6_nothing 2 = .ok (.iload_n 2, 1) := by decide +kernel
theorem dX6_nothing_3 : decode cX6_nothing 3 = .ok (.invokevirtual 231, 3) := by decide +kernel
theorem dX6_nothing_6 : decode cX6_nothing 6 = .ok (.ifCond .eq 12, 3) := by decide +kernel
theorem dX6_nothing_9 : decode cX6_nothing 9 = .ok (.aload_n 0, 1) := by decide +kernel
theorem dX6_nothing_10 : decode cX6_nothing 10 = .ok (.iload_n 1, 1) := by decide +kernel
theorem dX6_nothing_11 : decode cX6_nothing 11 = .ok (.iload_n 2, 1) := by decide +kernel
theorem dX6_nothing_12 : decode cX6_nothing 12 = .ok (.invokevirtual 248, 3) := by decide +kernel
theorem dX6_nothing_15 : decode cX6_nothing 15 = .ok (.goto 5, 3) := by decide +kernel
theorem dX6_nothing_18 : decode cX6_nothing 18 = .ok (.ldc 63, 2) := by decide +kernel
theorem dX6_nothing_20 : decode cX6_nothing 20 = .ok (.ireturn, 1) := by decide +kernel
theorem dX6_isWhole_0 : decode cX6_isWhole 0 = .ok (.iconst 1, 1) := by decide +kernel
theorem dX6_isWhole_1 : decode cX6_isWhole 1 = .ok (.istore_n 2, 1) := by decide +kernel
theorem dX6_isWhole_2 : decode cX6_isWhole 2 = .ok (.iconst 0, 1) := by decide +kernel
theorem dX6_isWhole_3 : decode cX6_isWhole 3 = .ok (.istore_n 3, 1) := by decide +kernel
theorem dX6_isWhole_4 : decode cX6_isWhole 4 = .ok (.iload_n 3, 1) := by decide +kernel
theorem dX6_isWhole_5 : decode cX6_isWhole 5 = .ok (.iload_n 1, 1) := by decide +kernel
theorem dX6_isWhole_6 : decode cX6_isWhole 6 = .ok (.if_icmp .ge 53, 3) := by decide +kernel
theorem dX6_isWhole_9 : decode cX6_isWhole 9 = .ok (.iload_n 2, 1) := by decide +kernel
theorem dX6_isWhole_10 : decode cX6_isWhole 10 = .ok (.ifCond .eq 41, 3) := by decide +kernel
theorem dX6_isWhole_13 : decode cX6_isWhole 13 = .ok (.aload_n 0, 1) := by decide +kernel
theorem dX6_isWhole_14 : decode cX6_isWhole 14 = .ok (.getfield 56, 3) := by decide +kernel
theorem dX6_isWhole_17 : decode cX6_isWhole 17 = .ok (.iload_n 3, 1) := by decide +kernel
theorem dX6_isWhole_18 : decode cX6_isWhole 18 = .ok (.laload, 1) := by decide +kernel
theorem dX6_isWhole_19 : decode cX6_isWhole 19 = .ok (.aload_n 0, 1) := by decide +kernel
theorem dX6_isWhole_20 : decode cX6_isWhole 20 = .ok (.getfield 207, 3) := by decide +kernel
theorem dX6_isWhole_23 : decode cX6_isWhole 23 = .ok (.lrem, 1) := by decide +kernel
theorem dX6_isWhole_24 : decode cX6_isWhole 24 = .ok (.lconst 0, 1) := by decide +kernel
theorem dX6_isWhole_25 : decode cX6_isWhole 25 = .ok (.lcmp, 1) := by decide +kernel
theorem dX6_isWhole_26 : decode cX6_isWhole 26 = .ok (.ifCond .ne 25, 3) := by decide +kernel
theorem dX6_isWhole_29 : decode cX6_isWhole 29 = .ok (.aload_n 0, 1) := by decide +kernel
theorem dX6_isWhole_30 : decode cX6_isWhole 30 = .ok (.getfield 56, 3) := by decide +kernel
theorem dX6_isWhole_33 : decode cX6_isWhole 33 = .ok (.iload_n 3, 1) := by decide +kernel
theorem dX6_isWhole_34 : decode cX6_isWhole 34 = .ok (.laload, 1) := by decide +kernel
theorem dX6_isWhole_35 : decode cX6_isWhole 35 = .ok (.aload_n 0, 1) := by decide +kernel
theorem dX6_isWhole_36 : decode cX6_isWhole 36 = .ok (.getfield 207, 3) := by decide +kernel
theorem dX6_isWhole_39 : decode cX6_isWhole 39 = .ok (.ldiv, 1) := by decide +kernel
theorem dX6_isWhole_40 : decode cX6_isWhole 40 = .ok (.ldc2_w 251, 3) := by decide +kernel
theorem dX6_isWhole_43 : decode cX6_isWhole 43 = .ok (.lcmp, 1) := by decide +kernel
theorem dX6_isWhole_44 : decode cX6_isWhole 44 = .ok (.ifCond .gt 7, 3) := by decide +kernel
theorem dX6_isWhole_47 : decode cX6_isWhole 47 = .ok (.iconst 1, 1) := by decide +kernel
theorem dX6_isWhole_48 : decode cX6_isWhole 48 = .ok (.goto 4, 3) := by decide +kernel
theorem dX6_isWhole_51 : decode cX6_isWhole 51 = .ok (.iconst 0, 1) := by decide +kernel
theorem dX6_isWhole_52 : decode cX6_isWhole 52 = .ok (.istore_n 2, 1) := by decide +kernel
theorem dX6_isWhole_53 : decode cX6_isWhole 53 = .ok (.iinc 3 1, 3) := by decide +kernel
theorem dX6_isWhole_56 : decode cX6_isWhole 56 = .ok (.goto (-52), 3) := by decide +kernel
theorem dX6_isWhole_59 : decode cX6_isWhole 59 = .ok (.iload_n 2, 1) := by decide +kernel
theorem dX6_isWhole_60 : decode cX6_isWhole 60 = .ok (.ireturn, 1) := by decide +kernel
set_option maxRecDepth 20000 in
theorem ggX6_keep_X6_isAsk : GoodIn wsX6_keep wsX6_isAsk := goodIn_r _ [15, 16, 17, 18, 14, 19, 74, 75, 76, 77, 78, 79, 80, 81, 82, 83, 84, 85, 86, 87, 88, 89, 90, 91, 92, 93, 94, 95, 96, 97, 98, 99, 100, 101, 102, 103, 104, 105, 106] (by decide +kernel) (by decide +kernel)
set_option maxRecDepth 20000 in
theorem gX6_keep_X6_isAsk : GoodIn wsX6_keep (wsV RX6 231 RX6 yX6_isAsk wsX6_isAsk) := goodIn_app (goodIn_of _ (by decide +kernel)) ggX6_keep_X6_isAsk
set_option maxRecDepth 20000 in
theorem ggX6_keep_X6_within : GoodIn wsX6_keep wsX6_within := goodIn_r _ [19] (by decide +kernel) (by decide +kernel)
set_option maxRecDepth 20000 in
theorem gX6_keep_X6_within : GoodIn wsX6_keep (va_wsS RX6 59 yX6_within wsX6_within) := goodIn_app (goodIn_of _ (by decide +kernel)) ggX6_keep_X6_within
set_option maxRecDepth 20000 in
theorem ggX6_keep_X6_layBest : GoodIn wsX6_keep wsX6_layBest := goodIn_r _ [23, 24, 25, 26, 14, 27, 28, 29, 30, 16, 31, 32, 33, 34, 35, 17, 18, 19, 36, 37, 38, 39, 40, 41, 42, 43, 44, 8, 45, 46, 9, 47, 48, 49, 50, 51, 52, 53, 54, 55, 56, 57, 58, 59, 60, 61, 74, 75, 76, 77, 78, 79, 80, 81, 82, 83, 84, 85, 86, 87, 88, 89, 90, 91, 92, 93, 94, 95, 96, 97, 98, 99, 100, 101, 102, 103, 104, 105, 106] (by decide +kernel) (by decide +kernel)
set_option maxRecDepth 20000 in
theorem gX6_keep_X6_layBest : GoodIn wsX6_keep (wsV RX6 228 RX6 yX6_layBest wsX6_layBest) := goodIn_app (goodIn_of _ (by decide +kernel)) ggX6_keep_X6_layBest
set_option maxRecDepth 20000 in
theorem ggX6_keep_X6_isWhole : GoodIn wsX6_keep wsX6_isWhole := goodIn_r _ [65, 8, 9, 66, 74, 75, 76, 77, 78, 79, 80, 81, 82, 83, 84, 85, 86, 87, 88, 89, 90, 91, 92, 93, 94, 95, 96, 97, 98, 99, 100, 101, 102, 103, 104, 105, 106] (by decide +kernel) (by decide +kernel)
set_option maxRecDepth 20000 in
theorem gX6_keep_X6_isWhole : GoodIn wsX6_keep (wsV RX6 253 RX6 yX6_isWhole wsX6_isWhole) := goodIn_app (goodIn_of _ (by decide +kernel)) ggX6_keep_X6_isWhole
set_option maxRecDepth 20000 in
theorem ggX6_keep_X6_takeUnit : GoodIn wsX6_keep wsX6_takeUnit := goodIn_r _ [70, 71, 3, 5, 72, 6, 73, 7, 74, 75, 76, 77, 78, 79, 80, 81, 82, 83, 84, 85, 86, 87, 88, 89, 90, 91, 92, 93, 94, 95, 96, 97, 98, 99, 100, 101, 102, 103, 104, 105, 106] (by decide +kernel) (by decide +kernel)
set_option maxRecDepth 20000 in
theorem gX6_keep_X6_takeUnit : GoodIn wsX6_keep (wsV RX6 124 RX6 yX6_takeUnit wsX6_takeUnit) := goodIn_app (goodIn_of _ (by decide +kernel)) ggX6_keep_X6_takeUnit
theorem dX6_keep_0 : decode cX6_keep 0 = .ok (.aload_n 0, 1) := by decide +kernel
theorem dX6_keep_1 : decode cX6_keep 1 = .ok (.iload_n 1, 1) := by decide +kernel
theorem dX6_keep_2 : decode cX6_keep 2 = .ok (.iload_n 2, 1) := by decide +kernel
theorem dX6_keep_3 : decode cX6_keep 3 = .ok (.invokevirtual 231, 3) := by decide +kernel
theorem dX6_keep_6 : decode cX6_keep 6 = .ok (.ifCond .eq 12, 3) := by decide +kernel
theorem dX6_keep_9 : decode cX6_keep 9 = .ok (.iload_n 3, 1) := by decide +kernel
theorem dX6_keep_10 : decode cX6_keep 10 = .ok (.iconst 1, 1) := by decide +kernel
theorem dX6_keep_11 : decode cX6_keep 11 = .ok (.iconst 4, 1) := by decide +kernel
theorem dX6_keep_12 : decode cX6_keep 12 = .ok (.invokestatic 59, 3) := by decide +kernel
theorem dX6_keep_15 : decode cX6_keep 15 = .ok (.ifCond .ne 6, 3) := by decide +kernel
theorem dX6_keep_18 : decode cX6_keep 18 = .ok (.ldc 63, 2) := by decide +kernel
theorem dX6_keep_20 : decode cX6_keep 20 = .ok (.ireturn, 1) := by decide +kernel
theorem dX6_keep_21 : decode cX6_keep 21 = .ok (.aload_n 0, 1) := by decide +kernel
theorem dX6_keep_22 : decode cX6_keep 22 = .ok (.iload_n 1, 1) := by decide +kernel
theorem dX6_keep_23 : decode cX6_keep 23 = .ok (.iload_n 2, 1) := by decide +kernel
theorem dX6_keep_24 : decode cX6_keep 24 = .ok (.invokevirtual 228, 3) := by decide +kernel
theorem dX6_keep_27 : decode cX6_keep 27 = .ok (.aload_n 0, 1) := by decide +kernel
theorem dX6_keep_28 : decode cX6_keep 28 = .ok (.iload_n 2, 1) := by decide +kernel
theorem dX6_keep_29 : decode cX6_keep 29 = .ok (.invokevirtual 253, 3) := by decide +kernel
theorem dX6_keep_32 : decode cX6_keep 32 = .ok (.ifCond .ne 6, 3) := by decide +kernel
theorem dX6_keep_35 : decode cX6_keep 35 = .ok (.ldc 120, 2) := by decide +kernel
theorem dX6_keep_37 : decode cX6_keep 37 = .ok (.ireturn, 1) := by decide +kernel
theorem dX6_keep_38 : decode cX6_keep 38 = .ok (.aload_n 0, 1) := by decide +kernel
theorem dX6_keep_39 : decode cX6_keep 39 = .ok (.getfield 117, 3) := by decide +kernel
theorem dX6_keep_42 : decode cX6_keep 42 = .ok (.iconst 4, 1) := by decide +kernel
theorem dX6_keep_43 : decode cX6_keep 43 = .ok (.if_icmp .ne 6, 3) := by decide +kernel
theorem dX6_keep_46 : decode cX6_keep 46 = .ok (.ldc 68, 2) := by decide +kernel
theorem dX6_keep_48 : decode cX6_keep 48 = .ok (.ireturn, 1) := by decide +kernel
theorem dX6_keep_49 : decode cX6_keep 49 = .ok (.aload_n 0, 1) := by decide +kernel
theorem dX6_keep_50 : decode cX6_keep 50 = .ok (.iload_n 3, 1) := by decide +kernel
theorem dX6_keep_51 : decode cX6_keep 51 = .ok (.putfield 101, 3) := by decide +kernel
theorem dX6_keep_54 : decode cX6_keep 54 = .ok (.aload_n 0, 1) := by decide +kernel
theorem dX6_keep_55 : decode cX6_keep 55 = .ok (.iload_n 2, 1) := by decide +kernel
theorem dX6_keep_56 : decode cX6_keep 56 = .ok (.putfield 85, 3) := by decide +kernel
theorem dX6_keep_59 : decode cX6_keep 59 = .ok (.iconst 0, 1) := by decide +kernel
theorem dX6_keep_60 : decode cX6_keep 60 = .ok (.istore 4, 2) := by decide +kernel
theorem dX6_keep_62 : decode cX6_keep 62 = .ok (.iload 4, 2) := by decide +kernel
theorem dX6_keep_64 : decode cX6_keep 64 = .ok (.iload_n 2, 1) := by decide +kernel
theorem dX6_keep_65 : decode cX6_keep 65 = .ok (.if_icmp .ge 29, 3) := by decide +kernel
theorem dX6_keep_68 : decode cX6_keep 68 = .ok (.aload_n 0, 1) := by decide +kernel
theorem dX6_keep_69 : decode cX6_keep 69 = .ok (.getfield 37, 3) := by decide +kernel
theorem dX6_keep_72 : decode cX6_keep 72 = .ok (.iload 4, 2) := by decide +kernel
theorem dX6_keep_74 : decode cX6_keep 74 = .ok (.aload_n 0, 1) := by decide +kernel
theorem dX6_keep_75 : decode cX6_keep 75 = .ok (.getfield 56, 3) := by decide +kernel
theorem dX6_keep_78 : decode cX6_keep 78 = .ok (.iload 4, 2) := by decide +kernel
theorem dX6_keep_80 : decode cX6_keep 80 = .ok (.laload, 1) := by decide +kernel
theorem dX6_keep_81 : decode cX6_keep 81 = .ok (.aload_n 0, 1) := by decide +kernel
theorem dX6_keep_82 : decode cX6_keep 82 = .ok (.getfield 207, 3) := by decide +kernel
theorem dX6_keep_85 : decode cX6_keep 85 = .ok (.ldiv, 1) := by decide +kernel
theorem dX6_keep_86 : decode cX6_keep 86 = .ok (.l2i, 1) := by decide +kernel
theorem dX6_keep_87 : decode cX6_keep 87 = .ok (.iastore, 1) := by decide +kernel
theorem dX6_keep_88 : decode cX6_keep 88 = .ok (.iinc 4 1, 3) := by decide +kernel
theorem dX6_keep_91 : decode cX6_keep 91 = .ok (.goto (-29), 3) := by decide +kernel
theorem dX6_keep_94 : decode cX6_keep 94 = .ok (.aload_n 0, 1) := by decide +kernel
theorem dX6_keep_95 : decode cX6_keep 95 = .ok (.dup, 1) := by decide +kernel
theorem dX6_keep_96 : decode cX6_keep 96 = .ok (.getfield 256, 3) := by decide +kernel
theorem dX6_keep_99 : decode cX6_keep 99 = .ok (.iconst 1, 1) := by decide +kernel
theorem dX6_keep_100 : decode cX6_keep 100 = .ok (.iadd, 1) := by decide +kernel
theorem dX6_keep_101 : decode cX6_keep 101 = .ok (.putfield 256, 3) := by decide +kernel
theorem dX6_keep_104 : decode cX6_keep 104 = .ok (.aload_n 0, 1) := by decide +kernel
theorem dX6_keep_105 : decode cX6_keep 105 = .ok (.invokevirtual 124, 3) := by decide +kernel
theorem dX6_keep_108 : decode cX6_keep 108 = .ok (.ireturn, 1) := by decide +kernel
theorem dX6_howMany_0 : decode cX6_howMany 0 = .ok (.iload_n 1, 1) := by decide +kernel
theorem dX6_howMany_1 : decode cX6_howMany 1 = .ok (.tableswitch 69 0 5 #[39, 44, 49, 54, 59, 64], 39) := by decide +kernel
theorem dX6_howMany_40 : decode cX6_howMany 40 = .ok (.aload_n 0, 1) := by decide +kernel
theorem dX6_howMany_41 : decode cX6_howMany 41 = .ok (.getfield 114, 3) := by decide +kernel
theorem dX6_howMany_44 : decode cX6_howMany 44 = .ok (.ireturn, 1) := by decide +kernel
theorem dX6_howMany_45 : decode cX6_howMany 45 = .ok (.aload_n 0, 1) := by decide +kernel
theorem dX6_howMany_46 : decode cX6_howMany 46 = .ok (.getfield 117, 3) := by decide +kernel
theorem dX6_howMany_49 : decode cX6_howMany 49 = .ok (.ireturn, 1) := by decide +kernel
theorem dX6_howMany_50 : decode cX6_howMany 50 = .ok (.aload_n 0, 1) := by decide +kernel
theorem dX6_howMany_51 : decode cX6_howMany 51 = .ok (.getfield 64, 3) := by decide +kernel
theorem dX6_howMany_54 : decode cX6_howMany 54 = .ok (.ireturn, 1) := by decide +kernel
theorem dX6_howMany_55 : decode cX6_howMany 55 = .ok (.aload_n 0, 1) := by decide +kernel
theorem dX6_howMany_56 : decode cX6_howMany 56 = .ok (.getfield 121, 3) := by decide +kernel
theorem dX6_howMany_59 : decode cX6_howMany 59 = .ok (.ireturn, 1) := by decide +kernel
theorem dX6_howMany_60 : decode cX6_howMany 60 = .ok (.aload_n 0, 1) := by decide +kernel
theorem dX6_howMany_61 : decode cX6_howMany 61 = .ok (.getfield 137, 3) := by decide +kernel
theorem dX6_howMany_64 : decode cX6_howMany 64 = .ok (.ireturn, 1) := by decide +kernel
theorem dX6_howMany_65 : decode cX6_howMany 65 = .ok (.aload_n 0, 1) := by decide +kernel
theorem dX6_howMany_66 : decode cX6_howMany 66 = .ok (.getfield 256, 3) := by decide +kernel
theorem dX6_howMany_69 : decode cX6_howMany 69 = .ok (.ireturn, 1) := by decide +kernel
theorem dX6_howMany_70 : decode cX6_howMany 70 = .ok (.ldc 63, 2) := by decide +kernel
theorem dX6_howMany_72 : decode cX6_howMany 72 = .ok (.ireturn, 1) := by decide +kernel
set_option maxRecDepth 20000 in
theorem ggX6_count_X6_howMany : GoodIn wsX6_count wsX6_howMany := goodIn_r _ [5, 6, 7, 8, 9, 10, 11, 12, 13, 14, 15, 16, 17, 18, 19, 20, 21, 22, 23, 24, 25, 26, 27, 28, 29, 30, 31, 32, 33, 34, 35, 36, 37, 38, 39, 40, 41, 42, 43, 44, 45] (by decide +kernel) (by decide +kernel)
set_option maxRecDepth 20000 in
theorem gX6_count_X6_howMany : GoodIn wsX6_count (wsV RX6 259 RX6 yX6_howMany wsX6_howMany) := goodIn_app (goodIn_of _ (by decide +kernel)) ggX6_count_X6_howMany
theorem dX6_count_0 : decode cX6_count 0 = .ok (.aload_n 0, 1) := by decide +kernel
theorem dX6_count_1 : decode cX6_count 1 = .ok (.iload_n 1, 1) := by decide +kernel
theorem dX6_count_2 : decode cX6_count 2 = .ok (.invokevirtual 259, 3) := by decide +kernel
theorem dX6_count_5 : decode cX6_count 5 = .ok (.ireturn, 1) := by decide +kernel
theorem dX6_mix_0 : decode cX6_mix 0 = .ok (.aload_n 0, 1) := by decide +kernel
theorem dX6_mix_1 : decode cX6_mix 1 = .ok (.ldc2_w 262, 3) := by decide +kernel
theorem dX6_mix_4 : decode cX6_mix 4 = .ok (.aload_n 0, 1) := by decide +kernel
theorem dX6_mix_5 : decode cX6_mix 5 = .ok (.getfield 264, 3) := by decide +kernel
theorem dX6_mix_8 : decode cX6_mix 8 = .ok (.lmul, 1) := by decide +kernel
theorem dX6_mix_9 : decode cX6_mix 9 = .ok (.lload_n 1, 1) := by decide +kernel
theorem dX6_mix_10 : decode cX6_mix 10 = .ok (.ladd, 1) := by decide +kernel
theorem dX6_mix_11 : decode cX6_mix 11 = .ok (.putfield 264, 3) := by decide +kernel
theorem dX6_mix_14 : decode cX6_mix 14 = .ok (.return_, 1) := by decide +kernel
set_option maxRecDepth 20000 in
theorem ggX6_mixStorm_X6_within : GoodIn wsX6_mixStorm wsX6_within := goodIn_r _ [4] (by decide +kernel) (by decide +kernel)
set_option maxRecDepth 20000 in
theorem gX6_mixStorm_X6_within : GoodIn wsX6_mixStorm (va_wsS RX6 59 yX6_within wsX6_within) := goodIn_app (goodIn_of _ (by decide +kernel)) ggX6_mixStorm_X6_within
set_option maxRecDepth 20000 in
theorem ggX6_mixStorm_X6_stormNow : GoodIn wsX6_mixStorm wsX6_stormNow := goodIn_r _ [8, 9, 10, 11, 12, 13, 3, 14, 15, 16, 17, 18, 19, 1, 2, 4, 20, 21, 22, 23, 24, 25, 26, 27, 28, 46, 47, 48, 49, 50, 51, 52, 53, 54, 55, 56, 57, 58, 59, 60, 61, 62, 63, 64, 65, 66, 67, 68, 69, 70, 71, 72, 73, 74, 75, 76, 77, 78] (by decide +kernel) (by decide +kernel)
set_option maxRecDepth 20000 in
theorem gX6_mixStorm_X6_stormNow : GoodIn wsX6_mixStorm (wsV RX6 160 RX6 yX6_stormNow wsX6_stormNow) := goodIn_app (goodIn_of _ (by decide +kernel)) ggX6_mixStorm_X6_stormNow
set_option maxRecDepth 20000 in
theorem ggX6_mixStorm_X6_mix : GoodIn wsX6_mixStorm wsX6_mix := goodIn_r _ [32, 33, 34, 46, 47, 48, 49, 50, 51, 52, 53, 54, 55, 56, 57, 58, 59, 60, 61, 62, 63, 64, 65, 66, 67, 68, 69, 70, 71, 72, 73, 74, 75, 76, 77, 78] (by decide +kernel) (by decide +kernel)
set_option maxRecDepth 20000 in
theorem gX6_mixStorm_X6_mix : GoodIn wsX6_mixStorm (wsV RX6 267 RX6 yX6_mix wsX6_mix) := goodIn_app (goodIn_of _ (by decide +kernel)) ggX6_mixStorm_X6_mix
set_option maxRecDepth 20000 in
theorem ggX6_mixStorm_X6_dividedNow : GoodIn wsX6_mixStorm wsX6_dividedNow := goodIn_r _ [38, 39, 40, 41, 42, 43, 44, 3, 45, 10, 9, 24, 25, 26, 27, 28, 1, 2, 4, 15, 16, 17, 18, 19, 46, 47, 48, 49, 50, 51, 52, 53, 54, 55, 56, 57, 58, 59, 60, 61, 62, 63, 64, 65, 66, 67, 68, 69, 70, 71, 72, 73, 74, 75, 76, 77, 78] (by decide +kernel) (by decide +kernel)
set_option maxRecDepth 20000 in
theorem gX6_mixStorm_X6_dividedNow : GoodIn wsX6_mixStorm (wsV RX6 170 RX6 yX6_dividedNow wsX6_dividedNow) := goodIn_app (goodIn_of _ (by decide +kernel)) ggX6_mixStorm_X6_dividedNow
theorem dX6_mixStorm_0 : decode cX6_mixStorm 0 = .ok (.iconst 0, 1) := by decide +kernel
theorem dX6_mixStorm_1 : decode cX6_mixStorm 1 = .ok (.istore_n 2, 1) := by decide +kernel
theorem dX6_mixStorm_2 : decode cX6_mixStorm 2 = .ok (.iload_n 2, 1) := by decide +kernel
theorem dX6_mixStorm_3 : decode cX6_mixStorm 3 = .ok (.bipush 28, 2) := by decide +kernel
theorem dX6_mixStorm_5 : decode cX6_mixStorm 5 = .ok (.if_icmp .ge 42, 3) := by decide +kernel
theorem dX6_mixStorm_8 : decode cX6_mixStorm 8 = .ok (.iload_n 2, 1) := by decide +kernel
theorem dX6_mixStorm_9 : decode cX6_mixStorm 9 = .ok (.iconst 4, 1) := by decide +kernel
theorem dX6_mixStorm_10 : decode cX6_mixStorm 10 = .ok (.if_icmp .lt 20, 3) := by decide +kernel
theorem dX6_mixStorm_13 : decode cX6_mixStorm 13 = .ok (.iload_n 2, 1) := by decide +kernel
theorem dX6_mixStorm_14 : decode cX6_mixStorm 14 = .ok (.bipush 10, 2) := by decide +kernel
theorem dX6_mixStorm_16 : decode cX6_mixStorm 16 = .ok (.bipush 12, 2) := by decide +kernel
theorem dX6_mixStorm_18 : decode cX6_mixStorm 18 = .ok (.invokestatic 59, 3) := by decide +kernel
theorem dX6_mixStorm_21 : decode cX6_mixStorm 21 = .ok (.ifCond .ne 9, 3) := by decide +kernel
theorem dX6_mixStorm_24 : decode cX6_mixStorm 24 = .ok (.iload_n 2, 1) := by decide +kernel
theorem dX6_mixStorm_25 : decode cX6_mixStorm 25 = .ok (.bipush 19, 2) := by decide +kernel
theorem dX6_mixStorm_27 : decode cX6_mixStorm 27 = .ok (.if_icmp .le 14, 3) := by decide +kernel
theorem dX6_mixStorm_30 : decode cX6_mixStorm 30 = .ok (.aload_n 0, 1) := by decide +kernel
theorem dX6_mixStorm_31 : decode cX6_mixStorm 31 = .ok (.aload_n 0, 1) := by decide +kernel
theorem dX6_mixStorm_32 : decode cX6_mixStorm 32 = .ok (.iload_n 1, 1) := by decide +kernel
theorem dX6_mixStorm_33 : decode cX6_mixStorm 33 = .ok (.iload_n 2, 1) := by decide +kernel
theorem dX6_mixStorm_34 : decode cX6_mixStorm 34 = .ok (.invokevirtual 160, 3) := by decide +kernel
theorem dX6_mixStorm_37 : decode cX6_mixStorm 37 = .ok (.i2l, 1) := by decide +kernel
theorem dX6_mixStorm_38 : decode cX6_mixStorm 38 = .ok (.invokevirtual 267, 3) := by decide +kernel
theorem dX6_mixStorm_41 : decode cX6_mixStorm 41 = .ok (.iinc 2 1, 3) := by decide +kernel
theorem dX6_mixStorm_44 : decode cX6_mixStorm 44 = .ok (.goto (-42), 3) := by decide +kernel
theorem dX6_mixStorm_47 : decode cX6_mixStorm 47 = .ok (.aload_n 0, 1) := by decide +kernel
theorem dX6_mixStorm_48 : decode cX6_mixStorm 48 = .ok (.aload_n 0, 1) := by decide +kernel
theorem dX6_mixStorm_49 : decode cX6_mixStorm 49 = .ok (.iload_n 1, 1) := by decide +kernel
theorem dX6_mixStorm_50 : decode cX6_mixStorm 50 = .ok (.iconst 0, 1) := by decide +kernel
theorem dX6_mixStorm_51 : decode cX6_mixStorm 51 = .ok (.invokevirtual 170, 3) := by decide +kernel
theorem dX6_mixStorm_54 : decode cX6_mixStorm 54 = .ok (.i2l, 1) := by decide +kernel
theorem dX6_mixStorm_55 : decode cX6_mixStorm 55 = .ok (.invokevirtual 267, 3) := by decide +kernel
theorem dX6_mixStorm_58 : decode cX6_mixStorm 58 = .ok (.bipush 10, 2) := by decide +kernel
theorem dX6_mixStorm_60 : decode cX6_mixStorm 60 = .ok (.istore_n 2, 1) := by decide +kernel
theorem dX6_mixStorm_61 : decode cX6_mixStorm 61 = .ok (.iload_n 2, 1) := by decide +kernel
theorem dX6_mixStorm_62 : decode cX6_mixStorm 62 = .ok (.bipush 18, 2) := by decide +kernel
theorem dX6_mixStorm_64 : decode cX6_mixStorm 64 = .ok (.if_icmp .ge 20, 3) := by decide +kernel
theorem dX6_mixStorm_67 : decode cX6_mixStorm 67 = .ok (.aload_n 0, 1) := by decide +kernel
theorem dX6_mixStorm_68 : decode cX6_mixStorm 68 = .ok (.aload_n 0, 1) := by decide +kernel
theorem dX6_mixStorm_69 : decode cX6_mixStorm 69 = .ok (.iload_n 1, 1) := by decide +kernel
theorem dX6_mixStorm_70 : decode cX6_mixStorm 70 = .ok (.iload_n 2, 1) := by decide +kernel
theorem dX6_mixStorm_71 : decode cX6_mixStorm 71 = .ok (.invokevirtual 170, 3) := by decide +kernel
theorem dX6_mixStorm_74 : decode cX6_mixStorm 74 = .ok (.i2l, 1) := by decide +kernel
theorem dX6_mixStorm_75 : decode cX6_mixStorm 75 = .ok (.invokevirtual 267, 3) := by decide +kernel
theorem dX6_mixStorm_78 : decode cX6_mixStorm 78 = .ok (.iinc 2 1, 3) := by decide +kernel
theorem dX6_mixStorm_81 : decode cX6_mixStorm 81 = .ok (.goto (-20), 3) := by decide +kernel
theorem dX6_mixStorm_84 : decode cX6_mixStorm 84 = .ok (.return_, 1) := by decide +kernel
set_option maxRecDepth 20000 in
theorem ggX6_mixUnits_X6_unitNow : GoodIn wsX6_mixUnits wsX6_unitNow := goodIn_r _ [7, 8, 9, 10, 11, 12, 6, 13, 14, 15, 16, 17, 18, 19, 20, 21, 46, 47, 48, 49, 50, 51, 52, 53, 54, 55, 56, 57, 58, 59, 60, 61, 62, 63, 64, 65, 66, 67, 68, 69, 70, 71, 72, 73, 74, 75, 76, 77, 78] (by decide +kernel) (by decide +kernel)
set_option maxRecDepth 20000 in
theorem gX6_mixUnits_X6_unitNow : GoodIn wsX6_mixUnits (wsV RX6 179 RX6 yX6_unitNow wsX6_unitNow) := goodIn_app (goodIn_of _ (by decide +kernel)) ggX6_mixUnits_X6_unitNow
set_option maxRecDepth 20000 in
theorem ggX6_mixUnits_X6_mix : GoodIn wsX6_mixUnits wsX6_mix := goodIn_r _ [25, 26, 27, 46, 47, 48, 49, 50, 51, 52, 53, 54, 55, 56, 57, 58, 59, 60, 61, 62, 63, 64, 65, 66, 67, 68, 69, 70, 71, 72, 73, 74, 75, 76, 77, 78] (by decide +kernel) (by decide +kernel)
set_option maxRecDepth 20000 in
theorem gX6_mixUnits_X6_mix : GoodIn wsX6_mixUnits (wsV RX6 267 RX6 yX6_mix wsX6_mix) := goodIn_app (goodIn_of _ (by decide +kernel)) ggX6_mixUnits_X6_mix
set_option maxRecDepth 20000 in
theorem ggX6_mixUnits_X6_missedNow : GoodIn wsX6_mixUnits wsX6_missedNow := goodIn_r _ [31, 32, 33, 34, 6, 35, 36, 37, 38, 39, 40, 19, 20, 21, 14, 15, 16, 17, 18, 41, 42, 43, 44, 45, 46, 47, 48, 49, 50, 51, 52, 53, 54, 55, 56, 57, 58, 59, 60, 61, 62, 63, 64, 65, 66, 67, 68, 69, 70, 71, 72, 73, 74, 75, 76, 77, 78] (by decide +kernel) (by decide +kernel)
set_option maxRecDepth 20000 in
theorem gX6_mixUnits_X6_missedNow : GoodIn wsX6_mixUnits (wsV RX6 186 RX6 yX6_missedNow wsX6_missedNow) := goodIn_app (goodIn_of _ (by decide +kernel)) ggX6_mixUnits_X6_missedNow
theorem dX6_mixUnits_0 : decode cX6_mixUnits 0 = .ok (.iconst 0, 1) := by decide +kernel
theorem dX6_mixUnits_1 : decode cX6_mixUnits 1 = .ok (.istore_n 1, 1) := by decide +kernel
theorem dX6_mixUnits_2 : decode cX6_mixUnits 2 = .ok (.iload_n 1, 1) := by decide +kernel
theorem dX6_mixUnits_3 : decode cX6_mixUnits 3 = .ok (.aload_n 0, 1) := by decide +kernel
theorem dX6_mixUnits_4 : decode cX6_mixUnits 4 = .ok (.getfield 117, 3) := by decide +kernel
theorem dX6_mixUnits_7 : decode cX6_mixUnits 7 = .ok (.if_icmp .ge 45, 3) := by decide +kernel
theorem dX6_mixUnits_10 : decode cX6_mixUnits 10 = .ok (.iconst 0, 1) := by decide +kernel
theorem dX6_mixUnits_11 : decode cX6_mixUnits 11 = .ok (.istore_n 2, 1) := by decide +kernel
theorem dX6_mixUnits_12 : decode cX6_mixUnits 12 = .ok (.iload_n 2, 1) := by decide +kernel
theorem dX6_mixUnits_13 : decode cX6_mixUnits 13 = .ok (.bipush 18, 2) := by decide +kernel
theorem dX6_mixUnits_15 : decode cX6_mixUnits 15 = .ok (.if_icmp .ge 31, 3) := by decide +kernel
theorem dX6_mixUnits_18 : decode cX6_mixUnits 18 = .ok (.iload_n 2, 1) := by decide +kernel
theorem dX6_mixUnits_19 : decode cX6_mixUnits 19 = .ok (.iconst 3, 1) := by decide +kernel
theorem dX6_mixUnits_20 : decode cX6_mixUnits 20 = .ok (.if_icmp .lt 9, 3) := by decide +kernel
theorem dX6_mixUnits_23 : decode cX6_mixUnits 23 = .ok (.iload_n 2, 1) := by decide +kernel
theorem dX6_mixUnits_24 : decode cX6_mixUnits 24 = .ok (.bipush 9, 2) := by decide +kernel
theorem dX6_mixUnits_26 : decode cX6_mixUnits 26 = .ok (.if_icmp .le 14, 3) := by decide +kernel
theorem dX6_mixUnits_29 : decode cX6_mixUnits 29 = .ok (.aload_n 0, 1) := by decide +kernel
theorem dX6_mixUnits_30 : decode cX6_mixUnits 30 = .ok (.aload_n 0, 1) := by decide +kernel
theorem dX6_mixUnits_31 : decode cX6_mixUnits 31 = .ok (.iload_n 1, 1) := by decide +kernel
theorem dX6_mixUnits_32 : decode cX6_mixUnits 32 = .ok (.iload_n 2, 1) := by decide +kernel
theorem dX6_mixUnits_33 : decode cX6_mixUnits 33 = .ok (.invokevirtual 179, 3) := by decide +kernel
theorem dX6_mixUnits_36 : decode cX6_mixUnits 36 = .ok (.i2l, 1) := by decide +kernel
theorem dX6_mixUnits_37 : decode cX6_mixUnits 37 = .ok (.invokevirtual 267, 3) := by decide +kernel
theorem dX6_mixUnits_40 : decode cX6_mixUnits 40 = .ok (.iinc 2 1, 3) := by decide +kernel
theorem dX6_mixUnits_43 : decode cX6_mixUnits 43 = .ok (.goto (-31), 3) := by decide +kernel
theorem dX6_mixUnits_46 : decode cX6_mixUnits 46 = .ok (.iinc 1 1, 3) := by decide +kernel
theorem dX6_mixUnits_49 : decode cX6_mixUnits 49 = .ok (.goto (-47), 3) := by decide +kernel
theorem dX6_mixUnits_52 : decode cX6_mixUnits 52 = .ok (.iconst 0, 1) := by decide +kernel
theorem dX6_mixUnits_53 : decode cX6_mixUnits 53 = .ok (.istore_n 1, 1) := by decide +kernel
theorem dX6_mixUnits_54 : decode cX6_mixUnits 54 = .ok (.iload_n 1, 1) := by decide +kernel
theorem dX6_mixUnits_55 : decode cX6_mixUnits 55 = .ok (.aload_n 0, 1) := by decide +kernel
theorem dX6_mixUnits_56 : decode cX6_mixUnits 56 = .ok (.getfield 117, 3) := by decide +kernel
theorem dX6_mixUnits_59 : decode cX6_mixUnits 59 = .ok (.if_icmp .ge 36, 3) := by decide +kernel
theorem dX6_mixUnits_62 : decode cX6_mixUnits 62 = .ok (.iconst 0, 1) := by decide +kernel
theorem dX6_mixUnits_63 : decode cX6_mixUnits 63 = .ok (.istore_n 2, 1) := by decide +kernel
theorem dX6_mixUnits_64 : decode cX6_mixUnits 64 = .ok (.iload_n 2, 1) := by decide +kernel
theorem dX6_mixUnits_65 : decode cX6_mixUnits 65 = .ok (.aload_n 0, 1) := by decide +kernel
theorem dX6_mixUnits_66 : decode cX6_mixUnits 66 = .ok (.getfield 114, 3) := by decide +kernel
theorem dX6_mixUnits_69 : decode cX6_mixUnits 69 = .ok (.if_icmp .ge 20, 3) := by decide +kernel
theorem dX6_mixUnits_72 : decode cX6_mixUnits 72 = .ok (.aload_n 0, 1) := by decide +kernel
theorem dX6_mixUnits_73 : decode cX6_mixUnits 73 = .ok (.aload_n 0, 1) := by decide +kernel
theorem dX6_mixUnits_74 : decode cX6_mixUnits 74 = .ok (.iload_n 1, 1) := by decide +kernel
theorem dX6_mixUnits_75 : decode cX6_mixUnits 75 = .ok (.iload_n 2, 1) := by decide +kernel
theorem dX6_mixUnits_76 : decode cX6_mixUnits 76 = .ok (.invokevirtual 186, 3) := by decide +kernel
theorem dX6_mixUnits_79 : decode cX6_mixUnits 79 = .ok (.i2l, 1) := by decide +kernel
theorem dX6_mixUnits_80 : decode cX6_mixUnits 80 = .ok (.invokevirtual 267, 3) := by decide +kernel
theorem dX6_mixUnits_83 : decode cX6_mixUnits 83 = .ok (.iinc 2 1, 3) := by decide +kernel
theorem dX6_mixUnits_86 : decode cX6_mixUnits 86 = .ok (.goto (-22), 3) := by decide +kernel
theorem dX6_mixUnits_89 : decode cX6_mixUnits 89 = .ok (.iinc 1 1, 3) := by decide +kernel
theorem dX6_mixUnits_92 : decode cX6_mixUnits 92 = .ok (.goto (-38), 3) := by decide +kernel
theorem dX6_mixUnits_95 : decode cX6_mixUnits 95 = .ok (.return_, 1) := by decide +kernel
set_option maxRecDepth 20000 in
theorem ggX6_mixBest_X6_bestNow : GoodIn wsX6_mixBest wsX6_bestNow := goodIn_r _ [5, 6, 7, 8, 9, 10, 4, 11, 12, 13, 14, 15, 16, 17, 18, 19, 20, 21, 22, 23, 24, 25, 26, 27, 28, 29, 30, 31, 32, 33, 34, 35, 36, 37, 38, 39, 40, 41, 42, 43, 44, 45, 46, 47, 48, 49, 50, 51, 52, 53, 54, 55, 56, 57, 58, 59, 70, 71, 72, 73, 74, 75, 76, 77, 78, 79, 80, 81, 82, 83, 84, 85, 86, 87, 88, 89, 90, 91, 92, 93, 94, 95, 96, 97, 98, 99, 100, 101, 102] (by decide +kernel) (by decide +kernel)
set_option maxRecDepth 20000 in
theorem gX6_mixBest_X6_bestNow : GoodIn wsX6_mixBest (wsV RX6 235 RX6 yX6_bestNow wsX6_bestNow) := goodIn_app (goodIn_of _ (by decide +kernel)) ggX6_mixBest_X6_bestNow
set_option maxRecDepth 20000 in
theorem ggX6_mixBest_X6_mix : GoodIn wsX6_mixBest wsX6_mix := goodIn_r _ [63, 64, 65, 70, 71, 72, 73, 74, 75, 76, 77, 78, 79, 80, 81, 82, 83, 84, 85, 86, 87, 88, 89, 90, 91, 92, 93, 94, 95, 96, 97, 98, 99, 100, 101, 102] (by decide +kernel) (by decide +kernel)
set_option maxRecDepth 20000 in
theorem gX6_mixBest_X6_mix : GoodIn wsX6_mixBest (wsV RX6 267 RX6 yX6_mix wsX6_mix) := goodIn_app (goodIn_of _ (by decide +kernel)) ggX6_mixBest_X6_mix
set_option maxRecDepth 20000 in
theorem ggX6_mixBest_X6_lossNow : GoodIn wsX6_mixBest wsX6_lossNow := goodIn_r _ [69, 16, 7, 6, 18, 8, 9, 10, 4, 11, 12, 13, 14, 15, 17, 19, 20, 21, 22, 23, 24, 25, 26, 27, 28, 29, 30, 31, 32, 33, 34, 35, 36, 37, 38, 39, 40, 41, 42, 43, 44, 45, 46, 47, 48, 49, 50, 51, 52, 53, 54, 55, 56, 57, 58, 59, 70, 71, 72, 73, 74, 75, 76, 77, 78, 79, 80, 81, 82, 83, 84, 85, 86, 87, 88, 89, 90, 91, 92, 93, 94, 95, 96, 97, 98, 99, 100, 101, 102] (by decide +kernel) (by decide +kernel)
set_option maxRecDepth 20000 in
theorem gX6_mixBest_X6_lossNow : GoodIn wsX6_mixBest (wsV RX6 241 RX6 yX6_lossNow wsX6_lossNow) := goodIn_app (goodIn_of _ (by decide +kernel)) ggX6_mixBest_X6_lossNow
theorem dX6_mixBest_0 : decode cX6_mixBest 0 = .ok (.iconst 1, 1) := by decide +kernel
theorem dX6_mixBest_1 : decode cX6_mixBest 1 = .ok (.istore_n 2, 1) := by decide +kernel
theorem dX6_mixBest_2 : decode cX6_mixBest 2 = .ok (.iload_n 2, 1) := by decide +kernel
theorem dX6_mixBest_3 : decode cX6_mixBest 3 = .ok (.iconst 4, 1) := by decide +kernel
theorem dX6_mixBest_4 : decode cX6_mixBest 4 = .ok (.if_icmp .gt 68, 3) := by decide +kernel
theorem dX6_mixBest_7 : decode cX6_mixBest 7 = .ok (.iconst 0, 1) := by decide +kernel
theorem dX6_mixBest_8 : decode cX6_mixBest 8 = .ok (.istore_n 3, 1) := by decide +kernel
theorem dX6_mixBest_9 : decode cX6_mixBest 9 = .ok (.iload_n 3, 1) := by decide +kernel
theorem dX6_mixBest_10 : decode cX6_mixBest 10 = .ok (.iload_n 2, 1) := by decide +kernel
theorem dX6_mixBest_11 : decode cX6_mixBest 11 = .ok (.if_icmp .ge 33, 3) := by decide +kernel
theorem dX6_mixBest_14 : decode cX6_mixBest 14 = .ok (.aload_n 0, 1) := by decide +kernel
theorem dX6_mixBest_15 : decode cX6_mixBest 15 = .ok (.aload_n 0, 1) := by decide +kernel
theorem dX6_mixBest_16 : decode cX6_mixBest 16 = .ok (.iload_n 1, 1) := by decide +kernel
theorem dX6_mixBest_17 : decode cX6_mixBest 17 = .ok (.iload_n 2, 1) := by decide +kernel
theorem dX6_mixBest_18 : decode cX6_mixBest 18 = .ok (.iload_n 3, 1) := by decide +kernel
theorem dX6_mixBest_19 : decode cX6_mixBest 19 = .ok (.iconst 0, 1) := by decide +kernel
theorem dX6_mixBest_20 : decode cX6_mixBest 20 = .ok (.invokevirtual 235, 3) := by decide +kernel
theorem dX6_mixBest_23 : decode cX6_mixBest 23 = .ok (.invokevirtual 267, 3) := by decide +kernel
theorem dX6_mixBest_26 : decode cX6_mixBest 26 = .ok (.aload_n 0, 1) := by decide +kernel
theorem dX6_mixBest_27 : decode cX6_mixBest 27 = .ok (.aload_n 0, 1) := by decide +kernel
theorem dX6_mixBest_28 : decode cX6_mixBest 28 = .ok (.iload_n 1, 1) := by decide +kernel
theorem dX6_mixBest_29 : decode cX6_mixBest 29 = .ok (.iload_n 2, 1) := by decide +kernel
theorem dX6_mixBest_30 : decode cX6_mixBest 30 = .ok (.iload_n 3, 1) := by decide +kernel
theorem dX6_mixBest_31 : decode cX6_mixBest 31 = .ok (.iconst 1, 1) := by decide +kernel
theorem dX6_mixBest_32 : decode cX6_mixBest 32 = .ok (.invokevirtual 235, 3) := by decide +kernel
theorem dX6_mixBest_35 : decode cX6_mixBest 35 = .ok (.invokevirtual 267, 3) := by decide +kernel
theorem dX6_mixBest_38 : decode cX6_mixBest 38 = .ok (.iinc 3 1, 3) := by decide +kernel
theorem dX6_mixBest_41 : decode cX6_mixBest 41 = .ok (.goto (-32), 3) := by decide +kernel
theorem dX6_mixBest_44 : decode cX6_mixBest 44 = .ok (.aload_n 0, 1) := by decide +kernel
theorem dX6_mixBest_45 : decode cX6_mixBest 45 = .ok (.aload_n 0, 1) := by decide +kernel
theorem dX6_mixBest_46 : decode cX6_mixBest 46 = .ok (.iload_n 1, 1) := by decide +kernel
theorem dX6_mixBest_47 : decode cX6_mixBest 47 = .ok (.iload_n 2, 1) := by decide +kernel
theorem dX6_mixBest_48 : decode cX6_mixBest 48 = .ok (.iconst 0, 1) := by decide +kernel
theorem dX6_mixBest_49 : decode cX6_mixBest 49 = .ok (.invokevirtual 241, 3) := by decide +kernel
theorem dX6_mixBest_52 : decode cX6_mixBest 52 = .ok (.invokevirtual 267, 3) := by decide +kernel
theorem dX6_mixBest_55 : decode cX6_mixBest 55 = .ok (.aload_n 0, 1) := by decide +kernel
theorem dX6_mixBest_56 : decode cX6_mixBest 56 = .ok (.aload_n 0, 1) := by decide +kernel
theorem dX6_mixBest_57 : decode cX6_mixBest 57 = .ok (.iload_n 1, 1) := by decide +kernel
theorem dX6_mixBest_58 : decode cX6_mixBest 58 = .ok (.iload_n 2, 1) := by decide +kernel
theorem dX6_mixBest_59 : decode cX6_mixBest 59 = .ok (.iconst 1, 1) := by decide +kernel
theorem dX6_mixBest_60 : decode cX6_mixBest 60 = .ok (.invokevirtual 241, 3) := by decide +kernel
theorem dX6_mixBest_63 : decode cX6_mixBest 63 = .ok (.invokevirtual 267, 3) := by decide +kernel
theorem dX6_mixBest_66 : decode cX6_mixBest 66 = .ok (.iinc 2 1, 3) := by decide +kernel
theorem dX6_mixBest_69 : decode cX6_mixBest 69 = .ok (.goto (-67), 3) := by decide +kernel
theorem dX6_mixBest_72 : decode cX6_mixBest 72 = .ok (.return_, 1) := by decide +kernel
set_option maxRecDepth 20000 in
theorem ggX6_digest_X6_mixStorm : GoodIn wsX6_digest wsX6_mixStorm := goodIn_r _ [10, 11, 12, 9, 13, 14, 15, 16, 17, 18, 19, 20, 21, 22, 23, 24, 25, 26, 27, 28, 29, 30, 31, 32, 33, 34, 35, 36, 37, 38, 39, 40, 41, 42, 2, 43, 44, 45, 46, 47, 48, 49, 50, 51, 52, 53, 142, 143, 144, 145, 146, 147, 148, 149, 150, 151, 152, 153, 154, 155, 156, 157, 158, 159, 160, 161, 162, 163, 164, 165, 166, 167, 168, 169, 170, 171, 172, 173, 174] (by decide +kernel) (by decide +kernel)
set_option maxRecDepth 20000 in
theorem gX6_digest_X6_mixStorm : GoodIn wsX6_digest (wsV RX6 273 RX6 yX6_mixStorm wsX6_mixStorm) := goodIn_app (goodIn_of _ (by decide +kernel)) ggX6_digest_X6_mixStorm
set_option maxRecDepth 20000 in
theorem ggX6_digest_X6_mixUnits : GoodIn wsX6_digest wsX6_mixUnits := goodIn_r _ [57, 58, 3, 59, 60, 61, 9, 62, 63, 64, 65, 66, 67, 68, 69, 70, 71, 72, 73, 11, 12, 13, 38, 39, 40, 41, 42, 2, 74, 75, 76, 77, 78, 79, 80, 81, 24, 25, 26, 27, 28, 33, 34, 35, 36, 37, 142, 143, 144, 145, 146, 147, 148, 149, 150, 151, 152, 153, 154, 155, 156, 157, 158, 159, 160, 161, 162, 163, 164, 165, 166, 167, 168, 169, 170, 171, 172, 173, 174] (by decide +kernel) (by decide +kernel)
set_option maxRecDepth 20000 in
theorem gX6_digest_X6_mixUnits : GoodIn wsX6_digest (wsV RX6 276 RX6 yX6_mixUnits wsX6_mixUnits) := goodIn_app (goodIn_of _ (by decide +kernel)) ggX6_digest_X6_mixUnits
set_option maxRecDepth 20000 in
theorem ggX6_digest_X6_mixBest : GoodIn wsX6_digest wsX6_mixBest := goodIn_r _ [85, 86, 87, 88, 9, 89, 90, 91, 92, 93, 94, 95, 96, 97, 98, 99, 100, 101, 102, 3, 33, 34, 35, 36, 37, 11, 12, 13, 24, 25, 26, 27, 28, 103, 104, 105, 106, 107, 108, 109, 110, 111, 112, 113, 114, 115, 116, 117, 118, 119, 120, 121, 122, 123, 124, 125, 126, 127, 128, 129, 38, 39, 40, 41, 42, 2, 130, 131, 132, 133, 142, 143, 144, 145, 146, 147, 148, 149, 150, 151, 152, 153, 154, 155, 156, 157, 158, 159, 160, 161, 162, 163, 164, 165, 166, 167, 168, 169, 170, 171, 172, 173, 174] (by decide +kernel) (by decide +kernel)
set_option maxRecDepth 20000 in
theorem gX6_digest_X6_mixBest : GoodIn wsX6_digest (wsV RX6 279 RX6 yX6_mixBest wsX6_mixBest) := goodIn_app (goodIn_of _ (by decide +kernel)) ggX6_digest_X6_mixBest
set_option maxRecDepth 20000 in
theorem ggX6_digest_X6_mix : GoodIn wsX6_digest wsX6_mix := goodIn_r _ [41, 42, 2, 142, 143, 144, 145, 146, 147, 148, 149, 150, 151, 152, 153, 154, 155, 156, 157, 158, 159, 160, 161, 162, 163, 164, 165, 166, 167, 168, 169, 170, 171, 172, 173, 174] (by decide +kernel) (by decide +kernel)
set_option maxRecDepth 20000 in
theorem gX6_digest_X6_mix : GoodIn wsX6_digest (wsV RX6 267 RX6 yX6_mix wsX6_mix) := goodIn_app (goodIn_of _ (by decide +kernel)) ggX6_digest_X6_mix
set_option maxRecDepth 20000 in
theorem ggX6_digest_X6_howMany : GoodIn wsX6_digest wsX6_howMany := goodIn_r _ [137, 3, 58, 4, 138, 139, 140, 141, 142, 143, 144, 145, 146, 147, 148, 149, 150, 151, 152, 153, 154, 155, 156, 157, 158, 159, 160, 161, 162, 163, 164, 165, 166, 167, 168, 169, 170, 171, 172, 173, 174] (by decide +kernel) (by decide +kernel)
set_option maxRecDepth 20000 in
theorem gX6_digest_X6_howMany : GoodIn wsX6_digest (wsV RX6 259 RX6 yX6_howMany wsX6_howMany) := goodIn_app (goodIn_of _ (by decide +kernel)) ggX6_digest_X6_howMany
theorem dX6_digest_0 : decode cX6_digest 0 = .ok (.aload_n 0, 1) := by decide +kernel
theorem dX6_digest_1 : decode cX6_digest 1 = .ok (.ldc2_w 271, 3) := by decide +kernel
theorem dX6_digest_4 : decode cX6_digest 4 = .ok (.putfield 264, 3) := by decide +kernel
theorem dX6_digest_7 : decode cX6_digest 7 = .ok (.iconst 0, 1) := by decide +kernel
theorem dX6_digest_8 : decode cX6_digest 8 = .ok (.istore_n 1, 1) := by decide +kernel
theorem dX6_digest_9 : decode cX6_digest 9 = .ok (.iload_n 1, 1) := by decide +kernel
theorem dX6_digest_10 : decode cX6_digest 10 = .ok (.aload_n 0, 1) := by decide +kernel
theorem dX6_digest_11 : decode cX6_digest 11 = .ok (.getfield 114, 3) := by decide +kernel
theorem dX6_digest_14 : decode cX6_digest 14 = .ok (.if_icmp .ge 14, 3) := by decide +kernel
theorem dX6_digest_17 : decode cX6_digest 17 = .ok (.aload_n 0, 1) := by decide +kernel
theorem dX6_digest_18 : decode cX6_digest 18 = .ok (.iload_n 1, 1) := by decide +kernel
theorem dX6_digest_19 : decode cX6_digest 19 = .ok (.invokevirtual 273, 3) := by decide +kernel
