theorem dX0_init_0 : decode cX0_init 0 = .ok (.aload_n 0, 1) := by decide +kernel
theorem dX0_init_1 : decode cX0_init 1 = .ok (.invokespecial 3, 3) := by decide +kernel
theorem dX0_init_4 : decode cX0_init 4 = .ok (.aload_n 0, 1) := by decide +kernel
theorem dX0_init_5 : decode cX0_init 5 = .ok (.iconst 4, 1) := by decide +kernel
theorem dX0_init_6 : decode cX0_init 6 = .ok (.newarray .long, 2) := by decide +kernel
theorem dX0_init_8 : decode cX0_init 8 = .ok (.putfield 9, 3) := by decide +kernel
theorem dX0_init_11 : decode cX0_init 11 = .ok (.aload_n 0, 1) := by decide +kernel
theorem dX0_init_12 : decode cX0_init 12 = .ok (.iconst 4, 1) := by decide +kernel
theorem dX0_init_13 : decode cX0_init 13 = .ok (.newarray .long, 2) := by decide +kernel
theorem dX0_init_15 : decode cX0_init 15 = .ok (.putfield 15, 3) := by decide +kernel
theorem dX0_init_18 : decode cX0_init 18 = .ok (.aload_n 0, 1) := by decide +kernel
theorem dX0_init_19 : decode cX0_init 19 = .ok (.bipush 16, 2) := by decide +kernel
theorem dX0_init_21 : decode cX0_init 21 = .ok (.newarray .long, 2) := by decide +kernel
theorem dX0_init_23 : decode cX0_init 23 = .ok (.putfield 18, 3) := by decide +kernel
theorem dX0_init_26 : decode cX0_init 26 = .ok (.aload_n 0, 1) := by decide +kernel
theorem dX0_init_27 : decode cX0_init 27 = .ok (.iconst 4, 1) := by decide +kernel
theorem dX0_init_28 : decode cX0_init 28 = .ok (.newarray .long, 2) := by decide +kernel
theorem dX0_init_30 : decode cX0_init 30 = .ok (.putfield 21, 3) := by decide +kernel
theorem dX0_init_33 : decode cX0_init 33 = .ok (.aload_n 0, 1) := by decide +kernel
theorem dX0_init_34 : decode cX0_init 34 = .ok (.iconst 4, 1) := by decide +kernel
theorem dX0_init_35 : decode cX0_init 35 = .ok (.newarray .long, 2) := by decide +kernel
theorem dX0_init_37 : decode cX0_init 37 = .ok (.putfield 24, 3) := by decide +kernel
theorem dX0_init_40 : decode cX0_init 40 = .ok (.aload_n 0, 1) := by decide +kernel
theorem dX0_init_41 : decode cX0_init 41 = .ok (.lconst 1, 1) := by decide +kernel
theorem dX0_init_42 : decode cX0_init 42 = .ok (.putfield 27, 3) := by decide +kernel
theorem dX0_init_45 : decode cX0_init 45 = .ok (.return_, 1) := by decide +kernel
theorem dX0_begin_0 : decode cX0_begin 0 = .ok (.aload_n 0, 1) := by decide +kernel
theorem dX0_begin_1 : decode cX0_begin 1 = .ok (.iconst 0, 1) := by decide +kernel
theorem dX0_begin_2 : decode cX0_begin 2 = .ok (.iload_n 1, 1) := by decide +kernel
theorem dX0_begin_3 : decode cX0_begin 3 = .ok (.iconst 4, 1) := by decide +kernel
theorem dX0_begin_4 : decode cX0_begin 4 = .ok (.invokestatic 31, 3) := by decide +kernel
theorem dX0_begin_7 : decode cX0_begin 7 = .ok (.invokestatic 37, 3) := by decide +kernel
theorem dX0_begin_10 : decode cX0_begin 10 = .ok (.putfield 40, 3) := by decide +kernel
theorem dX0_begin_13 : decode cX0_begin 13 = .ok (.aload_n 0, 1) := by decide +kernel
theorem dX0_begin_14 : decode cX0_begin 14 = .ok (.lconst 0, 1) := by decide +kernel
theorem dX0_begin_15 : decode cX0_begin 15 = .ok (.putfield 44, 3) := by decide +kernel
theorem dX0_begin_18 : decode cX0_begin 18 = .ok (.iconst 0, 1) := by decide +kernel
theorem dX0_begin_19 : decode cX0_begin 19 = .ok (.istore_n 2, 1) := by decide +kernel
theorem dX0_begin_20 : decode cX0_begin 20 = .ok (.iload_n 2, 1) := by decide +kernel
theorem dX0_begin_21 : decode cX0_begin 21 = .ok (.iconst 4, 1) := by decide +kernel
theorem dX0_begin_22 : decode cX0_begin 22 = .ok (.if_icmp .ge 23, 3) := by decide +kernel
theorem dX0_begin_25 : decode cX0_begin 25 = .ok (.aload_n 0, 1) := by decide +kernel
theorem dX0_begin_26 : decode cX0_begin 26 = .ok (.getfield 9, 3) := by decide +kernel
theorem dX0_begin_29 : decode cX0_begin 29 = .ok (.iload_n 2, 1) := by decide +kernel
theorem dX0_begin_30 : decode cX0_begin 30 = .ok (.lconst 0, 1) := by decide +kernel
theorem dX0_begin_31 : decode cX0_begin 31 = .ok (.lastore, 1) := by decide +kernel
theorem dX0_begin_32 : decode cX0_begin 32 = .ok (.aload_n 0, 1) := by decide +kernel
theorem dX0_begin_33 : decode cX0_begin 33 = .ok (.getfield 15, 3) := by decide +kernel
theorem dX0_begin_36 : decode cX0_begin 36 = .ok (.iload_n 2, 1) := by decide +kernel
theorem dX0_begin_37 : decode cX0_begin 37 = .ok (.lconst 0, 1) := by decide +kernel
theorem dX0_begin_38 : decode cX0_begin 38 = .ok (.lastore, 1) := by decide +kernel
theorem dX0_begin_39 : decode cX0_begin 39 = .ok (.iinc 2 1, 3) := by decide +kernel
theorem dX0_begin_42 : decode cX0_begin 42 = .ok (.goto (-22), 3) := by decide +kernel
theorem dX0_begin_45 : decode cX0_begin 45 = .ok (.return_, 1) := by decide +kernel
set_option maxRecDepth 20000 in
theorem ggX0_add_X2_at : GoodIn wsX0_add wsX2_at := goodIn_r _ [10, 11, 12, 25, 26] (by decide +kernel) (by decide +kernel)
set_option maxRecDepth 20000 in
theorem gX0_add_X2_at : GoodIn wsX0_add (wsV RX0 53 RX2 yX2_at wsX2_at) := goodIn_app (goodIn_of _ (by decide +kernel)) ggX0_add_X2_at
theorem dX0_add_0 : decode cX0_add 0 = .ok (.iconst 0, 1) := by decide +kernel
theorem dX0_add_1 : decode cX0_add 1 = .ok (.istore_n 2, 1) := by decide +kernel
theorem dX0_add_2 : decode cX0_add 2 = .ok (.iload_n 2, 1) := by decide +kernel
theorem dX0_add_3 : decode cX0_add 3 = .ok (.bipush 8, 2) := by decide +kernel
theorem dX0_add_5 : decode cX0_add 5 = .ok (.if_icmp .ge 36, 3) := by decide +kernel
theorem dX0_add_8 : decode cX0_add 8 = .ok (.aload_n 0, 1) := by decide +kernel
theorem dX0_add_9 : decode cX0_add 9 = .ok (.dup, 1) := by decide +kernel
theorem dX0_add_10 : decode cX0_add 10 = .ok (.getfield 44, 3) := by decide +kernel
theorem dX0_add_13 : decode cX0_add 13 = .ok (.aload_n 1, 1) := by decide +kernel
theorem dX0_add_14 : decode cX0_add 14 = .ok (.getfield 47, 3) := by decide +kernel
theorem dX0_add_17 : decode cX0_add 17 = .ok (.iload_n 2, 1) := by decide +kernel
theorem dX0_add_18 : decode cX0_add 18 = .ok (.invokevirtual 53, 3) := by decide +kernel
theorem dX0_add_21 : decode cX0_add 21 = .ok (.aload_n 1, 1) := by decide +kernel
theorem dX0_add_22 : decode cX0_add 22 = .ok (.getfield 47, 3) := by decide +kernel
theorem dX0_add_25 : decode cX0_add 25 = .ok (.iload_n 2, 1) := by decide +kernel
theorem dX0_add_26 : decode cX0_add 26 = .ok (.invokevirtual 53, 3) := by decide +kernel
theorem dX0_add_29 : decode cX0_add 29 = .ok (.imul, 1) := by decide +kernel
theorem dX0_add_30 : decode cX0_add 30 = .ok (.i2l, 1) := by decide +kernel
theorem dX0_add_31 : decode cX0_add 31 = .ok (.ladd, 1) := by decide +kernel
theorem dX0_add_32 : decode cX0_add 32 = .ok (.putfield 44, 3) := by decide +kernel
theorem dX0_add_35 : decode cX0_add 35 = .ok (.iinc 2 1, 3) := by decide +kernel
theorem dX0_add_38 : decode cX0_add 38 = .ok (.goto (-36), 3) := by decide +kernel
theorem dX0_add_41 : decode cX0_add 41 = .ok (.iconst 0, 1) := by decide +kernel
theorem dX0_add_42 : decode cX0_add 42 = .ok (.istore_n 2, 1) := by decide +kernel
theorem dX0_add_43 : decode cX0_add 43 = .ok (.iload_n 2, 1) := by decide +kernel
theorem dX0_add_44 : decode cX0_add 44 = .ok (.iconst 4, 1) := by decide +kernel
theorem dX0_add_45 : decode cX0_add 45 = .ok (.if_icmp .ge 80, 3) := by decide +kernel
theorem dX0_add_48 : decode cX0_add 48 = .ok (.iconst 0, 1) := by decide +kernel
theorem dX0_add_49 : decode cX0_add 49 = .ok (.istore_n 3, 1) := by decide +kernel
theorem dX0_add_50 : decode cX0_add 50 = .ok (.iload_n 3, 1) := by decide +kernel
theorem dX0_add_51 : decode cX0_add 51 = .ok (.iconst 3, 1) := by decide +kernel
theorem dX0_add_52 : decode cX0_add 52 = .ok (.if_icmp .ge 67, 3) := by decide +kernel
theorem dX0_add_55 : decode cX0_add 55 = .ok (.aload_n 0, 1) := by decide +kernel
theorem dX0_add_56 : decode cX0_add 56 = .ok (.getfield 9, 3) := by decide +kernel
theorem dX0_add_59 : decode cX0_add 59 = .ok (.iload_n 2, 1) := by decide +kernel
theorem dX0_add_60 : decode cX0_add 60 = .ok (.dup2, 1) := by decide +kernel
theorem dX0_add_61 : decode cX0_add 61 = .ok (.laload, 1) := by decide +kernel
theorem dX0_add_62 : decode cX0_add 62 = .ok (.aload_n 1, 1) := by decide +kernel
theorem dX0_add_63 : decode cX0_add 63 = .ok (.getfield 59, 3) := by decide +kernel
theorem dX0_add_66 : decode cX0_add 66 = .ok (.iload_n 3, 1) := by decide +kernel
theorem dX0_add_67 : decode cX0_add 67 = .ok (.invokevirtual 53, 3) := by decide +kernel
theorem dX0_add_70 : decode cX0_add 70 = .ok (.aload_n 1, 1) := by decide +kernel
theorem dX0_add_71 : decode cX0_add 71 = .ok (.getfield 59, 3) := by decide +kernel
theorem dX0_add_74 : decode cX0_add 74 = .ok (.iload_n 3, 1) := by decide +kernel
theorem dX0_add_75 : decode cX0_add 75 = .ok (.iload_n 2, 1) := by decide +kernel
theorem dX0_add_76 : decode cX0_add 76 = .ok (.iadd, 1) := by decide +kernel
theorem dX0_add_77 : decode cX0_add 77 = .ok (.invokevirtual 53, 3) := by decide +kernel
theorem dX0_add_80 : decode cX0_add 80 = .ok (.imul, 1) := by decide +kernel
theorem dX0_add_81 : decode cX0_add 81 = .ok (.i2l, 1) := by decide +kernel
theorem dX0_add_82 : decode cX0_add 82 = .ok (.ladd, 1) := by decide +kernel
theorem dX0_add_83 : decode cX0_add 83 = .ok (.lastore, 1) := by decide +kernel
theorem dX0_add_84 : decode cX0_add 84 = .ok (.aload_n 0, 1) := by decide +kernel
theorem dX0_add_85 : decode cX0_add 85 = .ok (.getfield 15, 3) := by decide +kernel
theorem dX0_add_88 : decode cX0_add 88 = .ok (.iload_n 2, 1) := by decide +kernel
theorem dX0_add_89 : decode cX0_add 89 = .ok (.dup2, 1) := by decide +kernel
theorem dX0_add_90 : decode cX0_add 90 = .ok (.laload, 1) := by decide +kernel
theorem dX0_add_91 : decode cX0_add 91 = .ok (.aload_n 1, 1) := by decide +kernel
theorem dX0_add_92 : decode cX0_add 92 = .ok (.getfield 59, 3) := by decide +kernel
theorem dX0_add_95 : decode cX0_add 95 = .ok (.iload_n 3, 1) := by decide +kernel
theorem dX0_add_96 : decode cX0_add 96 = .ok (.invokevirtual 53, 3) := by decide +kernel
theorem dX0_add_99 : decode cX0_add 99 = .ok (.aload_n 1, 1) := by decide +kernel
theorem dX0_add_100 : decode cX0_add 100 = .ok (.getfield 47, 3) := by decide +kernel
theorem dX0_add_103 : decode cX0_add 103 = .ok (.iload_n 3, 1) := by decide +kernel
theorem dX0_add_104 : decode cX0_add 104 = .ok (.iload_n 2, 1) := by decide +kernel
theorem dX0_add_105 : decode cX0_add 105 = .ok (.iadd, 1) := by decide +kernel
theorem dX0_add_106 : decode cX0_add 106 = .ok (.invokevirtual 53, 3) := by decide +kernel
theorem dX0_add_109 : decode cX0_add 109 = .ok (.imul, 1) := by decide +kernel
theorem dX0_add_110 : decode cX0_add 110 = .ok (.i2l, 1) := by decide +kernel
theorem dX0_add_111 : decode cX0_add 111 = .ok (.ladd, 1) := by decide +kernel
theorem dX0_add_112 : decode cX0_add 112 = .ok (.lastore, 1) := by decide +kernel
theorem dX0_add_113 : decode cX0_add 113 = .ok (.iinc 3 1, 3) := by decide +kernel
theorem dX0_add_116 : decode cX0_add 116 = .ok (.goto (-66), 3) := by decide +kernel
theorem dX0_add_119 : decode cX0_add 119 = .ok (.iinc 2 1, 3) := by decide +kernel
theorem dX0_add_122 : decode cX0_add 122 = .ok (.goto (-79), 3) := by decide +kernel
theorem dX0_add_125 : decode cX0_add 125 = .ok (.return_, 1) := by decide +kernel
set_option maxRecDepth 20000 in
theorem ggX0_settle_X0_fitsWith : GoodIn wsX0_settle wsX0_fitsWith := goodIn_r _ [6, 7, 1, 8, 9, 10, 11, 12, 5, 13, 14, 15, 16, 17, 18, 19, 20, 21, 22, 23, 24, 25, 26, 27, 28, 29, 30, 31, 32, 33, 34, 35, 36, 37, 38, 39, 40, 41, 42, 43] (by decide +kernel) (by decide +kernel)
set_option maxRecDepth 20000 in
theorem gX0_settle_X0_fitsWith : GoodIn wsX0_settle (wsV RX0 62 RX0 yX0_fitsWith wsX0_fitsWith) := goodIn_app (goodIn_of _ (by decide +kernel)) ggX0_settle_X0_fitsWith
theorem dX0_settle_0 : decode cX0_settle 0 = .ok (.iconst 0, 1) := by decide +kernel
theorem dX0_settle_1 : decode cX0_settle 1 = .ok (.istore_n 1, 1) := by decide +kernel
theorem dX0_settle_2 : decode cX0_settle 2 = .ok (.iconst 1, 1) := by decide +kernel
theorem dX0_settle_3 : decode cX0_settle 3 = .ok (.aload_n 0, 1) := by decide +kernel
theorem dX0_settle_4 : decode cX0_settle 4 = .ok (.getfield 40, 3) := by decide +kernel
theorem dX0_settle_7 : decode cX0_settle 7 = .ok (.ishl, 1) := by decide +kernel
theorem dX0_settle_8 : decode cX0_settle 8 = .ok (.iconst 1, 1) := by decide +kernel
theorem dX0_settle_9 : decode cX0_settle 9 = .ok (.isub, 1) := by decide +kernel
theorem dX0_settle_10 : decode cX0_settle 10 = .ok (.istore_n 2, 1) := by decide +kernel
theorem dX0_settle_11 : decode cX0_settle 11 = .ok (.iload_n 2, 1) := by decide +kernel
theorem dX0_settle_12 : decode cX0_settle 12 = .ok (.ifCond .lt 19, 3) := by decide +kernel
theorem dX0_settle_15 : decode cX0_settle 15 = .ok (.iload_n 1, 1) := by decide +kernel
theorem dX0_settle_16 : decode cX0_settle 16 = .ok (.ifCond .ne 15, 3) := by decide +kernel
theorem dX0_settle_19 : decode cX0_settle 19 = .ok (.aload_n 0, 1) := by decide +kernel
theorem dX0_settle_20 : decode cX0_settle 20 = .ok (.iload_n 2, 1) := by decide +kernel
theorem dX0_settle_21 : decode cX0_settle 21 = .ok (.invokevirtual 62, 3) := by decide +kernel
theorem dX0_settle_24 : decode cX0_settle 24 = .ok (.istore_n 1, 1) := by decide +kernel
theorem dX0_settle_25 : decode cX0_settle 25 = .ok (.iinc 2 (-1), 3) := by decide +kernel
theorem dX0_settle_28 : decode cX0_settle 28 = .ok (.goto (-17), 3) := by decide +kernel
theorem dX0_settle_31 : decode cX0_settle 31 = .ok (.return_, 1) := by decide +kernel
theorem dX0_below_0 : decode cX0_below 0 = .ok (.aload_n 0, 1) := by decide +kernel
theorem dX0_below_1 : decode cX0_below 1 = .ok (.getfield 27, 3) := by decide +kernel
theorem dX0_below_4 : decode cX0_below 4 = .ok (.lreturn, 1) := by decide +kernel
theorem dX0_partAbove_0 : decode cX0_partAbove 0 = .ok (.iload_n 1, 1) := by decide +kernel
theorem dX0_partAbove_1 : decode cX0_partAbove 1 = .ok (.ifCond .lt 17, 3) := by decide +kernel
theorem dX0_partAbove_4 : decode cX0_partAbove 4 = .ok (.iload_n 1, 1) := by decide +kernel
theorem dX0_partAbove_5 : decode cX0_partAbove 5 = .ok (.iconst 4, 1) := by decide +kernel
theorem dX0_partAbove_6 : decode cX0_partAbove 6 = .ok (.if_icmp .ge 12, 3) := by decide +kernel
theorem dX0_partAbove_9 : decode cX0_partAbove 9 = .ok (.aload_n 0, 1) := by decide +kernel
theorem dX0_partAbove_10 : decode cX0_partAbove 10 = .ok (.getfield 21, 3) := by decide +kernel
theorem dX0_partAbove_13 : decode cX0_partAbove 13 = .ok (.iload_n 1, 1) := by decide +kernel
theorem dX0_partAbove_14 : decode cX0_partAbove 14 = .ok (.laload, 1) := by decide +kernel
theorem dX0_partAbove_15 : decode cX0_partAbove 15 = .ok (.goto 4, 3) := by decide +kernel
theorem dX0_partAbove_18 : decode cX0_partAbove 18 = .ok (.lconst 0, 1) := by decide +kernel
theorem dX0_partAbove_19 : decode cX0_partAbove 19 = .ok (.lreturn, 1) := by decide +kernel
theorem dX0_pressAbove_0 : decode cX0_pressAbove 0 = .ok (.iload_n 1, 1) := by decide +kernel
theorem dX0_pressAbove_1 : decode cX0_pressAbove 1 = .ok (.ifCond .lt 17, 3) := by decide +kernel
theorem dX0_pressAbove_4 : decode cX0_pressAbove 4 = .ok (.iload_n 1, 1) := by decide +kernel
theorem dX0_pressAbove_5 : decode cX0_pressAbove 5 = .ok (.iconst 4, 1) := by decide +kernel
theorem dX0_pressAbove_6 : decode cX0_pressAbove 6 = .ok (.if_icmp .ge 12, 3) := by decide +kernel
theorem dX0_pressAbove_9 : decode cX0_pressAbove 9 = .ok (.aload_n 0, 1) := by decide +kernel
theorem dX0_pressAbove_10 : decode cX0_pressAbove 10 = .ok (.getfield 24, 3) := by decide +kernel
theorem dX0_pressAbove_13 : decode cX0_pressAbove 13 = .ok (.iload_n 1, 1) := by decide +kernel
theorem dX0_pressAbove_14 : decode cX0_pressAbove 14 = .ok (.laload, 1) := by decide +kernel
theorem dX0_pressAbove_15 : decode cX0_pressAbove 15 = .ok (.goto 4, 3) := by decide +kernel
theorem dX0_pressAbove_18 : decode cX0_pressAbove 18 = .ok (.lconst 0, 1) := by decide +kernel
theorem dX0_pressAbove_19 : decode cX0_pressAbove 19 = .ok (.lreturn, 1) := by decide +kernel
theorem dX0_lossAbove_0 : decode cX0_lossAbove 0 = .ok (.aload_n 0, 1) := by decide +kernel
theorem dX0_lossAbove_1 : decode cX0_lossAbove 1 = .ok (.getfield 44, 3) := by decide +kernel
theorem dX0_lossAbove_4 : decode cX0_lossAbove 4 = .ok (.aload_n 0, 1) := by decide +kernel
theorem dX0_lossAbove_5 : decode cX0_lossAbove 5 = .ok (.getfield 27, 3) := by decide +kernel
theorem dX0_lossAbove_8 : decode cX0_lossAbove 8 = .ok (.lmul, 1) := by decide +kernel
theorem dX0_lossAbove_9 : decode cX0_lossAbove 9 = .ok (.lstore_n 1, 1) := by decide +kernel
theorem dX0_lossAbove_10 : decode cX0_lossAbove 10 = .ok (.iconst 0, 1) := by decide +kernel
theorem dX0_lossAbove_11 : decode cX0_lossAbove 11 = .ok (.istore_n 3, 1) := by decide +kernel
theorem dX0_lossAbove_12 : decode cX0_lossAbove 12 = .ok (.iload_n 3, 1) := by decide +kernel
theorem dX0_lossAbove_13 : decode cX0_lossAbove 13 = .ok (.aload_n 0, 1) := by decide +kernel
theorem dX0_lossAbove_14 : decode cX0_lossAbove 14 = .ok (.getfield 40, 3) := by decide +kernel
theorem dX0_lossAbove_17 : decode cX0_lossAbove 17 = .ok (.if_icmp .ge 25, 3) := by decide +kernel
theorem dX0_lossAbove_20 : decode cX0_lossAbove 20 = .ok (.lload_n 1, 1) := by decide +kernel
theorem dX0_lossAbove_21 : decode cX0_lossAbove 21 = .ok (.aload_n 0, 1) := by decide +kernel
theorem dX0_lossAbove_22 : decode cX0_lossAbove 22 = .ok (.getfield 15, 3) := by decide +kernel
theorem dX0_lossAbove_25 : decode cX0_lossAbove 25 = .ok (.iload_n 3, 1) := by decide +kernel
theorem dX0_lossAbove_26 : decode cX0_lossAbove 26 = .ok (.laload, 1) := by decide +kernel
theorem dX0_lossAbove_27 : decode cX0_lossAbove 27 = .ok (.aload_n 0, 1) := by decide +kernel
theorem dX0_lossAbove_28 : decode cX0_lossAbove 28 = .ok (.getfield 21, 3) := by decide +kernel
theorem dX0_lossAbove_31 : decode cX0_lossAbove 31 = .ok (.iload_n 3, 1) := by decide +kernel
theorem dX0_lossAbove_32 : decode cX0_lossAbove 32 = .ok (.laload, 1) := by decide +kernel
theorem dX0_lossAbove_33 : decode cX0_lossAbove 33 = .ok (.lmul, 1) := by decide +kernel
theorem dX0_lossAbove_34 : decode cX0_lossAbove 34 = .ok (.lsub, 1) := by decide +kernel
theorem dX0_lossAbove_35 : decode cX0_lossAbove 35 = .ok (.lstore_n 1, 1) := by decide +kernel
theorem dX0_lossAbove_36 : decode cX0_lossAbove 36 = .ok (.iinc 3 1, 3) := by decide +kernel
theorem dX0_lossAbove_39 : decode cX0_lossAbove 39 = .ok (.goto (-27), 3) := by decide +kernel
theorem dX0_lossAbove_42 : decode cX0_lossAbove 42 = .ok (.lload_n 1, 1) := by decide +kernel
theorem dX0_lossAbove_43 : decode cX0_lossAbove 43 = .ok (.lreturn, 1) := by decide +kernel
theorem dX0_isOfUnitNumbers_0 : decode cX0_isOfUnitNumbers 0 = .ok (.aload_n 0, 1) := by decide +kernel
theorem dX0_isOfUnitNumbers_1 : decode cX0_isOfUnitNumbers 1 = .ok (.getfield 27, 3) := by decide +kernel
theorem dX0_isOfUnitNumbers_4 : decode cX0_isOfUnitNumbers 4 = .ok (.lconst 0, 1) := by decide +kernel
theorem dX0_isOfUnitNumbers_5 : decode cX0_isOfUnitNumbers 5 = .ok (.lcmp, 1) := by decide +kernel
theorem dX0_isOfUnitNumbers_6 : decode cX0_isOfUnitNumbers 6 = .ok (.ifCond .le 7, 3) := by decide +kernel
theorem dX0_isOfUnitNumbers_9 : decode cX0_isOfUnitNumbers 9 = .ok (.iconst 1, 1) := by decide +kernel
theorem dX0_isOfUnitNumbers_10 : decode cX0_isOfUnitNumbers 10 = .ok (.goto 4, 3) := by decide +kernel
theorem dX0_isOfUnitNumbers_13 : decode cX0_isOfUnitNumbers 13 = .ok (.iconst 0, 1) := by decide +kernel
theorem dX0_isOfUnitNumbers_14 : decode cX0_isOfUnitNumbers 14 = .ok (.istore_n 1, 1) := by decide +kernel
theorem dX0_isOfUnitNumbers_15 : decode cX0_isOfUnitNumbers 15 = .ok (.iconst 0, 1) := by decide +kernel
theorem dX0_isOfUnitNumbers_16 : decode cX0_isOfUnitNumbers 16 = .ok (.istore_n 2, 1) := by decide +kernel
theorem dX0_isOfUnitNumbers_17 : decode cX0_isOfUnitNumbers 17 = .ok (.iload_n 2, 1) := by decide +kernel
theorem dX0_isOfUnitNumbers_18 : decode cX0_isOfUnitNumbers 18 = .ok (.aload_n 0, 1) := by decide +kernel
theorem dX0_isOfUnitNumbers_19 : decode cX0_isOfUnitNumbers 19 = .ok (.getfield 40, 3) := by decide +kernel
theorem dX0_isOfUnitNumbers_22 : decode cX0_isOfUnitNumbers 22 = .ok (.if_icmp .ge 62, 3) := by decide +kernel
theorem dX0_isOfUnitNumbers_25 : decode cX0_isOfUnitNumbers 25 = .ok (.iload_n 1, 1) := by decide +kernel
theorem dX0_isOfUnitNumbers_26 : decode cX0_isOfUnitNumbers 26 = .ok (.ifCond .eq 58, 3) := by decide +kernel
theorem dX0_isOfUnitNumbers_29 : decode cX0_isOfUnitNumbers 29 = .ok (.aload_n 0, 1) := by decide +kernel
theorem dX0_isOfUnitNumbers_30 : decode cX0_isOfUnitNumbers 30 = .ok (.getfield 27, 3) := by decide +kernel
theorem dX0_isOfUnitNumbers_33 : decode cX0_isOfUnitNumbers 33 = .ok (.lconst 0, 1) := by decide +kernel
theorem dX0_isOfUnitNumbers_34 : decode cX0_isOfUnitNumbers 34 = .ok (.lcmp, 1) := by decide +kernel
theorem dX0_isOfUnitNumbers_35 : decode cX0_isOfUnitNumbers 35 = .ok (.ifCond .le 41, 3) := by decide +kernel
theorem dX0_isOfUnitNumbers_38 : decode cX0_isOfUnitNumbers 38 = .ok (.aload_n 0, 1) := by decide +kernel
theorem dX0_isOfUnitNumbers_39 : decode cX0_isOfUnitNumbers 39 = .ok (.getfield 21, 3) := by decide +kernel
theorem dX0_isOfUnitNumbers_42 : decode cX0_isOfUnitNumbers 42 = .ok (.iload_n 2, 1) := by decide +kernel
theorem dX0_isOfUnitNumbers_43 : decode cX0_isOfUnitNumbers 43 = .ok (.laload, 1) := by decide +kernel
theorem dX0_isOfUnitNumbers_44 : decode cX0_isOfUnitNumbers 44 = .ok (.aload_n 0, 1) := by decide +kernel
theorem dX0_isOfUnitNumbers_45 : decode cX0_isOfUnitNumbers 45 = .ok (.getfield 27, 3) := by decide +kernel
theorem dX0_isOfUnitNumbers_48 : decode cX0_isOfUnitNumbers 48 = .ok (.lrem, 1) := by decide +kernel
theorem dX0_isOfUnitNumbers_49 : decode cX0_isOfUnitNumbers 49 = .ok (.lconst 0, 1) := by decide +kernel
theorem dX0_isOfUnitNumbers_50 : decode cX0_isOfUnitNumbers 50 = .ok (.lcmp, 1) := by decide +kernel
theorem dX0_isOfUnitNumbers_51 : decode cX0_isOfUnitNumbers 51 = .ok (.ifCond .ne 25, 3) := by decide +kernel
theorem dX0_isOfUnitNumbers_54 : decode cX0_isOfUnitNumbers 54 = .ok (.aload_n 0, 1) := by decide +kernel
theorem dX0_isOfUnitNumbers_55 : decode cX0_isOfUnitNumbers 55 = .ok (.getfield 21, 3) := by decide +kernel
theorem dX0_isOfUnitNumbers_58 : decode cX0_isOfUnitNumbers 58 = .ok (.iload_n 2, 1) := by decide +kernel
theorem dX0_isOfUnitNumbers_59 : decode cX0_isOfUnitNumbers 59 = .ok (.laload, 1) := by decide +kernel
theorem dX0_isOfUnitNumbers_60 : decode cX0_isOfUnitNumbers 60 = .ok (.aload_n 0, 1) := by decide +kernel
theorem dX0_isOfUnitNumbers_61 : decode cX0_isOfUnitNumbers 61 = .ok (.getfield 27, 3) := by decide +kernel
theorem dX0_isOfUnitNumbers_64 : decode cX0_isOfUnitNumbers 64 = .ok (.ldiv, 1) := by decide +kernel
theorem dX0_isOfUnitNumbers_65 : decode cX0_isOfUnitNumbers 65 = .ok (.ldc2_w 66, 3) := by decide +kernel
theorem dX0_isOfUnitNumbers_68 : decode cX0_isOfUnitNumbers 68 = .ok (.lcmp, 1) := by decide +kernel
theorem dX0_isOfUnitNumbers_69 : decode cX0_isOfUnitNumbers 69 = .ok (.ifCond .gt 7, 3) := by decide +kernel
theorem dX0_isOfUnitNumbers_72 : decode cX0_isOfUnitNumbers 72 = .ok (.iconst 1, 1) := by decide +kernel
theorem dX0_isOfUnitNumbers_73 : decode cX0_isOfUnitNumbers 73 = .ok (.goto 4, 3) := by decide +kernel
theorem dX0_isOfUnitNumbers_76 : decode cX0_isOfUnitNumbers 76 = .ok (.iconst 0, 1) := by decide +kernel
theorem dX0_isOfUnitNumbers_77 : decode cX0_isOfUnitNumbers 77 = .ok (.istore_n 1, 1) := by decide +kernel
theorem dX0_isOfUnitNumbers_78 : decode cX0_isOfUnitNumbers 78 = .ok (.iinc 2 1, 3) := by decide +kernel
theorem dX0_isOfUnitNumbers_81 : decode cX0_isOfUnitNumbers 81 = .ok (.goto (-64), 3) := by decide +kernel
theorem dX0_isOfUnitNumbers_84 : decode cX0_isOfUnitNumbers 84 = .ok (.iload_n 1, 1) := by decide +kernel
theorem dX0_isOfUnitNumbers_85 : decode cX0_isOfUnitNumbers 85 = .ok (.ireturn, 1) := by decide +kernel
set_option maxRecDepth 20000 in
theorem ggX0_writeInto_X2_clear : GoodIn wsX0_writeInto wsX2_clear := goodIn_r _ [8, 9, 23, 24] (by decide +kernel) (by decide +kernel)
set_option maxRecDepth 20000 in
theorem gX0_writeInto_X2_clear : GoodIn wsX0_writeInto (wsV RX0 68 RX2 yX2_clear wsX2_clear) := goodIn_app (goodIn_of _ (by decide +kernel)) ggX0_writeInto_X2_clear
set_option maxRecDepth 20000 in
theorem ggX0_writeInto_X2_add : GoodIn wsX0_writeInto wsX2_add := goodIn_r _ [13, 9, 14, 23, 24] (by decide +kernel) (by decide +kernel)
set_option maxRecDepth 20000 in
theorem gX0_writeInto_X2_add : GoodIn wsX0_writeInto (wsV RX0 71 RX2 yX2_add wsX2_add) := goodIn_app (goodIn_of _ (by decide +kernel)) ggX0_writeInto_X2_add
theorem dX0_writeInto_0 : decode cX0_writeInto 0 = .ok (.aload_n 1, 1) := by decide +kernel
theorem dX0_writeInto_1 : decode cX0_writeInto 1 = .ok (.invokevirtual 68, 3) := by decide +kernel
theorem dX0_writeInto_4 : decode cX0_writeInto 4 = .ok (.iconst 0, 1) := by decide +kernel
theorem dX0_writeInto_5 : decode cX0_writeInto 5 = .ok (.istore_n 2, 1) := by decide +kernel
theorem dX0_writeInto_6 : decode cX0_writeInto 6 = .ok (.iload_n 2, 1) := by decide +kernel
theorem dX0_writeInto_7 : decode cX0_writeInto 7 = .ok (.aload_n 0, 1) := by decide +kernel
theorem dX0_writeInto_8 : decode cX0_writeInto 8 = .ok (.getfield 40, 3) := by decide +kernel
theorem dX0_writeInto_11 : decode cX0_writeInto 11 = .ok (.if_icmp .ge 34, 3) := by decide +kernel
theorem dX0_writeInto_14 : decode cX0_writeInto 14 = .ok (.aload_n 0, 1) := by decide +kernel
theorem dX0_writeInto_15 : decode cX0_writeInto 15 = .ok (.getfield 27, 3) := by decide +kernel
theorem dX0_writeInto_18 : decode cX0_writeInto 18 = .ok (.lconst 0, 1) := by decide +kernel
theorem dX0_writeInto_19 : decode cX0_writeInto 19 = .ok (.lcmp, 1) := by decide +kernel
theorem dX0_writeInto_20 : decode cX0_writeInto 20 = .ok (.ifCond .le 25, 3) := by decide +kernel
theorem dX0_writeInto_23 : decode cX0_writeInto 23 = .ok (.aload_n 1, 1) := by decide +kernel
theorem dX0_writeInto_24 : decode cX0_writeInto 24 = .ok (.aload_n 0, 1) := by decide +kernel
theorem dX0_writeInto_25 : decode cX0_writeInto 25 = .ok (.getfield 21, 3) := by decide +kernel
theorem dX0_writeInto_28 : decode cX0_writeInto 28 = .ok (.iload_n 2, 1) := by decide +kernel
theorem dX0_writeInto_29 : decode cX0_writeInto 29 = .ok (.laload, 1) := by decide +kernel
theorem dX0_writeInto_30 : decode cX0_writeInto 30 = .ok (.aload_n 0, 1) := by decide +kernel
theorem dX0_writeInto_31 : decode cX0_writeInto 31 = .ok (.getfield 27, 3) := by decide +kernel
theorem dX0_writeInto_34 : decode cX0_writeInto 34 = .ok (.ldiv, 1) := by decide +kernel
theorem dX0_writeInto_35 : decode cX0_writeInto 35 = .ok (.l2i, 1) := by decide +kernel
theorem dX0_writeInto_36 : decode cX0_writeInto 36 = .ok (.invokevirtual 71, 3) := by decide +kernel
theorem dX0_writeInto_39 : decode cX0_writeInto 39 = .ok (.iinc 2 1, 3) := by decide +kernel
theorem dX0_writeInto_42 : decode cX0_writeInto 42 = .ok (.goto (-36), 3) := by decide +kernel
theorem dX0_writeInto_45 : decode cX0_writeInto 45 = .ok (.return_, 1) := by decide +kernel
set_option maxRecDepth 20000 in
theorem ggX0_fitsWith_X0_determinant : GoodIn wsX0_fitsWith wsX0_determinant := goodIn_r _ [9, 10, 11, 12, 13, 8, 14, 15, 16, 17, 18, 19, 20, 21, 22, 23, 24, 25, 26, 27, 32, 33, 34, 35, 36, 37, 38, 39] (by decide +kernel) (by decide +kernel)
set_option maxRecDepth 20000 in
theorem gX0_fitsWith_X0_determinant : GoodIn wsX0_fitsWith (wsV RX0 75 RX0 yX0_determinant wsX0_determinant) := goodIn_app (goodIn_of _ (by decide +kernel)) ggX0_fitsWith_X0_determinant
set_option maxRecDepth 20000 in
theorem ggX0_fitsWith_X0_isFree : GoodIn wsX0_fitsWith wsX0_isFree := goodIn_r _ [23] (by decide +kernel) (by decide +kernel)
set_option maxRecDepth 20000 in
theorem gX0_fitsWith_X0_isFree : GoodIn wsX0_fitsWith (va_wsS RX0 79 yX0_isFree wsX0_isFree) := goodIn_app (goodIn_of _ (by decide +kernel)) ggX0_fitsWith_X0_isFree
set_option maxRecDepth 20000 in
theorem ggX0_fitsWith_X0_pressOn : GoodIn wsX0_fitsWith wsX0_pressOn := goodIn_r _ [31, 15, 1, 2, 16, 17, 18, 19, 20, 3, 32, 33, 34, 35, 36, 37, 38, 39] (by decide +kernel) (by decide +kernel)
set_option maxRecDepth 20000 in
theorem gX0_fitsWith_X0_pressOn : GoodIn wsX0_fitsWith (wsV RX0 83 RX0 yX0_pressOn wsX0_pressOn) := goodIn_app (goodIn_of _ (by decide +kernel)) ggX0_fitsWith_X0_pressOn
theorem dX0_fitsWith_0 : decode cX0_fitsWith 0 = .ok (.aload_n 0, 1) := by decide +kernel
theorem dX0_fitsWith_1 : decode cX0_fitsWith 1 = .ok (.aload_n 0, 1) := by decide +kernel
theorem dX0_fitsWith_2 : decode cX0_fitsWith 2 = .ok (.iload_n 1, 1) := by decide +kernel
theorem dX0_fitsWith_3 : decode cX0_fitsWith 3 = .ok (.iconst 4, 1) := by decide +kernel
theorem dX0_fitsWith_4 : decode cX0_fitsWith 4 = .ok (.invokevirtual 75, 3) := by decide +kernel
theorem dX0_fitsWith_7 : decode cX0_fitsWith 7 = .ok (.putfield 27, 3) := by decide +kernel
theorem dX0_fitsWith_10 : decode cX0_fitsWith 10 = .ok (.aload_n 0, 1) := by decide +kernel
theorem dX0_fitsWith_11 : decode cX0_fitsWith 11 = .ok (.getfield 27, 3) := by decide +kernel
theorem dX0_fitsWith_14 : decode cX0_fitsWith 14 = .ok (.lconst 0, 1) := by decide +kernel
theorem dX0_fitsWith_15 : decode cX0_fitsWith 15 = .ok (.lcmp, 1) := by decide +kernel
theorem dX0_fitsWith_16 : decode cX0_fitsWith 16 = .ok (.ifCond .le 7, 3) := by decide +kernel
theorem dX0_fitsWith_19 : decode cX0_fitsWith 19 = .ok (.iconst 1, 1) := by decide +kernel
theorem dX0_fitsWith_20 : decode cX0_fitsWith 20 = .ok (.goto 4, 3) := by decide +kernel
theorem dX0_fitsWith_23 : decode cX0_fitsWith 23 = .ok (.iconst 0, 1) := by decide +kernel
theorem dX0_fitsWith_24 : decode cX0_fitsWith 24 = .ok (.istore_n 2, 1) := by decide +kernel
theorem dX0_fitsWith_25 : decode cX0_fitsWith 25 = .ok (.iconst 0, 1) := by decide +kernel
theorem dX0_fitsWith_26 : decode cX0_fitsWith 26 = .ok (.istore_n 3, 1) := by decide +kernel
theorem dX0_fitsWith_27 : decode cX0_fitsWith 27 = .ok (.iload_n 3, 1) := by decide +kernel
theorem dX0_fitsWith_28 : decode cX0_fitsWith 28 = .ok (.aload_n 0, 1) := by decide +kernel
theorem dX0_fitsWith_29 : decode cX0_fitsWith 29 = .ok (.getfield 40, 3) := by decide +kernel
theorem dX0_fitsWith_32 : decode cX0_fitsWith 32 = .ok (.if_icmp .ge 54, 3) := by decide +kernel
theorem dX0_fitsWith_35 : decode cX0_fitsWith 35 = .ok (.iload_n 2, 1) := by decide +kernel
theorem dX0_fitsWith_36 : decode cX0_fitsWith 36 = .ok (.ifCond .eq 50, 3) := by decide +kernel
theorem dX0_fitsWith_39 : decode cX0_fitsWith 39 = .ok (.aload_n 0, 1) := by decide +kernel
theorem dX0_fitsWith_40 : decode cX0_fitsWith 40 = .ok (.getfield 21, 3) := by decide +kernel
theorem dX0_fitsWith_43 : decode cX0_fitsWith 43 = .ok (.iload_n 3, 1) := by decide +kernel
theorem dX0_fitsWith_44 : decode cX0_fitsWith 44 = .ok (.iload_n 1, 1) := by decide +kernel
theorem dX0_fitsWith_45 : decode cX0_fitsWith 45 = .ok (.iload_n 3, 1) := by decide +kernel
theorem dX0_fitsWith_46 : decode cX0_fitsWith 46 = .ok (.invokestatic 79, 3) := by decide +kernel
theorem dX0_fitsWith_49 : decode cX0_fitsWith 49 = .ok (.ifCond .eq 12, 3) := by decide +kernel
theorem dX0_fitsWith_52 : decode cX0_fitsWith 52 = .ok (.aload_n 0, 1) := by decide +kernel
theorem dX0_fitsWith_53 : decode cX0_fitsWith 53 = .ok (.iload_n 1, 1) := by decide +kernel
theorem dX0_fitsWith_54 : decode cX0_fitsWith 54 = .ok (.iload_n 3, 1) := by decide +kernel
theorem dX0_fitsWith_55 : decode cX0_fitsWith 55 = .ok (.invokevirtual 75, 3) := by decide +kernel
theorem dX0_fitsWith_58 : decode cX0_fitsWith 58 = .ok (.goto 4, 3) := by decide +kernel
theorem dX0_fitsWith_61 : decode cX0_fitsWith 61 = .ok (.lconst 0, 1) := by decide +kernel
theorem dX0_fitsWith_62 : decode cX0_fitsWith 62 = .ok (.lastore, 1) := by decide +kernel
theorem dX0_fitsWith_63 : decode cX0_fitsWith 63 = .ok (.aload_n 0, 1) := by decide +kernel
theorem dX0_fitsWith_64 : decode cX0_fitsWith 64 = .ok (.getfield 21, 3) := by decide +kernel
theorem dX0_fitsWith_67 : decode cX0_fitsWith 67 = .ok (.iload_n 3, 1) := by decide +kernel
theorem dX0_fitsWith_68 : decode cX0_fitsWith 68 = .ok (.laload, 1) := by decide +kernel
theorem dX0_fitsWith_69 : decode cX0_fitsWith 69 = .ok (.lconst 0, 1) := by decide +kernel
theorem dX0_fitsWith_70 : decode cX0_fitsWith 70 = .ok (.lcmp, 1) := by decide +kernel
theorem dX0_fitsWith_71 : decode cX0_fitsWith 71 = .ok (.ifCond .lt 7, 3) := by decide +kernel
theorem dX0_fitsWith_74 : decode cX0_fitsWith 74 = .ok (.iconst 1, 1) := by decide +kernel
theorem dX0_fitsWith_75 : decode cX0_fitsWith 75 = .ok (.goto 4, 3) := by decide +kernel
theorem dX0_fitsWith_78 : decode cX0_fitsWith 78 = .ok (.iconst 0, 1) := by decide +kernel
theorem dX0_fitsWith_79 : decode cX0_fitsWith 79 = .ok (.istore_n 2, 1) := by decide +kernel
theorem dX0_fitsWith_80 : decode cX0_fitsWith 80 = .ok (.iinc 3 1, 3) := by decide +kernel
theorem dX0_fitsWith_83 : decode cX0_fitsWith 83 = .ok (.goto (-56), 3) := by decide +kernel
theorem dX0_fitsWith_86 : decode cX0_fitsWith 86 = .ok (.iconst 0, 1) := by decide +kernel
theorem dX0_fitsWith_87 : decode cX0_fitsWith 87 = .ok (.istore_n 3, 1) := by decide +kernel
theorem dX0_fitsWith_88 : decode cX0_fitsWith 88 = .ok (.iload_n 3, 1) := by decide +kernel
theorem dX0_fitsWith_89 : decode cX0_fitsWith 89 = .ok (.aload_n 0, 1) := by decide +kernel
theorem dX0_fitsWith_90 : decode cX0_fitsWith 90 = .ok (.getfield 40, 3) := by decide +kernel
theorem dX0_fitsWith_93 : decode cX0_fitsWith 93 = .ok (.if_icmp .ge 41, 3) := by decide +kernel
theorem dX0_fitsWith_96 : decode cX0_fitsWith 96 = .ok (.iload_n 2, 1) := by decide +kernel
theorem dX0_fitsWith_97 : decode cX0_fitsWith 97 = .ok (.ifCond .eq 37, 3) := by decide +kernel
theorem dX0_fitsWith_100 : decode cX0_fitsWith 100 = .ok (.aload_n 0, 1) := by decide +kernel
theorem dX0_fitsWith_101 : decode cX0_fitsWith 101 = .ok (.getfield 24, 3) := by decide +kernel
theorem dX0_fitsWith_104 : decode cX0_fitsWith 104 = .ok (.iload_n 3, 1) := by decide +kernel
theorem dX0_fitsWith_105 : decode cX0_fitsWith 105 = .ok (.aload_n 0, 1) := by decide +kernel
theorem dX0_fitsWith_106 : decode cX0_fitsWith 106 = .ok (.iload_n 3, 1) := by decide +kernel
theorem dX0_fitsWith_107 : decode cX0_fitsWith 107 = .ok (.invokevirtual 83, 3) := by decide +kernel
theorem dX0_fitsWith_110 : decode cX0_fitsWith 110 = .ok (.lastore, 1) := by decide +kernel
theorem dX0_fitsWith_111 : decode cX0_fitsWith 111 = .ok (.aload_n 0, 1) := by decide +kernel
theorem dX0_fitsWith_112 : decode cX0_fitsWith 112 = .ok (.getfield 24, 3) := by decide +kernel
theorem dX0_fitsWith_115 : decode cX0_fitsWith 115 = .ok (.iload_n 3, 1) := by decide +kernel
theorem dX0_fitsWith_116 : decode cX0_fitsWith 116 = .ok (.laload, 1) := by decide +kernel
theorem dX0_fitsWith_117 : decode cX0_fitsWith 117 = .ok (.lconst 0, 1) := by decide +kernel
theorem dX0_fitsWith_118 : decode cX0_fitsWith 118 = .ok (.lcmp, 1) := by decide +kernel
theorem dX0_fitsWith_119 : decode cX0_fitsWith 119 = .ok (.ifCond .lt 7, 3) := by decide +kernel
theorem dX0_fitsWith_122 : decode cX0_fitsWith 122 = .ok (.iconst 1, 1) := by decide +kernel
theorem dX0_fitsWith_123 : decode cX0_fitsWith 123 = .ok (.goto 4, 3) := by decide +kernel
theorem dX0_fitsWith_126 : decode cX0_fitsWith 126 = .ok (.iconst 0, 1) := by decide +kernel
theorem dX0_fitsWith_127 : decode cX0_fitsWith 127 = .ok (.istore_n 2, 1) := by decide +kernel
theorem dX0_fitsWith_128 : decode cX0_fitsWith 128 = .ok (.iinc 3 1, 3) := by decide +kernel
theorem dX0_fitsWith_131 : decode cX0_fitsWith 131 = .ok (.goto (-43), 3) := by decide +kernel
theorem dX0_fitsWith_134 : decode cX0_fitsWith 134 = .ok (.iload_n 2, 1) := by decide +kernel
theorem dX0_fitsWith_135 : decode cX0_fitsWith 135 = .ok (.ireturn, 1) := by decide +kernel
theorem dX0_isFree_0 : decode cX0_isFree 0 = .ok (.iload_n 0, 1) := by decide +kernel
theorem dX0_isFree_1 : decode cX0_isFree 1 = .ok (.iload_n 1, 1) := by decide +kernel
theorem dX0_isFree_2 : decode cX0_isFree 2 = .ok (.ishr, 1) := by decide +kernel
theorem dX0_isFree_3 : decode cX0_isFree 3 = .ok (.iconst 1, 1) := by decide +kernel
theorem dX0_isFree_4 : decode cX0_isFree 4 = .ok (.iand, 1) := by decide +kernel
theorem dX0_isFree_5 : decode cX0_isFree 5 = .ok (.iconst 1, 1) := by decide +kernel
theorem dX0_isFree_6 : decode cX0_isFree 6 = .ok (.if_icmp .ne 7, 3) := by decide +kernel
theorem dX0_isFree_9 : decode cX0_isFree 9 = .ok (.iconst 1, 1) := by decide +kernel
theorem dX0_isFree_10 : decode cX0_isFree 10 = .ok (.goto 4, 3) := by decide +kernel
theorem dX0_isFree_13 : decode cX0_isFree 13 = .ok (.iconst 0, 1) := by decide +kernel
theorem dX0_isFree_14 : decode cX0_isFree 14 = .ok (.ireturn, 1) := by decide +kernel
theorem dX0_pressOn_0 : decode cX0_pressOn 0 = .ok (.aload_n 0, 1) := by decide +kernel
theorem dX0_pressOn_1 : decode cX0_pressOn 1 = .ok (.getfield 15, 3) := by decide +kernel
theorem dX0_pressOn_4 : decode cX0_pressOn 4 = .ok (.iload_n 1, 1) := by decide +kernel
theorem dX0_pressOn_5 : decode cX0_pressOn 5 = .ok (.laload, 1) := by decide +kernel
theorem dX0_pressOn_6 : decode cX0_pressOn 6 = .ok (.lneg, 1) := by decide +kernel
theorem dX0_pressOn_7 : decode cX0_pressOn 7 = .ok (.aload_n 0, 1) := by decide +kernel
theorem dX0_pressOn_8 : decode cX0_pressOn 8 = .ok (.getfield 27, 3) := by decide +kernel
theorem dX0_pressOn_11 : decode cX0_pressOn 11 = .ok (.lmul, 1) := by decide +kernel
theorem dX0_pressOn_12 : decode cX0_pressOn 12 = .ok (.lstore_n 2, 1) := by decide +kernel
theorem dX0_pressOn_13 : decode cX0_pressOn 13 = .ok (.iconst 0, 1) := by decide +kernel
theorem dX0_pressOn_14 : decode cX0_pressOn 14 = .ok (.istore 4, 2) := by decide +kernel
theorem dX0_pressOn_16 : decode cX0_pressOn 16 = .ok (.iload 4, 2) := by decide +kernel
theorem dX0_pressOn_18 : decode cX0_pressOn 18 = .ok (.aload_n 0, 1) := by decide +kernel
theorem dX0_pressOn_19 : decode cX0_pressOn 19 = .ok (.getfield 40, 3) := by decide +kernel
theorem dX0_pressOn_22 : decode cX0_pressOn 22 = .ok (.if_icmp .ge 32, 3) := by decide +kernel
theorem dX0_pressOn_25 : decode cX0_pressOn 25 = .ok (.lload_n 2, 1) := by decide +kernel
theorem dX0_pressOn_26 : decode cX0_pressOn 26 = .ok (.aload_n 0, 1) := by decide +kernel
theorem dX0_pressOn_27 : decode cX0_pressOn 27 = .ok (.getfield 9, 3) := by decide +kernel
theorem dX0_pressOn_30 : decode cX0_pressOn 30 = .ok (.iload 4, 2) := by decide +kernel
theorem dX0_pressOn_32 : decode cX0_pressOn 32 = .ok (.iload_n 1, 1) := by decide +kernel
theorem dX0_pressOn_33 : decode cX0_pressOn 33 = .ok (.isub, 1) := by decide +kernel
theorem dX0_pressOn_34 : decode cX0_pressOn 34 = .ok (.invokestatic 87, 3) := by decide +kernel
theorem dX0_pressOn_37 : decode cX0_pressOn 37 = .ok (.laload, 1) := by decide +kernel
theorem dX0_pressOn_38 : decode cX0_pressOn 38 = .ok (.aload_n 0, 1) := by decide +kernel
theorem dX0_pressOn_39 : decode cX0_pressOn 39 = .ok (.getfield 21, 3) := by decide +kernel
theorem dX0_pressOn_42 : decode cX0_pressOn 42 = .ok (.iload 4, 2) := by decide +kernel
theorem dX0_pressOn_44 : decode cX0_pressOn 44 = .ok (.laload, 1) := by decide +kernel
theorem dX0_pressOn_45 : decode cX0_pressOn 45 = .ok (.lmul, 1) := by decide +kernel
theorem dX0_pressOn_46 : decode cX0_pressOn 46 = .ok (.ladd, 1) := by decide +kernel
theorem dX0_pressOn_47 : decode cX0_pressOn 47 = .ok (.lstore_n 2, 1) := by decide +kernel
theorem dX0_pressOn_48 : decode cX0_pressOn 48 = .ok (.iinc 4 1, 3) := by decide +kernel
theorem dX0_pressOn_51 : decode cX0_pressOn 51 = .ok (.goto (-35), 3) := by decide +kernel
theorem dX0_pressOn_54 : decode cX0_pressOn 54 = .ok (.lload_n 2, 1) := by decide +kernel
theorem dX0_pressOn_55 : decode cX0_pressOn 55 = .ok (.lreturn, 1) := by decide +kernel
set_option maxRecDepth 20000 in
theorem ggX0_determinant_X0_entry : GoodIn wsX0_determinant wsX0_entry := goodIn_r _ [6, 7, 8, 9, 10, 11, 12, 13, 14, 5, 15, 20, 21, 22, 23, 24, 25, 26, 27] (by decide +kernel) (by decide +kernel)
set_option maxRecDepth 20000 in
theorem gX0_determinant_X0_entry : GoodIn wsX0_determinant (wsV RX0 90 RX0 yX0_entry wsX0_entry) := goodIn_app (goodIn_of _ (by decide +kernel)) ggX0_determinant_X0_entry
set_option maxRecDepth 20000 in
theorem ggX0_determinant_X0_minor : GoodIn wsX0_determinant wsX0_minor := goodIn_r _ [19, 1, 20, 21, 22, 23, 24, 25, 26, 27] (by decide +kernel) (by decide +kernel)
set_option maxRecDepth 20000 in
theorem gX0_determinant_X0_minor : GoodIn wsX0_determinant (wsV RX0 94 RX0 yX0_minor wsX0_minor) := goodIn_app (goodIn_of _ (by decide +kernel)) ggX0_determinant_X0_minor
theorem dX0_determinant_0 : decode cX0_determinant 0 = .ok (.iconst 0, 1) := by decide +kernel
theorem dX0_determinant_1 : decode cX0_determinant 1 = .ok (.istore_n 3, 1) := by decide +kernel
theorem dX0_determinant_2 : decode cX0_determinant 2 = .ok (.iload_n 3, 1) := by decide +kernel
theorem dX0_determinant_3 : decode cX0_determinant 3 = .ok (.iconst 4, 1) := by decide +kernel
theorem dX0_determinant_4 : decode cX0_determinant 4 = .ok (.if_icmp .ge 44, 3) := by decide +kernel
theorem dX0_determinant_7 : decode cX0_determinant 7 = .ok (.iconst 0, 1) := by decide +kernel
theorem dX0_determinant_8 : decode cX0_determinant 8 = .ok (.istore 4, 2) := by decide +kernel
theorem dX0_determinant_10 : decode cX0_determinant 10 = .ok (.iload 4, 2) := by decide +kernel
theorem dX0_determinant_12 : decode cX0_determinant 12 = .ok (.iconst 4, 1) := by decide +kernel
theorem dX0_determinant_13 : decode cX0_determinant 13 = .ok (.if_icmp .ge 29, 3) := by decide +kernel
theorem dX0_determinant_16 : decode cX0_determinant 16 = .ok (.aload_n 0, 1) := by decide +kernel
theorem dX0_determinant_17 : decode cX0_determinant 17 = .ok (.getfield 18, 3) := by decide +kernel
theorem dX0_determinant_20 : decode cX0_determinant 20 = .ok (.iload_n 3, 1) := by decide +kernel
theorem dX0_determinant_21 : decode cX0_determinant 21 = .ok (.iconst 4, 1) := by decide +kernel
theorem dX0_determinant_22 : decode cX0_determinant 22 = .ok (.imul, 1) := by decide +kernel
theorem dX0_determinant_23 : decode cX0_determinant 23 = .ok (.iload 4, 2) := by decide +kernel
theorem dX0_determinant_25 : decode cX0_determinant 25 = .ok (.iadd, 1) := by decide +kernel
theorem dX0_determinant_26 : decode cX0_determinant 26 = .ok (.aload_n 0, 1) := by decide +kernel
theorem dX0_determinant_27 : decode cX0_determinant 27 = .ok (.iload_n 1, 1) := by decide +kernel
theorem dX0_determinant_28 : decode cX0_determinant 28 = .ok (.iload_n 3, 1) := by decide +kernel
theorem dX0_determinant_29 : decode cX0_determinant 29 = .ok (.iload 4, 2) := by decide +kernel
theorem dX0_determinant_31 : decode cX0_determinant 31 = .ok (.iload_n 2, 1) := by decide +kernel
theorem dX0_determinant_32 : decode cX0_determinant 32 = .ok (.invokevirtual 90, 3) := by decide +kernel
theorem dX0_determinant_35 : decode cX0_determinant 35 = .ok (.lastore, 1) := by decide +kernel
theorem dX0_determinant_36 : decode cX0_determinant 36 = .ok (.iinc 4 1, 3) := by decide +kernel
theorem dX0_determinant_39 : decode cX0_determinant 39 = .ok (.goto (-29), 3) := by decide +kernel
theorem dX0_determinant_42 : decode cX0_determinant 42 = .ok (.iinc 3 1, 3) := by decide +kernel
theorem dX0_determinant_45 : decode cX0_determinant 45 = .ok (.goto (-43), 3) := by decide +kernel
theorem dX0_determinant_48 : decode cX0_determinant 48 = .ok (.lconst 0, 1) := by decide +kernel
theorem dX0_determinant_49 : decode cX0_determinant 49 = .ok (.lstore_n 3, 1) := by decide +kernel
theorem dX0_determinant_50 : decode cX0_determinant 50 = .ok (.lload_n 3, 1) := by decide +kernel
theorem dX0_determinant_51 : decode cX0_determinant 51 = .ok (.aload_n 0, 1) := by decide +kernel
theorem dX0_determinant_52 : decode cX0_determinant 52 = .ok (.iconst 0, 1) := by decide +kernel
theorem dX0_determinant_53 : decode cX0_determinant 53 = .ok (.iconst 0, 1) := by decide +kernel
theorem dX0_determinant_54 : decode cX0_determinant 54 = .ok (.iconst 1, 1) := by decide +kernel
theorem dX0_determinant_55 : decode cX0_determinant 55 = .ok (.invokevirtual 94, 3) := by decide +kernel
theorem dX0_determinant_58 : decode cX0_determinant 58 = .ok (.aload_n 0, 1) := by decide +kernel
theorem dX0_determinant_59 : decode cX0_determinant 59 = .ok (.bipush 8, 2) := by decide +kernel
theorem dX0_determinant_61 : decode cX0_determinant 61 = .ok (.iconst 2, 1) := by decide +kernel
theorem dX0_determinant_62 : decode cX0_determinant 62 = .ok (.iconst 3, 1) := by decide +kernel
theorem dX0_determinant_63 : decode cX0_determinant 63 = .ok (.invokevirtual 94, 3) := by decide +kernel
theorem dX0_determinant_66 : decode cX0_determinant 66 = .ok (.lmul, 1) := by decide +kernel
theorem dX0_determinant_67 : decode cX0_determinant 67 = .ok (.ladd, 1) := by decide +kernel
theorem dX0_determinant_68 : decode cX0_determinant 68 = .ok (.lstore_n 3, 1) := by decide +kernel
theorem dX0_determinant_69 : decode cX0_determinant 69 = .ok (.lload_n 3, 1) := by decide +kernel
theorem dX0_determinant_70 : decode cX0_determinant 70 = .ok (.aload_n 0, 1) := by decide +kernel
theorem dX0_determinant_71 : decode cX0_determinant 71 = .ok (.iconst 0, 1) := by decide +kernel
theorem dX0_determinant_72 : decode cX0_determinant 72 = .ok (.iconst 0, 1) := by decide +kernel
theorem dX0_determinant_73 : decode cX0_determinant 73 = .ok (.iconst 2, 1) := by decide +kernel
theorem dX0_determinant_74 : decode cX0_determinant 74 = .ok (.invokevirtual 94, 3) := by decide +kernel
theorem dX0_determinant_77 : decode cX0_determinant 77 = .ok (.aload_n 0, 1) := by decide +kernel
theorem dX0_determinant_78 : decode cX0_determinant 78 = .ok (.bipush 8, 2) := by decide +kernel
theorem dX0_determinant_80 : decode cX0_determinant 80 = .ok (.iconst 1, 1) := by decide +kernel
theorem dX0_determinant_81 : decode cX0_determinant 81 = .ok (.iconst 3, 1) := by decide +kernel
theorem dX0_determinant_82 : decode cX0_determinant 82 = .ok (.invokevirtual 94, 3) := by decide +kernel
theorem dX0_determinant_85 : decode cX0_determinant 85 = .ok (.lmul, 1) := by decide +kernel
theorem dX0_determinant_86 : decode cX0_determinant 86 = .ok (.lsub, 1) := by decide +kernel
theorem dX0_determinant_87 : decode cX0_determinant 87 = .ok (.lstore_n 3, 1) := by decide +kernel
theorem dX0_determinant_88 : decode cX0_determinant 88 = .ok (.lload_n 3, 1) := by decide +kernel
theorem dX0_determinant_89 : decode cX0_determinant 89 = .ok (.aload_n 0, 1) := by decide +kernel
theorem dX0_determinant_90 : decode cX0_determinant 90 = .ok (.iconst 0, 1) := by decide +kernel
theorem dX0_determinant_91 : decode cX0_determinant 91 = .ok (.iconst 0, 1) := by decide +kernel
theorem dX0_determinant_92 : decode cX0_determinant 92 = .ok (.iconst 3, 1) := by decide +kernel
theorem dX0_determinant_93 : decode cX0_determinant 93 = .ok (.invokevirtual 94, 3) := by decide +kernel
theorem dX0_determinant_96 : decode cX0_determinant 96 = .ok (.aload_n 0, 1) := by decide +kernel
theorem dX0_determinant_97 : decode cX0_determinant 97 = .ok (.bipush 8, 2) := by decide +kernel
theorem dX0_determinant_99 : decode cX0_determinant 99 = .ok (.iconst 1, 1) := by decide +kernel
theorem dX0_determinant_100 : decode cX0_determinant 100 = .ok (.iconst 2, 1) := by decide +kernel
theorem dX0_determinant_101 : decode cX0_determinant 101 = .ok (.invokevirtual 94, 3) := by decide +kernel
theorem dX0_determinant_104 : decode cX0_determinant 104 = .ok (.lmul, 1) := by decide +kernel
theorem dX0_determinant_105 : decode cX0_determinant 105 = .ok (.ladd, 1) := by decide +kernel
theorem dX0_determinant_106 : decode cX0_determinant 106 = .ok (.lstore_n 3, 1) := by decide +kernel
theorem dX0_determinant_107 : decode cX0_determinant 107 = .ok (.lload_n 3, 1) := by decide +kernel
theorem dX0_determinant_108 : decode cX0_determinant 108 = .ok (.aload_n 0, 1) := by decide +kernel
theorem dX0_determinant_109 : decode cX0_determinant 109 = .ok (.iconst 0, 1) := by decide +kernel
theorem dX0_determinant_110 : decode cX0_determinant 110 = .ok (.iconst 1, 1) := by decide +kernel
theorem dX0_determinant_111 : decode cX0_determinant 111 = .ok (.iconst 2, 1) := by decide +kernel
theorem dX0_determinant_112 : decode cX0_determinant 112 = .ok (.invokevirtual 94, 3) := by decide +kernel
theorem dX0_determinant_115 : decode cX0_determinant 115 = .ok (.aload_n 0, 1) := by decide +kernel
theorem dX0_determinant_116 : decode cX0_determinant 116 = .ok (.bipush 8, 2) := by decide +kernel
theorem dX0_determinant_118 : decode cX0_determinant 118 = .ok (.iconst 0, 1) := by decide +kernel
theorem dX0_determinant_119 : decode cX0_determinant 119 = .ok (.iconst 3, 1) := by decide +kernel
theorem dX0_determinant_120 : decode cX0_determinant 120 = .ok (.invokevirtual 94, 3) := by decide +kernel
theorem dX0_determinant_123 : decode cX0_determinant 123 = .ok (.lmul, 1) := by decide +kernel
theorem dX0_determinant_124 : decode cX0_determinant 124 = .ok (.ladd, 1) := by decide +kernel
theorem dX0_determinant_125 : decode cX0_determinant 125 = .ok (.lstore_n 3, 1) := by decide +kernel
theorem dX0_determinant_126 : decode cX0_determinant 126 = .ok (.lload_n 3, 1) := by decide +kernel
theorem dX0_determinant_127 : decode cX0_determinant 127 = .ok (.aload_n 0, 1) := by decide +kernel
theorem dX0_determinant_128 : decode cX0_determinant 128 = .ok (.iconst 0, 1) := by decide +kernel
theorem dX0_determinant_129 : decode cX0_determinant 129 = .ok (.iconst 1, 1) := by decide +kernel
theorem dX0_determinant_130 : decode cX0_determinant 130 = .ok (.iconst 3, 1) := by decide +kernel
theorem dX0_determinant_131 : decode cX0_determinant 131 = .ok (.invokevirtual 94, 3) := by decide +kernel
theorem dX0_determinant_134 : decode cX0_determinant 134 = .ok (.aload_n 0, 1) := by decide +kernel
theorem dX0_determinant_135 : decode cX0_determinant 135 = .ok (.bipush 8, 2) := by decide +kernel
theorem dX0_determinant_137 : decode cX0_determinant 137 = .ok (.iconst 0, 1) := by decide +kernel
theorem dX0_determinant_138 : decode cX0_determinant 138 = .ok (.iconst 2, 1) := by decide +kernel
theorem dX0_determinant_139 : decode cX0_determinant 139 = .ok (.invokevirtual 94, 3) := by decide +kernel
theorem dX0_determinant_142 : decode cX0_determinant 142 = .ok (.lmul, 1) := by decide +kernel
theorem dX0_determinant_143 : decode cX0_determinant 143 = .ok (.lsub, 1) := by decide +kernel
theorem dX0_determinant_144 : decode cX0_determinant 144 = .ok (.lstore_n 3, 1) := by decide +kernel
theorem dX0_determinant_145 : decode cX0_determinant 145 = .ok (.lload_n 3, 1) := by decide +kernel
theorem dX0_determinant_146 : decode cX0_determinant 146 = .ok (.aload_n 0, 1) := by decide +kernel
theorem dX0_determinant_147 : decode cX0_determinant 147 = .ok (.iconst 0, 1) := by decide +kernel
theorem dX0_determinant_148 : decode cX0_determinant 148 = .ok (.iconst 2, 1) := by decide +kernel
theorem dX0_determinant_149 : decode cX0_determinant 149 = .ok (.iconst 3, 1) := by decide +kernel
theorem dX0_determinant_150 : decode cX0_determinant 150 = .ok (.invokevirtual 94, 3) := by decide +kernel
theorem dX0_determinant_153 : decode cX0_determinant 153 = .ok (.aload_n 0, 1) := by decide +kernel
theorem dX0_determinant_154 : decode cX0_determinant 154 = .ok (.bipush 8, 2) := by decide +kernel
theorem dX0_determinant_156 : decode cX0_determinant 156 = .ok (.iconst 0, 1) := by decide +kernel
theorem dX0_determinant_157 : decode cX0_determinant 157 = .ok (.iconst 1, 1) := by decide +kernel
theorem dX0_determinant_158 : decode cX0_determinant 158 = .ok (.invokevirtual 94, 3) := by decide +kernel
theorem dX0_determinant_161 : decode cX0_determinant 161 = .ok (.lmul, 1) := by decide +kernel
theorem dX0_determinant_162 : decode cX0_determinant 162 = .ok (.ladd, 1) := by decide +kernel
theorem dX0_determinant_163 : decode cX0_determinant 163 = .ok (.lstore_n 3, 1) := by decide +kernel
theorem dX0_determinant_164 : decode cX0_determinant 164 = .ok (.lload_n 3, 1) := by decide +kernel
theorem dX0_determinant_165 : decode cX0_determinant 165 = .ok (.lreturn, 1) := by decide +kernel
set_option maxRecDepth 20000 in
theorem ggX0_entry_X0_isFree : GoodIn wsX0_entry wsX0_isFree := goodIn_r _ [10] (by decide +kernel) (by decide +kernel)
set_option maxRecDepth 20000 in
theorem gX0_entry_X0_isFree : GoodIn wsX0_entry (va_wsS RX0 79 yX0_isFree wsX0_isFree) := goodIn_app (goodIn_of _ (by decide +kernel)) ggX0_entry_X0_isFree
theorem dX0_entry_0 : decode cX0_entry 0 = .ok (.iload_n 1, 1) := by decide +kernel
theorem dX0_entry_1 : decode cX0_entry 1 = .ok (.iload_n 2, 1) := by decide +kernel
theorem dX0_entry_2 : decode cX0_entry 2 = .ok (.invokestatic 79, 3) := by decide +kernel
theorem dX0_entry_5 : decode cX0_entry 5 = .ok (.istore 5, 2) := by decide +kernel
theorem dX0_entry_7 : decode cX0_entry 7 = .ok (.iload_n 3, 1) := by decide +kernel
theorem dX0_entry_8 : decode cX0_entry 8 = .ok (.iload 4, 2) := by decide +kernel
theorem dX0_entry_10 : decode cX0_entry 10 = .ok (.if_icmp .ne 19, 3) := by decide +kernel
theorem dX0_entry_13 : decode cX0_entry 13 = .ok (.iload 5, 2) := by decide +kernel
theorem dX0_entry_15 : decode cX0_entry 15 = .ok (.ifCond .eq 12, 3) := by decide +kernel
theorem dX0_entry_18 : decode cX0_entry 18 = .ok (.aload_n 0, 1) := by decide +kernel
theorem dX0_entry_19 : decode cX0_entry 19 = .ok (.getfield 15, 3) := by decide +kernel
theorem dX0_entry_22 : decode cX0_entry 22 = .ok (.iload_n 2, 1) := by decide +kernel
theorem dX0_entry_23 : decode cX0_entry 23 = .ok (.laload, 1) := by decide +kernel
theorem dX0_entry_24 : decode cX0_entry 24 = .ok (.goto 4, 3) := by decide +kernel
theorem dX0_entry_27 : decode cX0_entry 27 = .ok (.lconst 0, 1) := by decide +kernel
theorem dX0_entry_28 : decode cX0_entry 28 = .ok (.lreturn, 1) := by decide +kernel
theorem dX0_entry_29 : decode cX0_entry 29 = .ok (.iload 5, 2) := by decide +kernel
theorem dX0_entry_31 : decode cX0_entry 31 = .ok (.ifCond .eq 23, 3) := by decide +kernel
theorem dX0_entry_34 : decode cX0_entry 34 = .ok (.iload_n 1, 1) := by decide +kernel
theorem dX0_entry_35 : decode cX0_entry 35 = .ok (.iload_n 3, 1) := by decide +kernel
theorem dX0_entry_36 : decode cX0_entry 36 = .ok (.invokestatic 79, 3) := by decide +kernel
theorem dX0_entry_39 : decode cX0_entry 39 = .ok (.ifCond .eq 15, 3) := by decide +kernel
theorem dX0_entry_42 : decode cX0_entry 42 = .ok (.aload_n 0, 1) := by decide +kernel
theorem dX0_entry_43 : decode cX0_entry 43 = .ok (.getfield 9, 3) := by decide +kernel
theorem dX0_entry_46 : decode cX0_entry 46 = .ok (.iload_n 2, 1) := by decide +kernel
theorem dX0_entry_47 : decode cX0_entry 47 = .ok (.iload_n 3, 1) := by decide +kernel
theorem dX0_entry_48 : decode cX0_entry 48 = .ok (.isub, 1) := by decide +kernel
theorem dX0_entry_49 : decode cX0_entry 49 = .ok (.invokestatic 87, 3) := by decide +kernel
theorem dX0_entry_52 : decode cX0_entry 52 = .ok (.laload, 1) := by decide +kernel
theorem dX0_entry_53 : decode cX0_entry 53 = .ok (.lreturn, 1) := by decide +kernel
theorem dX0_entry_54 : decode cX0_entry 54 = .ok (.iload_n 2, 1) := by decide +kernel
theorem dX0_entry_55 : decode cX0_entry 55 = .ok (.iload_n 3, 1) := by decide +kernel
theorem dX0_entry_56 : decode cX0_entry 56 = .ok (.if_icmp .ne 7, 3) := by decide +kernel
theorem dX0_entry_59 : decode cX0_entry 59 = .ok (.lconst 1, 1) := by decide +kernel
theorem dX0_entry_60 : decode cX0_entry 60 = .ok (.goto 4, 3) := by decide +kernel
theorem dX0_entry_63 : decode cX0_entry 63 = .ok (.lconst 0, 1) := by decide +kernel
theorem dX0_entry_64 : decode cX0_entry 64 = .ok (.lreturn, 1) := by decide +kernel
theorem dX0_minor_0 : decode cX0_minor 0 = .ok (.aload_n 0, 1) := by decide +kernel
theorem dX0_minor_1 : decode cX0_minor 1 = .ok (.getfield 18, 3) := by decide +kernel
theorem dX0_minor_4 : decode cX0_minor 4 = .ok (.iload_n 1, 1) := by decide +kernel
theorem dX0_minor_5 : decode cX0_minor 5 = .ok (.iload_n 2, 1) := by decide +kernel
theorem dX0_minor_6 : decode cX0_minor 6 = .ok (.iadd, 1) := by decide +kernel
theorem dX0_minor_7 : decode cX0_minor 7 = .ok (.laload, 1) := by decide +kernel
theorem dX0_minor_8 : decode cX0_minor 8 = .ok (.aload_n 0, 1) := by decide +kernel
theorem dX0_minor_9 : decode cX0_minor 9 = .ok (.getfield 18, 3) := by decide +kernel
theorem dX0_minor_12 : decode cX0_minor 12 = .ok (.iload_n 1, 1) := by decide +kernel
theorem dX0_minor_13 : decode cX0_minor 13 = .ok (.iconst 4, 1) := by decide +kernel
theorem dX0_minor_14 : decode cX0_minor 14 = .ok (.iadd, 1) := by decide +kernel
theorem dX0_minor_15 : decode cX0_minor 15 = .ok (.iload_n 3, 1) := by decide +kernel
theorem dX0_minor_16 : decode cX0_minor 16 = .ok (.iadd, 1) := by decide +kernel
theorem dX0_minor_17 : decode cX0_minor 17 = .ok (.laload, 1) := by decide +kernel
theorem dX0_minor_18 : decode cX0_minor 18 = .ok (.lmul, 1) := by decide +kernel
theorem dX0_minor_19 : decode cX0_minor 19 = .ok (.aload_n 0, 1) := by decide +kernel
theorem dX0_minor_20 : decode cX0_minor 20 = .ok (.getfield 18, 3) := by decide +kernel
theorem dX0_minor_23 : decode cX0_minor 23 = .ok (.iload_n 1, 1) := by decide +kernel
theorem dX0_minor_24 : decode cX0_minor 24 = .ok (.iload_n 3, 1) := by decide +kernel
theorem dX0_minor_25 : decode cX0_minor 25 = .ok (.iadd, 1) := by decide +kernel
theorem dX0_minor_26 : decode cX0_minor 26 = .ok (.laload, 1) := by decide +kernel
theorem dX0_minor_27 : decode cX0_minor 27 = .ok (.aload_n 0, 1) := by decide +kernel
theorem dX0_minor_28 : decode cX0_minor 28 = .ok (.getfield 18, 3) := by decide +kernel
theorem dX0_minor_31 : decode cX0_minor 31 = .ok (.iload_n 1, 1) := by decide +kernel
theorem dX0_minor_32 : decode cX0_minor 32 = .ok (.iconst 4, 1) := by decide +kernel
theorem dX0_minor_33 : decode cX0_minor 33 = .ok (.iadd, 1) := by decide +kernel
theorem dX0_minor_34 : decode cX0_minor 34 = .ok (.iload_n 2, 1) := by decide +kernel
theorem dX0_minor_35 : decode cX0_minor 35 = .ok (.iadd, 1) := by decide +kernel
theorem dX0_minor_36 : decode cX0_minor 36 = .ok (.laload, 1) := by decide +kernel
theorem dX0_minor_37 : decode cX0_minor 37 = .ok (.lmul, 1) := by decide +kernel
theorem dX0_minor_38 : decode cX0_minor 38 = .ok (.lsub, 1) := by decide +kernel
theorem dX0_minor_39 : decode cX0_minor 39 = .ok (.lreturn, 1) := by decide +kernel
set_option maxRecDepth 20000 in
theorem ggX1_init_X2_init : GoodIn wsX1_init wsX2_init := goodIn_r _ [10, 11, 2, 3, 12, 13, 14, 15] (by decide +kernel) (by decide +kernel)
set_option maxRecDepth 20000 in
theorem gX1_init_X2_init_n11 : GoodIn wsX1_init (wsX2_init) := ggX1_init_X2_init
theorem dX1_init_0 : decode cX1_init 0 = .ok (.aload_n 0, 1) := by decide +kernel
theorem dX1_init_1 : decode cX1_init 1 = .ok (.invokespecial 3, 3) := by decide +kernel
theorem dX1_init_4 : decode cX1_init 4 = .ok (.aload_n 0, 1) := by decide +kernel
theorem dX1_init_5 : decode cX1_init 5 = .ok (.new 9, 3) := by decide +kernel
theorem dX1_init_8 : decode cX1_init 8 = .ok (.dup, 1) := by decide +kernel
theorem dX1_init_9 : decode cX1_init 9 = .ok (.invokespecial 11, 3) := by decide +kernel
theorem dX1_init_12 : decode cX1_init 12 = .ok (.putfield 12, 3) := by decide +kernel
theorem dX1_init_15 : decode cX1_init 15 = .ok (.aload_n 0, 1) := by decide +kernel
theorem dX1_init_16 : decode cX1_init 16 = .ok (.new 9, 3) := by decide +kernel
theorem dX1_init_19 : decode cX1_init 19 = .ok (.dup, 1) := by decide +kernel
theorem dX1_init_20 : decode cX1_init 20 = .ok (.invokespecial 11, 3) := by decide +kernel
theorem dX1_init_23 : decode cX1_init 23 = .ok (.putfield 18, 3) := by decide +kernel
theorem dX1_init_26 : decode cX1_init 26 = .ok (.return_, 1) := by decide +kernel
set_option maxRecDepth 20000 in
theorem ggX1_read_X1_begin : GoodIn wsX1_read wsX1_begin := goodIn_r _ [5, 6, 7, 8, 9, 10, 11, 12, 13, 14, 15, 16, 17, 66, 67, 68, 69, 70, 71, 72, 73] (by decide +kernel) (by decide +kernel)
set_option maxRecDepth 20000 in
theorem gX1_read_X1_begin : GoodIn wsX1_read (wsV RX1 21 RX1 yX1_begin wsX1_begin) := goodIn_app (goodIn_of _ (by decide +kernel)) ggX1_read_X1_begin
set_option maxRecDepth 20000 in
theorem ggX1_read_X1_goesOnWith : GoodIn wsX1_read wsX1_goesOnWith := goodIn_r _ [21, 8, 7, 22, 23, 24, 4, 25, 10, 26, 27, 28, 29, 11, 6, 30, 31, 32, 33, 34, 35, 36, 15, 37, 17, 38, 39, 40, 41, 42, 43, 44, 45, 46, 47, 48, 49, 50, 51, 52, 53, 54, 55, 56, 57, 58, 59, 60, 61, 62, 9, 63, 64, 65, 66, 67, 68, 69, 70, 71, 72, 73] (by decide +kernel) (by decide +kernel)
set_option maxRecDepth 20000 in
theorem gX1_read_X1_goesOnWith : GoodIn wsX1_read (wsV RX1 24 RX1 yX1_goesOnWith wsX1_goesOnWith) := goodIn_app (goodIn_of _ (by decide +kernel)) ggX1_read_X1_goesOnWith
theorem dX1_read_0 : decode cX1_read 0 = .ok (.aload_n 0, 1) := by decide +kernel
theorem dX1_read_1 : decode cX1_read 1 = .ok (.invokevirtual 21, 3) := by decide +kernel
theorem dX1_read_4 : decode cX1_read 4 = .ok (.iconst 0, 1) := by decide +kernel
theorem dX1_read_5 : decode cX1_read 5 = .ok (.istore_n 3, 1) := by decide +kernel
theorem dX1_read_6 : decode cX1_read 6 = .ok (.iload_n 3, 1) := by decide +kernel
theorem dX1_read_7 : decode cX1_read 7 = .ok (.iload_n 2, 1) := by decide +kernel
theorem dX1_read_8 : decode cX1_read 8 = .ok (.if_icmp .ge 27, 3) := by decide +kernel
theorem dX1_read_11 : decode cX1_read 11 = .ok (.iload_n 3, 1) := by decide +kernel
theorem dX1_read_12 : decode cX1_read 12 = .ok (.aload_n 1, 1) := by decide +kernel
theorem dX1_read_13 : decode cX1_read 13 = .ok (.arraylength, 1) := by decide +kernel
theorem dX1_read_14 : decode cX1_read 14 = .ok (.if_icmp .ge 21, 3) := by decide +kernel
theorem dX1_read_17 : decode cX1_read 17 = .ok (.aload_n 0, 1) := by decide +kernel
theorem dX1_read_18 : decode cX1_read 18 = .ok (.aload_n 1, 1) := by decide +kernel
theorem dX1_read_19 : decode cX1_read 19 = .ok (.iload_n 3, 1) := by decide +kernel
theorem dX1_read_20 : decode cX1_read 20 = .ok (.iaload, 1) := by decide +kernel
theorem dX1_read_21 : decode cX1_read 21 = .ok (.invokevirtual 24, 3) := by decide +kernel
theorem dX1_read_24 : decode cX1_read 24 = .ok (.ifCond .ne 5, 3) := by decide +kernel
theorem dX1_read_27 : decode cX1_read 27 = .ok (.iload_n 3, 1) := by decide +kernel
theorem dX1_read_28 : decode cX1_read 28 = .ok (.ireturn, 1) := by decide +kernel
theorem dX1_read_29 : decode cX1_read 29 = .ok (.iinc 3 1, 3) := by decide +kernel
theorem dX1_read_32 : decode cX1_read 32 = .ok (.goto (-26), 3) := by decide +kernel
theorem dX1_read_35 : decode cX1_read 35 = .ok (.iload_n 2, 1) := by decide +kernel
theorem dX1_read_36 : decode cX1_read 36 = .ok (.ireturn, 1) := by decide +kernel
theorem dX1_isWhole_0 : decode cX1_isWhole 0 = .ok (.aload_n 0, 1) := by decide +kernel
theorem dX1_isWhole_1 : decode cX1_isWhole 1 = .ok (.getfield 28, 3) := by decide +kernel
theorem dX1_isWhole_4 : decode cX1_isWhole 4 = .ok (.iconst 4, 1) := by decide +kernel
theorem dX1_isWhole_5 : decode cX1_isWhole 5 = .ok (.if_icmp .ne 14, 3) := by decide +kernel
theorem dX1_isWhole_8 : decode cX1_isWhole 8 = .ok (.aload_n 0, 1) := by decide +kernel
theorem dX1_isWhole_9 : decode cX1_isWhole 9 = .ok (.getfield 32, 3) := by decide +kernel
theorem dX1_isWhole_12 : decode cX1_isWhole 12 = .ok (.ifCond .eq 7, 3) := by decide +kernel
theorem dX1_isWhole_15 : decode cX1_isWhole 15 = .ok (.iconst 1, 1) := by decide +kernel
theorem dX1_isWhole_16 : decode cX1_isWhole 16 = .ok (.goto 4, 3) := by decide +kernel
theorem dX1_isWhole_19 : decode cX1_isWhole 19 = .ok (.iconst 0, 1) := by decide +kernel
theorem dX1_isWhole_20 : decode cX1_isWhole 20 = .ok (.ireturn, 1) := by decide +kernel
theorem dX1_isOfUnit_0 : decode cX1_isOfUnit 0 = .ok (.aload_n 0, 1) := by decide +kernel
theorem dX1_isOfUnit_1 : decode cX1_isOfUnit 1 = .ok (.getfield 36, 3) := by decide +kernel
theorem dX1_isOfUnit_4 : decode cX1_isOfUnit 4 = .ok (.ireturn, 1) := by decide +kernel
theorem dX1_lengthOfUnit_0 : decode cX1_lengthOfUnit 0 = .ok (.aload_n 0, 1) := by decide +kernel
theorem dX1_lengthOfUnit_1 : decode cX1_lengthOfUnit 1 = .ok (.getfield 39, 3) := by decide +kernel
theorem dX1_lengthOfUnit_4 : decode cX1_lengthOfUnit 4 = .ok (.ireturn, 1) := by decide +kernel
set_option maxRecDepth 20000 in
theorem ggX1_begin_X2_clear : GoodIn wsX1_begin wsX2_clear := goodIn_r _ [11, 12, 19, 20] (by decide +kernel) (by decide +kernel)
set_option maxRecDepth 20000 in
theorem gX1_begin_X2_clear : GoodIn wsX1_begin (wsV RX1 42 RX2 yX2_clear wsX2_clear) := goodIn_app (goodIn_of _ (by decide +kernel)) ggX1_begin_X2_clear
theorem dX1_begin_0 : decode cX1_begin 0 = .ok (.aload_n 0, 1) := by decide +kernel
theorem dX1_begin_1 : decode cX1_begin 1 = .ok (.getfield 12, 3) := by decide +kernel
theorem dX1_begin_4 : decode cX1_begin 4 = .ok (.invokevirtual 42, 3) := by decide +kernel
theorem dX1_begin_7 : decode cX1_begin 7 = .ok (.aload_n 0, 1) := by decide +kernel
theorem dX1_begin_8 : decode cX1_begin 8 = .ok (.getfield 18, 3) := by decide +kernel
theorem dX1_begin_11 : decode cX1_begin 11 = .ok (.invokevirtual 42, 3) := by decide +kernel
theorem dX1_begin_14 : decode cX1_begin 14 = .ok (.aload_n 0, 1) := by decide +kernel
theorem dX1_begin_15 : decode cX1_begin 15 = .ok (.iconst 0, 1) := by decide +kernel
theorem dX1_begin_16 : decode cX1_begin 16 = .ok (.putfield 28, 3) := by decide +kernel
theorem dX1_begin_19 : decode cX1_begin 19 = .ok (.aload_n 0, 1) := by decide +kernel
theorem dX1_begin_20 : decode cX1_begin 20 = .ok (.iconst 1, 1) := by decide +kernel
theorem dX1_begin_21 : decode cX1_begin 21 = .ok (.putfield 39, 3) := by decide +kernel
theorem dX1_begin_24 : decode cX1_begin 24 = .ok (.aload_n 0, 1) := by decide +kernel
theorem dX1_begin_25 : decode cX1_begin 25 = .ok (.iconst 0, 1) := by decide +kernel
theorem dX1_begin_26 : decode cX1_begin 26 = .ok (.putfield 36, 3) := by decide +kernel
theorem dX1_begin_29 : decode cX1_begin 29 = .ok (.aload_n 0, 1) := by decide +kernel
theorem dX1_begin_30 : decode cX1_begin 30 = .ok (.iconst 0, 1) := by decide +kernel
theorem dX1_begin_31 : decode cX1_begin 31 = .ok (.putfield 32, 3) := by decide +kernel
theorem dX1_begin_34 : decode cX1_begin 34 = .ok (.return_, 1) := by decide +kernel
set_option maxRecDepth 20000 in
theorem ggX1_goesOnWith_X1_startsWith : GoodIn wsX1_goesOnWith wsX1_startsWith := goodIn_r _ [7, 8, 1, 54, 55, 56, 57, 58, 59] (by decide +kernel) (by decide +kernel)
set_option maxRecDepth 20000 in
theorem gX1_goesOnWith_X1_startsWith : GoodIn wsX1_goesOnWith (wsV RX1 45 RX1 yX1_startsWith wsX1_startsWith) := goodIn_app (goodIn_of _ (by decide +kernel)) ggX1_goesOnWith_X1_startsWith
set_option maxRecDepth 20000 in
theorem ggX1_goesOnWith_X1_rainGoesOnWith : GoodIn wsX1_goesOnWith wsX1_rainGoesOnWith := goodIn_r _ [12, 13, 14, 15, 16, 17, 6, 18, 1, 19, 20, 21, 22, 23, 24, 25, 26, 27, 28, 29, 30, 31, 32, 33, 34, 35, 36, 37, 38, 39, 40, 41, 42, 43, 44, 45, 54, 55, 56, 57, 58, 59, 60, 61] (by decide +kernel) (by decide +kernel)
set_option maxRecDepth 20000 in
theorem gX1_goesOnWith_X1_rainGoesOnWith : GoodIn wsX1_goesOnWith (wsV RX1 48 RX1 yX1_rainGoesOnWith wsX1_rainGoesOnWith) := goodIn_app (goodIn_of _ (by decide +kernel)) ggX1_goesOnWith_X1_rainGoesOnWith
set_option maxRecDepth 20000 in
theorem ggX1_goesOnWith_X1_takesLength : GoodIn wsX1_goesOnWith wsX1_takesLength := goodIn_r _ [49, 50, 1, 51, 52, 53, 54, 55, 56, 57, 58, 59] (by decide +kernel) (by decide +kernel)
set_option maxRecDepth 20000 in
theorem gX1_goesOnWith_X1_takesLength : GoodIn wsX1_goesOnWith (wsV RX1 51 RX1 yX1_takesLength wsX1_takesLength) := goodIn_app (goodIn_of _ (by decide +kernel)) ggX1_goesOnWith_X1_takesLength
set_option maxRecDepth 20000 in
theorem ggX1_goesOnWith_X1_takesColon : GoodIn wsX1_goesOnWith wsX1_takesColon := goodIn_r _ [18, 1, 13, 54, 55, 56, 57, 58, 59] (by decide +kernel) (by decide +kernel)
set_option maxRecDepth 20000 in
theorem gX1_goesOnWith_X1_takesColon : GoodIn wsX1_goesOnWith (wsV RX1 54 RX1 yX1_takesColon wsX1_takesColon) := goodIn_app (goodIn_of _ (by decide +kernel)) ggX1_goesOnWith_X1_takesColon
set_option maxRecDepth 20000 in
theorem ggX1_goesOnWith_X1_numbersGoOnWith : GoodIn wsX1_goesOnWith wsX1_numbersGoOnWith := goodIn_r _ [28, 13, 19, 20, 21, 22, 23, 24, 29, 30, 31, 6, 32, 33, 34, 35, 36, 37, 38, 39, 40, 41, 42, 43, 44, 45, 54, 55, 56, 57, 58, 59, 60, 61] (by decide +kernel) (by decide +kernel)
set_option maxRecDepth 20000 in
theorem gX1_goesOnWith_X1_numbersGoOnWith : GoodIn wsX1_goesOnWith (wsV RX1 57 RX1 yX1_numbersGoOnWith wsX1_numbersGoOnWith) := goodIn_app (goodIn_of _ (by decide +kernel)) ggX1_goesOnWith_X1_numbersGoOnWith
theorem dX1_goesOnWith_0 : decode cX1_goesOnWith 0 = .ok (.aload_n 0, 1) := by decide +kernel
theorem dX1_goesOnWith_1 : decode cX1_goesOnWith 1 = .ok (.getfield 28, 3) := by decide +kernel
theorem dX1_goesOnWith_4 : decode cX1_goesOnWith 4 = .ok (.tableswitch 59 0 3 #[32, 38, 44, 53], 32) := by decide +kernel
theorem dX1_goesOnWith_36 : decode cX1_goesOnWith 36 = .ok (.aload_n 0, 1) := by decide +kernel
theorem dX1_goesOnWith_37 : decode cX1_goesOnWith 37 = .ok (.iload_n 1, 1) := by decide +kernel
theorem dX1_goesOnWith_38 : decode cX1_goesOnWith 38 = .ok (.invokevirtual 45, 3) := by decide +kernel
theorem dX1_goesOnWith_41 : decode cX1_goesOnWith 41 = .ok (.ireturn, 1) := by decide +kernel
theorem dX1_goesOnWith_42 : decode cX1_goesOnWith 42 = .ok (.aload_n 0, 1) := by decide +kernel
theorem dX1_goesOnWith_43 : decode cX1_goesOnWith 43 = .ok (.iload_n 1, 1) := by decide +kernel
theorem dX1_goesOnWith_44 : decode cX1_goesOnWith 44 = .ok (.invokevirtual 48, 3) := by decide +kernel
theorem dX1_goesOnWith_47 : decode cX1_goesOnWith 47 = .ok (.ireturn, 1) := by decide +kernel
theorem dX1_goesOnWith_48 : decode cX1_goesOnWith 48 = .ok (.aload_n 0, 1) := by decide +kernel
theorem dX1_goesOnWith_49 : decode cX1_goesOnWith 49 = .ok (.iload_n 1, 1) := by decide +kernel
theorem dX1_goesOnWith_50 : decode cX1_goesOnWith 50 = .ok (.bipush 48, 2) := by decide +kernel
theorem dX1_goesOnWith_52 : decode cX1_goesOnWith 52 = .ok (.isub, 1) := by decide +kernel
theorem dX1_goesOnWith_53 : decode cX1_goesOnWith 53 = .ok (.invokevirtual 51, 3) := by decide +kernel
theorem dX1_goesOnWith_56 : decode cX1_goesOnWith 56 = .ok (.ireturn, 1) := by decide +kernel
theorem dX1_goesOnWith_57 : decode cX1_goesOnWith 57 = .ok (.aload_n 0, 1) := by decide +kernel
theorem dX1_goesOnWith_58 : decode cX1_goesOnWith 58 = .ok (.iload_n 1, 1) := by decide +kernel
theorem dX1_goesOnWith_59 : decode cX1_goesOnWith 59 = .ok (.invokevirtual 54, 3) := by decide +kernel
theorem dX1_goesOnWith_62 : decode cX1_goesOnWith 62 = .ok (.ireturn, 1) := by decide +kernel
theorem dX1_goesOnWith_63 : decode cX1_goesOnWith 63 = .ok (.aload_n 0, 1) := by decide +kernel
theorem dX1_goesOnWith_64 : decode cX1_goesOnWith 64 = .ok (.aload_n 0, 1) := by decide +kernel
theorem dX1_goesOnWith_65 : decode cX1_goesOnWith 65 = .ok (.getfield 18, 3) := by decide +kernel
theorem dX1_goesOnWith_68 : decode cX1_goesOnWith 68 = .ok (.iload_n 1, 1) := by decide +kernel
theorem dX1_goesOnWith_69 : decode cX1_goesOnWith 69 = .ok (.bipush 8, 2) := by decide +kernel
theorem dX1_goesOnWith_71 : decode cX1_goesOnWith 71 = .ok (.bipush 99, 2) := by decide +kernel
theorem dX1_goesOnWith_73 : decode cX1_goesOnWith 73 = .ok (.invokevirtual 57, 3) := by decide +kernel
theorem dX1_goesOnWith_76 : decode cX1_goesOnWith 76 = .ok (.ireturn, 1) := by decide +kernel
theorem dX1_startsWith_0 : decode cX1_startsWith 0 = .ok (.aload_n 0, 1) := by decide +kernel
theorem dX1_startsWith_1 : decode cX1_startsWith 1 = .ok (.iload_n 1, 1) := by decide +kernel
theorem dX1_startsWith_2 : decode cX1_startsWith 2 = .ok (.bipush 117, 2) := by decide +kernel
theorem dX1_startsWith_4 : decode cX1_startsWith 4 = .ok (.if_icmp .ne 7, 3) := by decide +kernel
theorem dX1_startsWith_7 : decode cX1_startsWith 7 = .ok (.iconst 1, 1) := by decide +kernel
theorem dX1_startsWith_8 : decode cX1_startsWith 8 = .ok (.goto 4, 3) := by decide +kernel
theorem dX1_startsWith_11 : decode cX1_startsWith 11 = .ok (.iconst 0, 1) := by decide +kernel
theorem dX1_startsWith_12 : decode cX1_startsWith 12 = .ok (.putfield 36, 3) := by decide +kernel
theorem dX1_startsWith_15 : decode cX1_startsWith 15 = .ok (.aload_n 0, 1) := by decide +kernel
theorem dX1_startsWith_16 : decode cX1_startsWith 16 = .ok (.aload_n 0, 1) := by decide +kernel
theorem dX1_startsWith_17 : decode cX1_startsWith 17 = .ok (.getfield 36, 3) := by decide +kernel
theorem dX1_startsWith_20 : decode cX1_startsWith 20 = .ok (.ifCond .eq 7, 3) := by decide +kernel
theorem dX1_startsWith_23 : decode cX1_startsWith 23 = .ok (.iconst 2, 1) := by decide +kernel
theorem dX1_startsWith_24 : decode cX1_startsWith 24 = .ok (.goto 4, 3) := by decide +kernel
theorem dX1_startsWith_27 : decode cX1_startsWith 27 = .ok (.iconst 1, 1) := by decide +kernel
theorem dX1_startsWith_28 : decode cX1_startsWith 28 = .ok (.putfield 28, 3) := by decide +kernel
theorem dX1_startsWith_31 : decode cX1_startsWith 31 = .ok (.aload_n 0, 1) := by decide +kernel
theorem dX1_startsWith_32 : decode cX1_startsWith 32 = .ok (.getfield 36, 3) := by decide +kernel
theorem dX1_startsWith_35 : decode cX1_startsWith 35 = .ok (.ifCond .ne 9, 3) := by decide +kernel
theorem dX1_startsWith_38 : decode cX1_startsWith 38 = .ok (.iload_n 1, 1) := by decide +kernel
theorem dX1_startsWith_39 : decode cX1_startsWith 39 = .ok (.bipush 114, 2) := by decide +kernel
theorem dX1_startsWith_41 : decode cX1_startsWith 41 = .ok (.if_icmp .ne 7, 3) := by decide +kernel
theorem dX1_startsWith_44 : decode cX1_startsWith 44 = .ok (.iconst 1, 1) := by decide +kernel
theorem dX1_startsWith_45 : decode cX1_startsWith 45 = .ok (.goto 4, 3) := by decide +kernel
theorem dX1_startsWith_48 : decode cX1_startsWith 48 = .ok (.iconst 0, 1) := by decide +kernel
theorem dX1_startsWith_49 : decode cX1_startsWith 49 = .ok (.ireturn, 1) := by decide +kernel
set_option maxRecDepth 20000 in
theorem ggX1_rainGoesOnWith_X1_takesColon : GoodIn wsX1_rainGoesOnWith wsX1_takesColon := goodIn_r _ [7, 8, 1, 36, 37, 38, 39, 40, 41] (by decide +kernel) (by decide +kernel)
set_option maxRecDepth 20000 in
theorem gX1_rainGoesOnWith_X1_takesColon : GoodIn wsX1_rainGoesOnWith (wsV RX1 54 RX1 yX1_takesColon wsX1_takesColon) := goodIn_app (goodIn_of _ (by decide +kernel)) ggX1_rainGoesOnWith_X1_takesColon
set_option maxRecDepth 20000 in
theorem ggX1_rainGoesOnWith_X2_size : GoodIn wsX1_rainGoesOnWith wsX2_size := goodIn_r _ [13, 14, 42, 43] (by decide +kernel) (by decide +kernel)
set_option maxRecDepth 20000 in
theorem gX1_rainGoesOnWith_X2_size : GoodIn wsX1_rainGoesOnWith (wsV RX1 61 RX2 yX2_size wsX2_size) := goodIn_app (goodIn_of _ (by decide +kernel)) ggX1_rainGoesOnWith_X2_size
set_option maxRecDepth 20000 in
theorem ggX1_rainGoesOnWith_X1_numbersGoOnWith : GoodIn wsX1_rainGoesOnWith wsX1_numbersGoOnWith := goodIn_r _ [18, 1, 9, 10, 11, 12, 13, 14, 19, 20, 21, 6, 22, 23, 24, 25, 26, 27, 28, 29, 30, 31, 32, 33, 34, 35, 36, 37, 38, 39, 40, 41, 42, 43] (by decide +kernel) (by decide +kernel)
set_option maxRecDepth 20000 in
theorem gX1_rainGoesOnWith_X1_numbersGoOnWith : GoodIn wsX1_rainGoesOnWith (wsV RX1 57 RX1 yX1_numbersGoOnWith wsX1_numbersGoOnWith) := goodIn_app (goodIn_of _ (by decide +kernel)) ggX1_rainGoesOnWith_X1_numbersGoOnWith
