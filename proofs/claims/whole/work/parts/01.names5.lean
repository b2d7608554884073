theorem dX6_takesInRow_41 : decode cX6_takesInRow 41 = .ok (.bipush 44, 2) := by decide +kernel
theorem dX6_takesInRow_43 : decode cX6_takesInRow 43 = .ok (.if_icmp .ne 27, 3) := by decide +kernel
theorem dX6_takesInRow_46 : decode cX6_takesInRow 46 = .ok (.iload_n 2, 1) := by decide +kernel
theorem dX6_takesInRow_47 : decode cX6_takesInRow 47 = .ok (.iconst 1, 1) := by decide +kernel
theorem dX6_takesInRow_48 : decode cX6_takesInRow 48 = .ok (.iadd, 1) := by decide +kernel
theorem dX6_takesInRow_49 : decode cX6_takesInRow 49 = .ok (.aload_n 0, 1) := by decide +kernel
theorem dX6_takesInRow_50 : decode cX6_takesInRow 50 = .ok (.getfield 69, 3) := by decide +kernel
theorem dX6_takesInRow_53 : decode cX6_takesInRow 53 = .ok (.iconst 1, 1) := by decide +kernel
theorem dX6_takesInRow_54 : decode cX6_takesInRow 54 = .ok (.if_icmp .ne 7, 3) := by decide +kernel
theorem dX6_takesInRow_57 : decode cX6_takesInRow 57 = .ok (.iconst 3, 1) := by decide +kernel
theorem dX6_takesInRow_58 : decode cX6_takesInRow 58 = .ok (.goto 5, 3) := by decide +kernel
theorem dX6_takesInRow_61 : decode cX6_takesInRow 61 = .ok (.bipush 8, 2) := by decide +kernel
theorem dX6_takesInRow_63 : decode cX6_takesInRow 63 = .ok (.if_icmp .ge 7, 3) := by decide +kernel
theorem dX6_takesInRow_66 : decode cX6_takesInRow 66 = .ok (.iconst 1, 1) := by decide +kernel
theorem dX6_takesInRow_67 : decode cX6_takesInRow 67 = .ok (.goto 4, 3) := by decide +kernel
theorem dX6_takesInRow_70 : decode cX6_takesInRow 70 = .ok (.iconst 0, 1) := by decide +kernel
theorem dX6_takesInRow_71 : decode cX6_takesInRow 71 = .ok (.istore_n 3, 1) := by decide +kernel
theorem dX6_takesInRow_72 : decode cX6_takesInRow 72 = .ok (.iload_n 1, 1) := by decide +kernel
theorem dX6_takesInRow_73 : decode cX6_takesInRow 73 = .ok (.bipush 58, 2) := by decide +kernel
theorem dX6_takesInRow_75 : decode cX6_takesInRow 75 = .ok (.if_icmp .ne 15, 3) := by decide +kernel
theorem dX6_takesInRow_78 : decode cX6_takesInRow 78 = .ok (.aload_n 0, 1) := by decide +kernel
theorem dX6_takesInRow_79 : decode cX6_takesInRow 79 = .ok (.getfield 69, 3) := by decide +kernel
theorem dX6_takesInRow_82 : decode cX6_takesInRow 82 = .ok (.iconst 1, 1) := by decide +kernel
theorem dX6_takesInRow_83 : decode cX6_takesInRow 83 = .ok (.if_icmp .ne 7, 3) := by decide +kernel
theorem dX6_takesInRow_86 : decode cX6_takesInRow 86 = .ok (.iconst 1, 1) := by decide +kernel
theorem dX6_takesInRow_87 : decode cX6_takesInRow 87 = .ok (.goto 4, 3) := by decide +kernel
theorem dX6_takesInRow_90 : decode cX6_takesInRow 90 = .ok (.iconst 0, 1) := by decide +kernel
theorem dX6_takesInRow_91 : decode cX6_takesInRow 91 = .ok (.istore 4, 2) := by decide +kernel
theorem dX6_takesInRow_93 : decode cX6_takesInRow 93 = .ok (.aload_n 0, 1) := by decide +kernel
theorem dX6_takesInRow_94 : decode cX6_takesInRow 94 = .ok (.getfield 72, 3) := by decide +kernel
theorem dX6_takesInRow_97 : decode cX6_takesInRow 97 = .ok (.ifCond .eq 12, 3) := by decide +kernel
theorem dX6_takesInRow_100 : decode cX6_takesInRow 100 = .ok (.iload_n 3, 1) := by decide +kernel
theorem dX6_takesInRow_101 : decode cX6_takesInRow 101 = .ok (.ifCond .ne 10, 3) := by decide +kernel
theorem dX6_takesInRow_104 : decode cX6_takesInRow 104 = .ok (.iload 4, 2) := by decide +kernel
theorem dX6_takesInRow_106 : decode cX6_takesInRow 106 = .ok (.ifCond .ne 5, 3) := by decide +kernel
theorem dX6_takesInRow_109 : decode cX6_takesInRow 109 = .ok (.iconst 0, 1) := by decide +kernel
theorem dX6_takesInRow_110 : decode cX6_takesInRow 110 = .ok (.ireturn, 1) := by decide +kernel
theorem dX6_takesInRow_111 : decode cX6_takesInRow 111 = .ok (.aload_n 0, 1) := by decide +kernel
theorem dX6_takesInRow_112 : decode cX6_takesInRow 112 = .ok (.invokevirtual 95, 3) := by decide +kernel
theorem dX6_takesInRow_115 : decode cX6_takesInRow 115 = .ok (.aload_n 0, 1) := by decide +kernel
theorem dX6_takesInRow_116 : decode cX6_takesInRow 116 = .ok (.iload 4, 2) := by decide +kernel
theorem dX6_takesInRow_118 : decode cX6_takesInRow 118 = .ok (.ifCond .eq 7, 3) := by decide +kernel
theorem dX6_takesInRow_121 : decode cX6_takesInRow 121 = .ok (.iconst 4, 1) := by decide +kernel
theorem dX6_takesInRow_122 : decode cX6_takesInRow 122 = .ok (.goto 7, 3) := by decide +kernel
theorem dX6_takesInRow_125 : decode cX6_takesInRow 125 = .ok (.aload_n 0, 1) := by decide +kernel
theorem dX6_takesInRow_126 : decode cX6_takesInRow 126 = .ok (.getfield 69, 3) := by decide +kernel
theorem dX6_takesInRow_129 : decode cX6_takesInRow 129 = .ok (.invokevirtual 88, 3) := by decide +kernel
theorem dX6_takesInRow_132 : decode cX6_takesInRow 132 = .ok (.ireturn, 1) := by decide +kernel
set_option maxRecDepth 20000 in
theorem ggX6_takes_X6_begins : GoodIn wsX6_takes wsX6_begins := goodIn_r _ [7, 8, 9, 10, 11, 12, 13, 6, 14, 1, 15, 16, 34, 35, 36, 37, 38, 39, 40, 41, 42, 43, 44, 45, 46, 47, 48, 49, 50, 51, 52, 53, 54, 55, 56, 57, 58, 59, 60, 61, 62, 63, 64, 65, 66] (by decide +kernel) (by decide +kernel)
set_option maxRecDepth 20000 in
theorem gX6_takes_X6_begins : GoodIn wsX6_takes (wsV RX6 98 RX6 yX6_begins wsX6_begins) := goodIn_app (goodIn_of _ (by decide +kernel)) ggX6_takes_X6_begins
set_option maxRecDepth 20000 in
theorem ggX6_takes_X6_within : GoodIn wsX6_takes wsX6_within := goodIn_r _ [19] (by decide +kernel) (by decide +kernel)
set_option maxRecDepth 20000 in
theorem gX6_takes_X6_within : GoodIn wsX6_takes (va_wsS RX6 59 yX6_within wsX6_within) := goodIn_app (goodIn_of _ (by decide +kernel)) ggX6_takes_X6_within
set_option maxRecDepth 20000 in
theorem ggX6_takes_X6_goesTo : GoodIn wsX6_takes wsX6_goesTo := goodIn_r _ [14, 1, 15, 16, 34, 35, 36, 37, 38, 39, 40, 41, 42, 43, 44, 45, 46, 47, 48, 49, 50, 51, 52, 53, 54, 55, 56, 57, 58, 59, 60, 61, 62, 63, 64, 65, 66] (by decide +kernel) (by decide +kernel)
set_option maxRecDepth 20000 in
theorem gX6_takes_X6_goesTo : GoodIn wsX6_takes (wsV RX6 88 RX6 yX6_goesTo wsX6_goesTo) := goodIn_app (goodIn_of _ (by decide +kernel)) ggX6_takes_X6_goesTo
set_option maxRecDepth 20000 in
theorem ggX6_takes_X6_takesInRow : GoodIn wsX6_takes wsX6_takesInRow := goodIn_r _ [23, 1, 9, 10, 15, 17, 18, 6, 19, 24, 25, 26, 27, 16, 28, 29, 30, 31, 32, 33, 11, 12, 13, 14, 34, 35, 36, 37, 38, 39, 40, 41, 42, 43, 44, 45, 46, 47, 48, 49, 50, 51, 52, 53, 54, 55, 56, 57, 58, 59, 60, 61, 62, 63, 64, 65, 66] (by decide +kernel) (by decide +kernel)
set_option maxRecDepth 20000 in
theorem gX6_takes_X6_takesInRow : GoodIn wsX6_takes (wsV RX6 104 RX6 yX6_takesInRow wsX6_takesInRow) := goodIn_app (goodIn_of _ (by decide +kernel)) ggX6_takes_X6_takesInRow
theorem dX6_takes_0 : decode cX6_takes 0 = .ok (.aload_n 0, 1) := by decide +kernel
theorem dX6_takes_1 : decode cX6_takes 1 = .ok (.getfield 69, 3) := by decide +kernel
theorem dX6_takes_4 : decode cX6_takes 4 = .ok (.ifCond .ne 9, 3) := by decide +kernel
theorem dX6_takes_7 : decode cX6_takes 7 = .ok (.aload_n 0, 1) := by decide +kernel
theorem dX6_takes_8 : decode cX6_takes 8 = .ok (.iload_n 1, 1) := by decide +kernel
theorem dX6_takes_9 : decode cX6_takes 9 = .ok (.invokevirtual 98, 3) := by decide +kernel
theorem dX6_takes_12 : decode cX6_takes 12 = .ok (.ireturn, 1) := by decide +kernel
theorem dX6_takes_13 : decode cX6_takes 13 = .ok (.aload_n 0, 1) := by decide +kernel
theorem dX6_takes_14 : decode cX6_takes 14 = .ok (.getfield 69, 3) := by decide +kernel
theorem dX6_takes_17 : decode cX6_takes 17 = .ok (.iconst 2, 1) := by decide +kernel
theorem dX6_takes_18 : decode cX6_takes 18 = .ok (.if_icmp .ne 37, 3) := by decide +kernel
theorem dX6_takes_21 : decode cX6_takes 21 = .ok (.aload_n 0, 1) := by decide +kernel
theorem dX6_takes_22 : decode cX6_takes 22 = .ok (.iload_n 1, 1) := by decide +kernel
theorem dX6_takes_23 : decode cX6_takes 23 = .ok (.bipush 48, 2) := by decide +kernel
theorem dX6_takes_25 : decode cX6_takes 25 = .ok (.isub, 1) := by decide +kernel
theorem dX6_takes_26 : decode cX6_takes 26 = .ok (.putfield 101, 3) := by decide +kernel
theorem dX6_takes_29 : decode cX6_takes 29 = .ok (.aload_n 0, 1) := by decide +kernel
theorem dX6_takes_30 : decode cX6_takes 30 = .ok (.getfield 101, 3) := by decide +kernel
theorem dX6_takes_33 : decode cX6_takes 33 = .ok (.iconst 1, 1) := by decide +kernel
theorem dX6_takes_34 : decode cX6_takes 34 = .ok (.iconst 4, 1) := by decide +kernel
theorem dX6_takes_35 : decode cX6_takes 35 = .ok (.invokestatic 59, 3) := by decide +kernel
theorem dX6_takes_38 : decode cX6_takes 38 = .ok (.ifCond .eq 15, 3) := by decide +kernel
theorem dX6_takes_41 : decode cX6_takes 41 = .ok (.aload_n 0, 1) := by decide +kernel
theorem dX6_takes_42 : decode cX6_takes 42 = .ok (.iconst 3, 1) := by decide +kernel
theorem dX6_takes_43 : decode cX6_takes 43 = .ok (.invokevirtual 88, 3) := by decide +kernel
theorem dX6_takes_46 : decode cX6_takes 46 = .ok (.ifCond .eq 7, 3) := by decide +kernel
theorem dX6_takes_49 : decode cX6_takes 49 = .ok (.iconst 1, 1) := by decide +kernel
theorem dX6_takes_50 : decode cX6_takes 50 = .ok (.goto 4, 3) := by decide +kernel
theorem dX6_takes_53 : decode cX6_takes 53 = .ok (.iconst 0, 1) := by decide +kernel
theorem dX6_takes_54 : decode cX6_takes 54 = .ok (.ireturn, 1) := by decide +kernel
theorem dX6_takes_55 : decode cX6_takes 55 = .ok (.aload_n 0, 1) := by decide +kernel
theorem dX6_takes_56 : decode cX6_takes 56 = .ok (.getfield 69, 3) := by decide +kernel
theorem dX6_takes_59 : decode cX6_takes 59 = .ok (.iconst 3, 1) := by decide +kernel
theorem dX6_takes_60 : decode cX6_takes 60 = .ok (.if_icmp .ne 23, 3) := by decide +kernel
theorem dX6_takes_63 : decode cX6_takes 63 = .ok (.iload_n 1, 1) := by decide +kernel
theorem dX6_takes_64 : decode cX6_takes 64 = .ok (.bipush 58, 2) := by decide +kernel
theorem dX6_takes_66 : decode cX6_takes 66 = .ok (.if_icmp .ne 15, 3) := by decide +kernel
theorem dX6_takes_69 : decode cX6_takes 69 = .ok (.aload_n 0, 1) := by decide +kernel
theorem dX6_takes_70 : decode cX6_takes 70 = .ok (.iconst 4, 1) := by decide +kernel
theorem dX6_takes_71 : decode cX6_takes 71 = .ok (.invokevirtual 88, 3) := by decide +kernel
theorem dX6_takes_74 : decode cX6_takes 74 = .ok (.ifCond .eq 7, 3) := by decide +kernel
theorem dX6_takes_77 : decode cX6_takes 77 = .ok (.iconst 1, 1) := by decide +kernel
theorem dX6_takes_78 : decode cX6_takes 78 = .ok (.goto 4, 3) := by decide +kernel
theorem dX6_takes_81 : decode cX6_takes 81 = .ok (.iconst 0, 1) := by decide +kernel
theorem dX6_takes_82 : decode cX6_takes 82 = .ok (.ireturn, 1) := by decide +kernel
theorem dX6_takes_83 : decode cX6_takes 83 = .ok (.aload_n 0, 1) := by decide +kernel
theorem dX6_takes_84 : decode cX6_takes 84 = .ok (.iload_n 1, 1) := by decide +kernel
theorem dX6_takes_85 : decode cX6_takes 85 = .ok (.invokevirtual 104, 3) := by decide +kernel
theorem dX6_takes_88 : decode cX6_takes 88 = .ok (.ireturn, 1) := by decide +kernel
set_option maxRecDepth 20000 in
theorem ggX6_goAlong_X6_goesTo : GoodIn wsX6_goAlong wsX6_goesTo := goodIn_r _ [7, 8, 9, 10, 40, 41, 42, 43, 44, 45, 46, 47, 48, 49, 50, 51, 52, 53, 54, 55, 56, 57, 58, 59, 60, 61, 62, 63, 64, 65, 66, 67, 68, 69, 70, 71, 72] (by decide +kernel) (by decide +kernel)
set_option maxRecDepth 20000 in
theorem gX6_goAlong_X6_goesTo : GoodIn wsX6_goAlong (wsV RX6 88 RX6 yX6_goesTo wsX6_goesTo) := goodIn_app (goodIn_of _ (by decide +kernel)) ggX6_goAlong_X6_goesTo
set_option maxRecDepth 20000 in
theorem ggX6_goAlong_X6_takes : GoodIn wsX6_goAlong wsX6_takes := goodIn_r _ [14, 8, 15, 16, 17, 18, 6, 19, 20, 21, 22, 3, 4, 5, 7, 9, 10, 23, 24, 25, 26, 27, 28, 29, 30, 31, 32, 33, 34, 35, 36, 37, 38, 39, 40, 41, 42, 43, 44, 45, 46, 47, 48, 49, 50, 51, 52, 53, 54, 55, 56, 57, 58, 59, 60, 61, 62, 63, 64, 65, 66, 67, 68, 69, 70, 71, 72] (by decide +kernel) (by decide +kernel)
set_option maxRecDepth 20000 in
theorem gX6_goAlong_X6_takes : GoodIn wsX6_goAlong (wsV RX6 107 RX6 yX6_takes wsX6_takes) := goodIn_app (goodIn_of _ (by decide +kernel)) ggX6_goAlong_X6_takes
theorem dX6_goAlong_0 : decode cX6_goAlong 0 = .ok (.aload_n 0, 1) := by decide +kernel
theorem dX6_goAlong_1 : decode cX6_goAlong 1 = .ok (.iconst 0, 1) := by decide +kernel
theorem dX6_goAlong_2 : decode cX6_goAlong 2 = .ok (.invokevirtual 88, 3) := by decide +kernel
theorem dX6_goAlong_5 : decode cX6_goAlong 5 = .ok (.pop, 1) := by decide +kernel
theorem dX6_goAlong_6 : decode cX6_goAlong 6 = .ok (.iconst 0, 1) := by decide +kernel
theorem dX6_goAlong_7 : decode cX6_goAlong 7 = .ok (.istore_n 1, 1) := by decide +kernel
theorem dX6_goAlong_8 : decode cX6_goAlong 8 = .ok (.iload_n 1, 1) := by decide +kernel
theorem dX6_goAlong_9 : decode cX6_goAlong 9 = .ok (.aload_n 0, 1) := by decide +kernel
theorem dX6_goAlong_10 : decode cX6_goAlong 10 = .ok (.getfield 64, 3) := by decide +kernel
theorem dX6_goAlong_13 : decode cX6_goAlong 13 = .ok (.if_icmp .ge 22, 3) := by decide +kernel
theorem dX6_goAlong_16 : decode cX6_goAlong 16 = .ok (.aload_n 0, 1) := by decide +kernel
theorem dX6_goAlong_17 : decode cX6_goAlong 17 = .ok (.aload_n 0, 1) := by decide +kernel
theorem dX6_goAlong_18 : decode cX6_goAlong 18 = .ok (.getfield 7, 3) := by decide +kernel
theorem dX6_goAlong_21 : decode cX6_goAlong 21 = .ok (.iload_n 1, 1) := by decide +kernel
theorem dX6_goAlong_22 : decode cX6_goAlong 22 = .ok (.iaload, 1) := by decide +kernel
theorem dX6_goAlong_23 : decode cX6_goAlong 23 = .ok (.invokevirtual 107, 3) := by decide +kernel
theorem dX6_goAlong_26 : decode cX6_goAlong 26 = .ok (.ifCond .eq 9, 3) := by decide +kernel
theorem dX6_goAlong_29 : decode cX6_goAlong 29 = .ok (.iinc 1 1, 3) := by decide +kernel
theorem dX6_goAlong_32 : decode cX6_goAlong 32 = .ok (.goto (-24), 3) := by decide +kernel
theorem dX6_goAlong_35 : decode cX6_goAlong 35 = .ok (.iload_n 1, 1) := by decide +kernel
theorem dX6_goAlong_36 : decode cX6_goAlong 36 = .ok (.ireturn, 1) := by decide +kernel
set_option maxRecDepth 20000 in
theorem ggX6_fault_X6_goAlong : GoodIn wsX6_fault wsX6_goAlong := goodIn_r _ [5, 6, 7, 8, 9, 10, 4, 11, 12, 13, 14, 15, 16, 17, 18, 19, 20, 21, 22, 23, 24, 25, 26, 27, 28, 29, 30, 31, 32, 33, 34, 35, 36, 37, 38, 39, 40, 41, 42, 43, 44, 45, 46, 47, 48, 49, 50, 51, 52, 53, 54, 55, 56, 57, 58, 59, 60, 61, 62, 63, 64, 65, 66, 67, 68, 69, 70, 71, 72, 73, 74, 75, 76] (by decide +kernel) (by decide +kernel)
set_option maxRecDepth 20000 in
theorem gX6_fault_X6_goAlong : GoodIn wsX6_fault (wsV RX6 110 RX6 yX6_goAlong wsX6_goAlong) := goodIn_app (goodIn_of _ (by decide +kernel)) ggX6_fault_X6_goAlong
theorem dX6_fault_0 : decode cX6_fault 0 = .ok (.aload_n 0, 1) := by decide +kernel
theorem dX6_fault_1 : decode cX6_fault 1 = .ok (.invokevirtual 110, 3) := by decide +kernel
theorem dX6_fault_4 : decode cX6_fault 4 = .ok (.ireturn, 1) := by decide +kernel
theorem dX6_takeStorm_0 : decode cX6_takeStorm 0 = .ok (.aload_n 0, 1) := by decide +kernel
theorem dX6_takeStorm_1 : decode cX6_takeStorm 1 = .ok (.getfield 13, 3) := by decide +kernel
theorem dX6_takeStorm_4 : decode cX6_takeStorm 4 = .ok (.aload_n 0, 1) := by decide +kernel
theorem dX6_takeStorm_5 : decode cX6_takeStorm 5 = .ok (.getfield 114, 3) := by decide +kernel
theorem dX6_takeStorm_8 : decode cX6_takeStorm 8 = .ok (.aload_n 0, 1) := by decide +kernel
theorem dX6_takeStorm_9 : decode cX6_takeStorm 9 = .ok (.getfield 82, 3) := by decide +kernel
theorem dX6_takeStorm_12 : decode cX6_takeStorm 12 = .ok (.iastore, 1) := by decide +kernel
theorem dX6_takeStorm_13 : decode cX6_takeStorm 13 = .ok (.aload_n 0, 1) := by decide +kernel
theorem dX6_takeStorm_14 : decode cX6_takeStorm 14 = .ok (.getfield 19, 3) := by decide +kernel
theorem dX6_takeStorm_17 : decode cX6_takeStorm 17 = .ok (.aload_n 0, 1) := by decide +kernel
theorem dX6_takeStorm_18 : decode cX6_takeStorm 18 = .ok (.getfield 114, 3) := by decide +kernel
theorem dX6_takeStorm_21 : decode cX6_takeStorm 21 = .ok (.aload_n 0, 1) := by decide +kernel
theorem dX6_takeStorm_22 : decode cX6_takeStorm 22 = .ok (.getfield 85, 3) := by decide +kernel
theorem dX6_takeStorm_25 : decode cX6_takeStorm 25 = .ok (.iastore, 1) := by decide +kernel
theorem dX6_takeStorm_26 : decode cX6_takeStorm 26 = .ok (.iconst 0, 1) := by decide +kernel
theorem dX6_takeStorm_27 : decode cX6_takeStorm 27 = .ok (.istore_n 1, 1) := by decide +kernel
theorem dX6_takeStorm_28 : decode cX6_takeStorm 28 = .ok (.iload_n 1, 1) := by decide +kernel
theorem dX6_takeStorm_29 : decode cX6_takeStorm 29 = .ok (.iconst 3, 1) := by decide +kernel
theorem dX6_takeStorm_30 : decode cX6_takeStorm 30 = .ok (.if_icmp .ge 40, 3) := by decide +kernel
theorem dX6_takeStorm_33 : decode cX6_takeStorm 33 = .ok (.aload_n 0, 1) := by decide +kernel
theorem dX6_takeStorm_34 : decode cX6_takeStorm 34 = .ok (.getfield 16, 3) := by decide +kernel
theorem dX6_takeStorm_37 : decode cX6_takeStorm 37 = .ok (.iconst 3, 1) := by decide +kernel
theorem dX6_takeStorm_38 : decode cX6_takeStorm 38 = .ok (.aload_n 0, 1) := by decide +kernel
theorem dX6_takeStorm_39 : decode cX6_takeStorm 39 = .ok (.getfield 114, 3) := by decide +kernel
theorem dX6_takeStorm_42 : decode cX6_takeStorm 42 = .ok (.imul, 1) := by decide +kernel
theorem dX6_takeStorm_43 : decode cX6_takeStorm 43 = .ok (.iload_n 1, 1) := by decide +kernel
theorem dX6_takeStorm_44 : decode cX6_takeStorm 44 = .ok (.iadd, 1) := by decide +kernel
theorem dX6_takeStorm_45 : decode cX6_takeStorm 45 = .ok (.iload_n 1, 1) := by decide +kernel
theorem dX6_takeStorm_46 : decode cX6_takeStorm 46 = .ok (.aload_n 0, 1) := by decide +kernel
theorem dX6_takeStorm_47 : decode cX6_takeStorm 47 = .ok (.getfield 82, 3) := by decide +kernel
theorem dX6_takeStorm_50 : decode cX6_takeStorm 50 = .ok (.if_icmp .ge 12, 3) := by decide +kernel
theorem dX6_takeStorm_53 : decode cX6_takeStorm 53 = .ok (.aload_n 0, 1) := by decide +kernel
theorem dX6_takeStorm_54 : decode cX6_takeStorm 54 = .ok (.getfield 34, 3) := by decide +kernel
theorem dX6_takeStorm_57 : decode cX6_takeStorm 57 = .ok (.iload_n 1, 1) := by decide +kernel
theorem dX6_takeStorm_58 : decode cX6_takeStorm 58 = .ok (.iaload, 1) := by decide +kernel
theorem dX6_takeStorm_59 : decode cX6_takeStorm 59 = .ok (.goto 4, 3) := by decide +kernel
theorem dX6_takeStorm_62 : decode cX6_takeStorm 62 = .ok (.iconst 0, 1) := by decide +kernel
theorem dX6_takeStorm_63 : decode cX6_takeStorm 63 = .ok (.iastore, 1) := by decide +kernel
theorem dX6_takeStorm_64 : decode cX6_takeStorm 64 = .ok (.iinc 1 1, 3) := by decide +kernel
theorem dX6_takeStorm_67 : decode cX6_takeStorm 67 = .ok (.goto (-39), 3) := by decide +kernel
theorem dX6_takeStorm_70 : decode cX6_takeStorm 70 = .ok (.iconst 0, 1) := by decide +kernel
theorem dX6_takeStorm_71 : decode cX6_takeStorm 71 = .ok (.istore_n 1, 1) := by decide +kernel
theorem dX6_takeStorm_72 : decode cX6_takeStorm 72 = .ok (.iload_n 1, 1) := by decide +kernel
theorem dX6_takeStorm_73 : decode cX6_takeStorm 73 = .ok (.bipush 8, 2) := by decide +kernel
theorem dX6_takeStorm_75 : decode cX6_takeStorm 75 = .ok (.if_icmp .ge 41, 3) := by decide +kernel
theorem dX6_takeStorm_78 : decode cX6_takeStorm 78 = .ok (.aload_n 0, 1) := by decide +kernel
theorem dX6_takeStorm_79 : decode cX6_takeStorm 79 = .ok (.getfield 22, 3) := by decide +kernel
theorem dX6_takeStorm_82 : decode cX6_takeStorm 82 = .ok (.bipush 8, 2) := by decide +kernel
theorem dX6_takeStorm_84 : decode cX6_takeStorm 84 = .ok (.aload_n 0, 1) := by decide +kernel
theorem dX6_takeStorm_85 : decode cX6_takeStorm 85 = .ok (.getfield 114, 3) := by decide +kernel
theorem dX6_takeStorm_88 : decode cX6_takeStorm 88 = .ok (.imul, 1) := by decide +kernel
theorem dX6_takeStorm_89 : decode cX6_takeStorm 89 = .ok (.iload_n 1, 1) := by decide +kernel
theorem dX6_takeStorm_90 : decode cX6_takeStorm 90 = .ok (.iadd, 1) := by decide +kernel
theorem dX6_takeStorm_91 : decode cX6_takeStorm 91 = .ok (.iload_n 1, 1) := by decide +kernel
theorem dX6_takeStorm_92 : decode cX6_takeStorm 92 = .ok (.aload_n 0, 1) := by decide +kernel
theorem dX6_takeStorm_93 : decode cX6_takeStorm 93 = .ok (.getfield 85, 3) := by decide +kernel
theorem dX6_takeStorm_96 : decode cX6_takeStorm 96 = .ok (.if_icmp .ge 12, 3) := by decide +kernel
theorem dX6_takeStorm_99 : decode cX6_takeStorm 99 = .ok (.aload_n 0, 1) := by decide +kernel
theorem dX6_takeStorm_100 : decode cX6_takeStorm 100 = .ok (.getfield 37, 3) := by decide +kernel
theorem dX6_takeStorm_103 : decode cX6_takeStorm 103 = .ok (.iload_n 1, 1) := by decide +kernel
theorem dX6_takeStorm_104 : decode cX6_takeStorm 104 = .ok (.iaload, 1) := by decide +kernel
theorem dX6_takeStorm_105 : decode cX6_takeStorm 105 = .ok (.goto 4, 3) := by decide +kernel
theorem dX6_takeStorm_108 : decode cX6_takeStorm 108 = .ok (.iconst 0, 1) := by decide +kernel
theorem dX6_takeStorm_109 : decode cX6_takeStorm 109 = .ok (.iastore, 1) := by decide +kernel
theorem dX6_takeStorm_110 : decode cX6_takeStorm 110 = .ok (.iinc 1 1, 3) := by decide +kernel
theorem dX6_takeStorm_113 : decode cX6_takeStorm 113 = .ok (.goto (-41), 3) := by decide +kernel
theorem dX6_takeStorm_116 : decode cX6_takeStorm 116 = .ok (.aload_n 0, 1) := by decide +kernel
theorem dX6_takeStorm_117 : decode cX6_takeStorm 117 = .ok (.dup, 1) := by decide +kernel
theorem dX6_takeStorm_118 : decode cX6_takeStorm 118 = .ok (.getfield 114, 3) := by decide +kernel
theorem dX6_takeStorm_121 : decode cX6_takeStorm 121 = .ok (.iconst 1, 1) := by decide +kernel
theorem dX6_takeStorm_122 : decode cX6_takeStorm 122 = .ok (.iadd, 1) := by decide +kernel
theorem dX6_takeStorm_123 : decode cX6_takeStorm 123 = .ok (.putfield 114, 3) := by decide +kernel
theorem dX6_takeStorm_126 : decode cX6_takeStorm 126 = .ok (.aload_n 0, 1) := by decide +kernel
theorem dX6_takeStorm_127 : decode cX6_takeStorm 127 = .ok (.getfield 114, 3) := by decide +kernel
theorem dX6_takeStorm_130 : decode cX6_takeStorm 130 = .ok (.iconst 1, 1) := by decide +kernel
theorem dX6_takeStorm_131 : decode cX6_takeStorm 131 = .ok (.isub, 1) := by decide +kernel
theorem dX6_takeStorm_132 : decode cX6_takeStorm 132 = .ok (.ireturn, 1) := by decide +kernel
theorem dX6_takeUnit_0 : decode cX6_takeUnit 0 = .ok (.aload_n 0, 1) := by decide +kernel
theorem dX6_takeUnit_1 : decode cX6_takeUnit 1 = .ok (.getfield 25, 3) := by decide +kernel
theorem dX6_takeUnit_4 : decode cX6_takeUnit 4 = .ok (.aload_n 0, 1) := by decide +kernel
theorem dX6_takeUnit_5 : decode cX6_takeUnit 5 = .ok (.getfield 117, 3) := by decide +kernel
theorem dX6_takeUnit_8 : decode cX6_takeUnit 8 = .ok (.aload_n 0, 1) := by decide +kernel
theorem dX6_takeUnit_9 : decode cX6_takeUnit 9 = .ok (.getfield 101, 3) := by decide +kernel
theorem dX6_takeUnit_12 : decode cX6_takeUnit 12 = .ok (.iastore, 1) := by decide +kernel
theorem dX6_takeUnit_13 : decode cX6_takeUnit 13 = .ok (.aload_n 0, 1) := by decide +kernel
theorem dX6_takeUnit_14 : decode cX6_takeUnit 14 = .ok (.getfield 28, 3) := by decide +kernel
theorem dX6_takeUnit_17 : decode cX6_takeUnit 17 = .ok (.aload_n 0, 1) := by decide +kernel
theorem dX6_takeUnit_18 : decode cX6_takeUnit 18 = .ok (.getfield 117, 3) := by decide +kernel
theorem dX6_takeUnit_21 : decode cX6_takeUnit 21 = .ok (.aload_n 0, 1) := by decide +kernel
theorem dX6_takeUnit_22 : decode cX6_takeUnit 22 = .ok (.getfield 85, 3) := by decide +kernel
theorem dX6_takeUnit_25 : decode cX6_takeUnit 25 = .ok (.iastore, 1) := by decide +kernel
theorem dX6_takeUnit_26 : decode cX6_takeUnit 26 = .ok (.iconst 0, 1) := by decide +kernel
theorem dX6_takeUnit_27 : decode cX6_takeUnit 27 = .ok (.istore_n 1, 1) := by decide +kernel
theorem dX6_takeUnit_28 : decode cX6_takeUnit 28 = .ok (.iload_n 1, 1) := by decide +kernel
theorem dX6_takeUnit_29 : decode cX6_takeUnit 29 = .ok (.bipush 8, 2) := by decide +kernel
theorem dX6_takeUnit_31 : decode cX6_takeUnit 31 = .ok (.if_icmp .ge 41, 3) := by decide +kernel
theorem dX6_takeUnit_34 : decode cX6_takeUnit 34 = .ok (.aload_n 0, 1) := by decide +kernel
theorem dX6_takeUnit_35 : decode cX6_takeUnit 35 = .ok (.getfield 31, 3) := by decide +kernel
theorem dX6_takeUnit_38 : decode cX6_takeUnit 38 = .ok (.bipush 8, 2) := by decide +kernel
theorem dX6_takeUnit_40 : decode cX6_takeUnit 40 = .ok (.aload_n 0, 1) := by decide +kernel
theorem dX6_takeUnit_41 : decode cX6_takeUnit 41 = .ok (.getfield 117, 3) := by decide +kernel
theorem dX6_takeUnit_44 : decode cX6_takeUnit 44 = .ok (.imul, 1) := by decide +kernel
theorem dX6_takeUnit_45 : decode cX6_takeUnit 45 = .ok (.iload_n 1, 1) := by decide +kernel
theorem dX6_takeUnit_46 : decode cX6_takeUnit 46 = .ok (.iadd, 1) := by decide +kernel
theorem dX6_takeUnit_47 : decode cX6_takeUnit 47 = .ok (.iload_n 1, 1) := by decide +kernel
theorem dX6_takeUnit_48 : decode cX6_takeUnit 48 = .ok (.aload_n 0, 1) := by decide +kernel
theorem dX6_takeUnit_49 : decode cX6_takeUnit 49 = .ok (.getfield 85, 3) := by decide +kernel
theorem dX6_takeUnit_52 : decode cX6_takeUnit 52 = .ok (.if_icmp .ge 12, 3) := by decide +kernel
theorem dX6_takeUnit_55 : decode cX6_takeUnit 55 = .ok (.aload_n 0, 1) := by decide +kernel
theorem dX6_takeUnit_56 : decode cX6_takeUnit 56 = .ok (.getfield 37, 3) := by decide +kernel
theorem dX6_takeUnit_59 : decode cX6_takeUnit 59 = .ok (.iload_n 1, 1) := by decide +kernel
theorem dX6_takeUnit_60 : decode cX6_takeUnit 60 = .ok (.iaload, 1) := by decide +kernel
theorem dX6_takeUnit_61 : decode cX6_takeUnit 61 = .ok (.goto 4, 3) := by decide +kernel
theorem dX6_takeUnit_64 : decode cX6_takeUnit 64 = .ok (.iconst 0, 1) := by decide +kernel
theorem dX6_takeUnit_65 : decode cX6_takeUnit 65 = .ok (.iastore, 1) := by decide +kernel
theorem dX6_takeUnit_66 : decode cX6_takeUnit 66 = .ok (.iinc 1 1, 3) := by decide +kernel
theorem dX6_takeUnit_69 : decode cX6_takeUnit 69 = .ok (.goto (-41), 3) := by decide +kernel
theorem dX6_takeUnit_72 : decode cX6_takeUnit 72 = .ok (.aload_n 0, 1) := by decide +kernel
theorem dX6_takeUnit_73 : decode cX6_takeUnit 73 = .ok (.dup, 1) := by decide +kernel
theorem dX6_takeUnit_74 : decode cX6_takeUnit 74 = .ok (.getfield 117, 3) := by decide +kernel
theorem dX6_takeUnit_77 : decode cX6_takeUnit 77 = .ok (.iconst 1, 1) := by decide +kernel
theorem dX6_takeUnit_78 : decode cX6_takeUnit 78 = .ok (.iadd, 1) := by decide +kernel
theorem dX6_takeUnit_79 : decode cX6_takeUnit 79 = .ok (.putfield 117, 3) := by decide +kernel
theorem dX6_takeUnit_82 : decode cX6_takeUnit 82 = .ok (.aload_n 0, 1) := by decide +kernel
theorem dX6_takeUnit_83 : decode cX6_takeUnit 83 = .ok (.getfield 117, 3) := by decide +kernel
theorem dX6_takeUnit_86 : decode cX6_takeUnit 86 = .ok (.iconst 1, 1) := by decide +kernel
theorem dX6_takeUnit_87 : decode cX6_takeUnit 87 = .ok (.isub, 1) := by decide +kernel
theorem dX6_takeUnit_88 : decode cX6_takeUnit 88 = .ok (.ireturn, 1) := by decide +kernel
set_option maxRecDepth 20000 in
theorem ggX6_take_X6_goAlong : GoodIn wsX6_take wsX6_goAlong := goodIn_r _ [14, 1, 15, 16, 17, 18, 13, 19, 2, 3, 20, 21, 22, 23, 24, 25, 26, 27, 28, 29, 5, 30, 31, 32, 33, 34, 35, 36, 37, 38, 39, 40, 41, 42, 43, 44, 45, 46, 47, 48, 64, 65, 66, 67, 68, 69, 70, 71, 72, 73, 74, 75, 76, 77, 78, 79, 80, 81, 82, 83, 84, 85, 86, 87, 88, 89, 90, 91, 92, 93, 94, 95, 96] (by decide +kernel) (by decide +kernel)
set_option maxRecDepth 20000 in
theorem gX6_take_X6_goAlong : GoodIn wsX6_take (wsV RX6 110 RX6 yX6_goAlong wsX6_goAlong) := goodIn_app (goodIn_of _ (by decide +kernel)) ggX6_take_X6_goAlong
set_option maxRecDepth 20000 in
theorem ggX6_take_X6_keepNumber : GoodIn wsX6_take wsX6_keepNumber := goodIn_r _ [46, 2, 47, 30, 20, 48, 31, 64, 65, 66, 67, 68, 69, 70, 71, 72, 73, 74, 75, 76, 77, 78, 79, 80, 81, 82, 83, 84, 85, 86, 87, 88, 89, 90, 91, 92, 93, 94, 95, 96] (by decide +kernel) (by decide +kernel)
set_option maxRecDepth 20000 in
theorem gX6_take_X6_keepNumber : GoodIn wsX6_take (wsV RX6 95 RX6 yX6_keepNumber wsX6_keepNumber) := goodIn_app (goodIn_of _ (by decide +kernel)) ggX6_take_X6_keepNumber
set_option maxRecDepth 20000 in
theorem ggX6_take_X6_takeUnit : GoodIn wsX6_take wsX6_takeUnit := goodIn_r _ [52, 53, 6, 25, 54, 31, 55, 48, 64, 65, 66, 67, 68, 69, 70, 71, 72, 73, 74, 75, 76, 77, 78, 79, 80, 81, 82, 83, 84, 85, 86, 87, 88, 89, 90, 91, 92, 93, 94, 95, 96] (by decide +kernel) (by decide +kernel)
set_option maxRecDepth 20000 in
theorem gX6_take_X6_takeUnit : GoodIn wsX6_take (wsV RX6 124 RX6 yX6_takeUnit wsX6_takeUnit) := goodIn_app (goodIn_of _ (by decide +kernel)) ggX6_take_X6_takeUnit
set_option maxRecDepth 20000 in
theorem ggX6_take_X6_takeStorm : GoodIn wsX6_take wsX6_takeStorm := goodIn_r _ [59, 60, 7, 30, 61, 31, 62, 47, 63, 48, 64, 65, 66, 67, 68, 69, 70, 71, 72, 73, 74, 75, 76, 77, 78, 79, 80, 81, 82, 83, 84, 85, 86, 87, 88, 89, 90, 91, 92, 93, 94, 95, 96] (by decide +kernel) (by decide +kernel)
set_option maxRecDepth 20000 in
theorem gX6_take_X6_takeStorm : GoodIn wsX6_take (wsV RX6 127 RX6 yX6_takeStorm wsX6_takeStorm) := goodIn_app (goodIn_of _ (by decide +kernel)) ggX6_take_X6_takeStorm
theorem dX6_take_0 : decode cX6_take 0 = .ok (.aload_n 0, 1) := by decide +kernel
theorem dX6_take_1 : decode cX6_take 1 = .ok (.invokevirtual 110, 3) := by decide +kernel
theorem dX6_take_4 : decode cX6_take 4 = .ok (.aload_n 0, 1) := by decide +kernel
theorem dX6_take_5 : decode cX6_take 5 = .ok (.getfield 64, 3) := by decide +kernel
theorem dX6_take_8 : decode cX6_take 8 = .ok (.if_icmp .lt 18, 3) := by decide +kernel
theorem dX6_take_11 : decode cX6_take 11 = .ok (.aload_n 0, 1) := by decide +kernel
theorem dX6_take_12 : decode cX6_take 12 = .ok (.getfield 69, 3) := by decide +kernel
theorem dX6_take_15 : decode cX6_take 15 = .ok (.iconst 4, 1) := by decide +kernel
theorem dX6_take_16 : decode cX6_take 16 = .ok (.if_icmp .ne 10, 3) := by decide +kernel
theorem dX6_take_19 : decode cX6_take 19 = .ok (.aload_n 0, 1) := by decide +kernel
theorem dX6_take_20 : decode cX6_take 20 = .ok (.getfield 72, 3) := by decide +kernel
theorem dX6_take_23 : decode cX6_take 23 = .ok (.ifCond .ne 6, 3) := by decide +kernel
theorem dX6_take_26 : decode cX6_take 26 = .ok (.ldc 120, 2) := by decide +kernel
theorem dX6_take_28 : decode cX6_take 28 = .ok (.ireturn, 1) := by decide +kernel
theorem dX6_take_29 : decode cX6_take 29 = .ok (.aload_n 0, 1) := by decide +kernel
theorem dX6_take_30 : decode cX6_take 30 = .ok (.getfield 78, 3) := by decide +kernel
theorem dX6_take_33 : decode cX6_take 33 = .ok (.ifCond .eq 14, 3) := by decide +kernel
theorem dX6_take_36 : decode cX6_take 36 = .ok (.aload_n 0, 1) := by decide +kernel
theorem dX6_take_37 : decode cX6_take 37 = .ok (.getfield 117, 3) := by decide +kernel
theorem dX6_take_40 : decode cX6_take 40 = .ok (.iconst 4, 1) := by decide +kernel
theorem dX6_take_41 : decode cX6_take 41 = .ok (.if_icmp .ne 17, 3) := by decide +kernel
theorem dX6_take_44 : decode cX6_take 44 = .ok (.goto 11, 3) := by decide +kernel
theorem dX6_take_47 : decode cX6_take 47 = .ok (.aload_n 0, 1) := by decide +kernel
theorem dX6_take_48 : decode cX6_take 48 = .ok (.getfield 114, 3) := by decide +kernel
theorem dX6_take_51 : decode cX6_take 51 = .ok (.iconst 3, 1) := by decide +kernel
theorem dX6_take_52 : decode cX6_take 52 = .ok (.if_icmp .ne 6, 3) := by decide +kernel
theorem dX6_take_55 : decode cX6_take 55 = .ok (.ldc 68, 2) := by decide +kernel
theorem dX6_take_57 : decode cX6_take 57 = .ok (.ireturn, 1) := by decide +kernel
theorem dX6_take_58 : decode cX6_take 58 = .ok (.aload_n 0, 1) := by decide +kernel
theorem dX6_take_59 : decode cX6_take 59 = .ok (.invokevirtual 95, 3) := by decide +kernel
theorem dX6_take_62 : decode cX6_take 62 = .ok (.aload_n 0, 1) := by decide +kernel
theorem dX6_take_63 : decode cX6_take 63 = .ok (.iconst 0, 1) := by decide +kernel
theorem dX6_take_64 : decode cX6_take 64 = .ok (.putfield 64, 3) := by decide +kernel
theorem dX6_take_67 : decode cX6_take 67 = .ok (.aload_n 0, 1) := by decide +kernel
theorem dX6_take_68 : decode cX6_take 68 = .ok (.dup, 1) := by decide +kernel
theorem dX6_take_69 : decode cX6_take 69 = .ok (.getfield 121, 3) := by decide +kernel
theorem dX6_take_72 : decode cX6_take 72 = .ok (.iconst 1, 1) := by decide +kernel
theorem dX6_take_73 : decode cX6_take 73 = .ok (.iadd, 1) := by decide +kernel
theorem dX6_take_74 : decode cX6_take 74 = .ok (.putfield 121, 3) := by decide +kernel
theorem dX6_take_77 : decode cX6_take 77 = .ok (.aload_n 0, 1) := by decide +kernel
theorem dX6_take_78 : decode cX6_take 78 = .ok (.getfield 78, 3) := by decide +kernel
theorem dX6_take_81 : decode cX6_take 81 = .ok (.ifCond .eq 10, 3) := by decide +kernel
theorem dX6_take_84 : decode cX6_take 84 = .ok (.aload_n 0, 1) := by decide +kernel
theorem dX6_take_85 : decode cX6_take 85 = .ok (.invokevirtual 124, 3) := by decide +kernel
theorem dX6_take_88 : decode cX6_take 88 = .ok (.goto 7, 3) := by decide +kernel
theorem dX6_take_91 : decode cX6_take 91 = .ok (.aload_n 0, 1) := by decide +kernel
theorem dX6_take_92 : decode cX6_take 92 = .ok (.invokevirtual 127, 3) := by decide +kernel
theorem dX6_take_95 : decode cX6_take 95 = .ok (.ireturn, 1) := by decide +kernel
theorem dX6_dropStorm_0 : decode cX6_dropStorm 0 = .ok (.aload_n 0, 1) := by decide +kernel
theorem dX6_dropStorm_1 : decode cX6_dropStorm 1 = .ok (.dup, 1) := by decide +kernel
theorem dX6_dropStorm_2 : decode cX6_dropStorm 2 = .ok (.getfield 114, 3) := by decide +kernel
theorem dX6_dropStorm_5 : decode cX6_dropStorm 5 = .ok (.iconst 1, 1) := by decide +kernel
theorem dX6_dropStorm_6 : decode cX6_dropStorm 6 = .ok (.isub, 1) := by decide +kernel
theorem dX6_dropStorm_7 : decode cX6_dropStorm 7 = .ok (.putfield 114, 3) := by decide +kernel
theorem dX6_dropStorm_10 : decode cX6_dropStorm 10 = .ok (.iload_n 1, 1) := by decide +kernel
theorem dX6_dropStorm_11 : decode cX6_dropStorm 11 = .ok (.istore_n 2, 1) := by decide +kernel
theorem dX6_dropStorm_12 : decode cX6_dropStorm 12 = .ok (.iload_n 2, 1) := by decide +kernel
theorem dX6_dropStorm_13 : decode cX6_dropStorm 13 = .ok (.aload_n 0, 1) := by decide +kernel
theorem dX6_dropStorm_14 : decode cX6_dropStorm 14 = .ok (.getfield 114, 3) := by decide +kernel
theorem dX6_dropStorm_17 : decode cX6_dropStorm 17 = .ok (.if_icmp .ge 111, 3) := by decide +kernel
theorem dX6_dropStorm_20 : decode cX6_dropStorm 20 = .ok (.aload_n 0, 1) := by decide +kernel
theorem dX6_dropStorm_21 : decode cX6_dropStorm 21 = .ok (.getfield 13, 3) := by decide +kernel
theorem dX6_dropStorm_24 : decode cX6_dropStorm 24 = .ok (.iload_n 2, 1) := by decide +kernel
theorem dX6_dropStorm_25 : decode cX6_dropStorm 25 = .ok (.aload_n 0, 1) := by decide +kernel
theorem dX6_dropStorm_26 : decode cX6_dropStorm 26 = .ok (.getfield 13, 3) := by decide +kernel
theorem dX6_dropStorm_29 : decode cX6_dropStorm 29 = .ok (.iload_n 2, 1) := by decide +kernel
theorem dX6_dropStorm_30 : decode cX6_dropStorm 30 = .ok (.iconst 1, 1) := by decide +kernel
theorem dX6_dropStorm_31 : decode cX6_dropStorm 31 = .ok (.iadd, 1) := by decide +kernel
theorem dX6_dropStorm_32 : decode cX6_dropStorm 32 = .ok (.iaload, 1) := by decide +kernel
theorem dX6_dropStorm_33 : decode cX6_dropStorm 33 = .ok (.iastore, 1) := by decide +kernel
theorem dX6_dropStorm_34 : decode cX6_dropStorm 34 = .ok (.aload_n 0, 1) := by decide +kernel
theorem dX6_dropStorm_35 : decode cX6_dropStorm 35 = .ok (.getfield 19, 3) := by decide +kernel
theorem dX6_dropStorm_38 : decode cX6_dropStorm 38 = .ok (.iload_n 2, 1) := by decide +kernel
theorem dX6_dropStorm_39 : decode cX6_dropStorm 39 = .ok (.aload_n 0, 1) := by decide +kernel
theorem dX6_dropStorm_40 : decode cX6_dropStorm 40 = .ok (.getfield 19, 3) := by decide +kernel
theorem dX6_dropStorm_43 : decode cX6_dropStorm 43 = .ok (.iload_n 2, 1) := by decide +kernel
theorem dX6_dropStorm_44 : decode cX6_dropStorm 44 = .ok (.iconst 1, 1) := by decide +kernel
theorem dX6_dropStorm_45 : decode cX6_dropStorm 45 = .ok (.iadd, 1) := by decide +kernel
theorem dX6_dropStorm_46 : decode cX6_dropStorm 46 = .ok (.iaload, 1) := by decide +kernel
theorem dX6_dropStorm_47 : decode cX6_dropStorm 47 = .ok (.iastore, 1) := by decide +kernel
theorem dX6_dropStorm_48 : decode cX6_dropStorm 48 = .ok (.iconst 0, 1) := by decide +kernel
theorem dX6_dropStorm_49 : decode cX6_dropStorm 49 = .ok (.istore_n 3, 1) := by decide +kernel
theorem dX6_dropStorm_50 : decode cX6_dropStorm 50 = .ok (.iload_n 3, 1) := by decide +kernel
theorem dX6_dropStorm_51 : decode cX6_dropStorm 51 = .ok (.iconst 3, 1) := by decide +kernel
theorem dX6_dropStorm_52 : decode cX6_dropStorm 52 = .ok (.if_icmp .ge 31, 3) := by decide +kernel
theorem dX6_dropStorm_55 : decode cX6_dropStorm 55 = .ok (.aload_n 0, 1) := by decide +kernel
theorem dX6_dropStorm_56 : decode cX6_dropStorm 56 = .ok (.getfield 16, 3) := by decide +kernel
theorem dX6_dropStorm_59 : decode cX6_dropStorm 59 = .ok (.iconst 3, 1) := by decide +kernel
theorem dX6_dropStorm_60 : decode cX6_dropStorm 60 = .ok (.iload_n 2, 1) := by decide +kernel
theorem dX6_dropStorm_61 : decode cX6_dropStorm 61 = .ok (.imul, 1) := by decide +kernel
theorem dX6_dropStorm_62 : decode cX6_dropStorm 62 = .ok (.iload_n 3, 1) := by decide +kernel
theorem dX6_dropStorm_63 : decode cX6_dropStorm 63 = .ok (.iadd, 1) := by decide +kernel
theorem dX6_dropStorm_64 : decode cX6_dropStorm 64 = .ok (.aload_n 0, 1) := by decide +kernel
theorem dX6_dropStorm_65 : decode cX6_dropStorm 65 = .ok (.getfield 16, 3) := by decide +kernel
theorem dX6_dropStorm_68 : decode cX6_dropStorm 68 = .ok (.iconst 3, 1) := by decide +kernel
theorem dX6_dropStorm_69 : decode cX6_dropStorm 69 = .ok (.iload_n 2, 1) := by decide +kernel
theorem dX6_dropStorm_70 : decode cX6_dropStorm 70 = .ok (.imul, 1) := by decide +kernel
theorem dX6_dropStorm_71 : decode cX6_dropStorm 71 = .ok (.iconst 3, 1) := by decide +kernel
theorem dX6_dropStorm_72 : decode cX6_dropStorm 72 = .ok (.iadd, 1) := by decide +kernel
theorem dX6_dropStorm_73 : decode cX6_dropStorm 73 = .ok (.iload_n 3, 1) := by decide +kernel
theorem dX6_dropStorm_74 : decode cX6_dropStorm 74 = .ok (.iadd, 1) := by decide +kernel
theorem dX6_dropStorm_75 : decode cX6_dropStorm 75 = .ok (.iaload, 1) := by decide +kernel
theorem dX6_dropStorm_76 : decode cX6_dropStorm 76 = .ok (.iastore, 1) := by decide +kernel
theorem dX6_dropStorm_77 : decode cX6_dropStorm 77 = .ok (.iinc 3 1, 3) := by decide +kernel
theorem dX6_dropStorm_80 : decode cX6_dropStorm 80 = .ok (.goto (-30), 3) := by decide +kernel
theorem dX6_dropStorm_83 : decode cX6_dropStorm 83 = .ok (.iconst 0, 1) := by decide +kernel
theorem dX6_dropStorm_84 : decode cX6_dropStorm 84 = .ok (.istore_n 3, 1) := by decide +kernel
theorem dX6_dropStorm_85 : decode cX6_dropStorm 85 = .ok (.iload_n 3, 1) := by decide +kernel
theorem dX6_dropStorm_86 : decode cX6_dropStorm 86 = .ok (.bipush 8, 2) := by decide +kernel
theorem dX6_dropStorm_88 : decode cX6_dropStorm 88 = .ok (.if_icmp .ge 34, 3) := by decide +kernel
theorem dX6_dropStorm_91 : decode cX6_dropStorm 91 = .ok (.aload_n 0, 1) := by decide +kernel
theorem dX6_dropStorm_92 : decode cX6_dropStorm 92 = .ok (.getfield 22, 3) := by decide +kernel
theorem dX6_dropStorm_95 : decode cX6_dropStorm 95 = .ok (.bipush 8, 2) := by decide +kernel
theorem dX6_dropStorm_97 : decode cX6_dropStorm 97 = .ok (.iload_n 2, 1) := by decide +kernel
theorem dX6_dropStorm_98 : decode cX6_dropStorm 98 = .ok (.imul, 1) := by decide +kernel
theorem dX6_dropStorm_99 : decode cX6_dropStorm 99 = .ok (.iload_n 3, 1) := by decide +kernel
theorem dX6_dropStorm_100 : decode cX6_dropStorm 100 = .ok (.iadd, 1) := by decide +kernel
theorem dX6_dropStorm_101 : decode cX6_dropStorm 101 = .ok (.aload_n 0, 1) := by decide +kernel
theorem dX6_dropStorm_102 : decode cX6_dropStorm 102 = .ok (.getfield 22, 3) := by decide +kernel
theorem dX6_dropStorm_105 : decode cX6_dropStorm 105 = .ok (.bipush 8, 2) := by decide +kernel
theorem dX6_dropStorm_107 : decode cX6_dropStorm 107 = .ok (.iload_n 2, 1) := by decide +kernel
theorem dX6_dropStorm_108 : decode cX6_dropStorm 108 = .ok (.imul, 1) := by decide +kernel
theorem dX6_dropStorm_109 : decode cX6_dropStorm 109 = .ok (.bipush 8, 2) := by decide +kernel
theorem dX6_dropStorm_111 : decode cX6_dropStorm 111 = .ok (.iadd, 1) := by decide +kernel
theorem dX6_dropStorm_112 : decode cX6_dropStorm 112 = .ok (.iload_n 3, 1) := by decide +kernel
theorem dX6_dropStorm_113 : decode cX6_dropStorm 113 = .ok (.iadd, 1) := by decide +kernel
theorem dX6_dropStorm_114 : decode cX6_dropStorm 114 = .ok (.iaload, 1) := by decide +kernel
theorem dX6_dropStorm_115 : decode cX6_dropStorm 115 = .ok (.iastore, 1) := by decide +kernel
theorem dX6_dropStorm_116 : decode cX6_dropStorm 116 = .ok (.iinc 3 1, 3) := by decide +kernel
theorem dX6_dropStorm_119 : decode cX6_dropStorm 119 = .ok (.goto (-34), 3) := by decide +kernel
theorem dX6_dropStorm_122 : decode cX6_dropStorm 122 = .ok (.iinc 2 1, 3) := by decide +kernel
theorem dX6_dropStorm_125 : decode cX6_dropStorm 125 = .ok (.goto (-113), 3) := by decide +kernel
theorem dX6_dropStorm_128 : decode cX6_dropStorm 128 = .ok (.aload_n 0, 1) := by decide +kernel
theorem dX6_dropStorm_129 : decode cX6_dropStorm 129 = .ok (.getfield 114, 3) := by decide +kernel
theorem dX6_dropStorm_132 : decode cX6_dropStorm 132 = .ok (.ireturn, 1) := by decide +kernel
theorem dX6_dropUnit_0 : decode cX6_dropUnit 0 = .ok (.aload_n 0, 1) := by decide +kernel
theorem dX6_dropUnit_1 : decode cX6_dropUnit 1 = .ok (.dup, 1) := by decide +kernel
theorem dX6_dropUnit_2 : decode cX6_dropUnit 2 = .ok (.getfield 117, 3) := by decide +kernel
theorem dX6_dropUnit_5 : decode cX6_dropUnit 5 = .ok (.iconst 1, 1) := by decide +kernel
theorem dX6_dropUnit_6 : decode cX6_dropUnit 6 = .ok (.isub, 1) := by decide +kernel
theorem dX6_dropUnit_7 : decode cX6_dropUnit 7 = .ok (.putfield 117, 3) := by decide +kernel
theorem dX6_dropUnit_10 : decode cX6_dropUnit 10 = .ok (.iload_n 1, 1) := by decide +kernel
theorem dX6_dropUnit_11 : decode cX6_dropUnit 11 = .ok (.istore_n 2, 1) := by decide +kernel
theorem dX6_dropUnit_12 : decode cX6_dropUnit 12 = .ok (.iload_n 2, 1) := by decide +kernel
theorem dX6_dropUnit_13 : decode cX6_dropUnit 13 = .ok (.aload_n 0, 1) := by decide +kernel
theorem dX6_dropUnit_14 : decode cX6_dropUnit 14 = .ok (.getfield 117, 3) := by decide +kernel
theorem dX6_dropUnit_17 : decode cX6_dropUnit 17 = .ok (.if_icmp .ge 76, 3) := by decide +kernel
theorem dX6_dropUnit_20 : decode cX6_dropUnit 20 = .ok (.aload_n 0, 1) := by decide +kernel
theorem dX6_dropUnit_21 : decode cX6_dropUnit 21 = .ok (.getfield 25, 3) := by decide +kernel
theorem dX6_dropUnit_24 : decode cX6_dropUnit 24 = .ok (.iload_n 2, 1) := by decide +kernel
theorem dX6_dropUnit_25 : decode cX6_dropUnit 25 = .ok (.aload_n 0, 1) := by decide +kernel
theorem dX6_dropUnit_26 : decode cX6_dropUnit 26 = .ok (.getfield 25, 3) := by decide +kernel
theorem dX6_dropUnit_29 : decode cX6_dropUnit 29 = .ok (.iload_n 2, 1) := by decide +kernel
theorem dX6_dropUnit_30 : decode cX6_dropUnit 30 = .ok (.iconst 1, 1) := by decide +kernel
theorem dX6_dropUnit_31 : decode cX6_dropUnit 31 = .ok (.iadd, 1) := by decide +kernel
theorem dX6_dropUnit_32 : decode cX6_dropUnit 32 = .ok (.iaload, 1) := by decide +kernel
theorem dX6_dropUnit_33 : decode cX6_dropUnit 33 = .ok (.iastore, 1) := by decide +kernel
theorem dX6_dropUnit_34 : decode cX6_dropUnit 34 = .ok (.aload_n 0, 1) := by decide +kernel
theorem dX6_dropUnit_35 : decode cX6_dropUnit 35 = .ok (.getfield 28, 3) := by decide +kernel
theorem dX6_dropUnit_38 : decode cX6_dropUnit 38 = .ok (.iload_n 2, 1) := by decide +kernel
theorem dX6_dropUnit_39 : decode cX6_dropUnit 39 = .ok (.aload_n 0, 1) := by decide +kernel
theorem dX6_dropUnit_40 : decode cX6_dropUnit 40 = .ok (.getfield 28, 3) := by decide +kernel
theorem dX6_dropUnit_43 : decode cX6_dropUnit 43 = .ok (.iload_n 2, 1) := by decide +kernel
theorem dX6_dropUnit_44 : decode cX6_dropUnit 44 = .ok (.iconst 1, 1) := by decide +kernel
theorem dX6_dropUnit_45 : decode cX6_dropUnit 45 = .ok (.iadd, 1) := by decide +kernel
theorem dX6_dropUnit_46 : decode cX6_dropUnit 46 = .ok (.iaload, 1) := by decide +kernel
theorem dX6_dropUnit_47 : decode cX6_dropUnit 47 = .ok (.iastore, 1) := by decide +kernel
theorem dX6_dropUnit_48 : decode cX6_dropUnit 48 = .ok (.iconst 0, 1) := by decide +kernel
theorem dX6_dropUnit_49 : decode cX6_dropUnit 49 = .ok (.istore_n 3, 1) := by decide +kernel
theorem dX6_dropUnit_50 : decode cX6_dropUnit 50 = .ok (.iload_n 3, 1) := by decide +kernel
theorem dX6_dropUnit_51 : decode cX6_dropUnit 51 = .ok (.bipush 8, 2) := by decide +kernel
theorem dX6_dropUnit_53 : decode cX6_dropUnit 53 = .ok (.if_icmp .ge 34, 3) := by decide +kernel
theorem dX6_dropUnit_56 : decode cX6_dropUnit 56 = .ok (.aload_n 0, 1) := by decide +kernel
theorem dX6_dropUnit_57 : decode cX6_dropUnit 57 = .ok (.getfield 31, 3) := by decide +kernel
theorem dX6_dropUnit_60 : decode cX6_dropUnit 60 = .ok (.bipush 8, 2) := by decide +kernel
theorem dX6_dropUnit_62 : decode cX6_dropUnit 62 = .ok (.iload_n 2, 1) := by decide +kernel
theorem dX6_dropUnit_63 : decode cX6_dropUnit 63 = .ok (.imul, 1) := by decide +kernel
theorem dX6_dropUnit_64 : decode cX6_dropUnit 64 = .ok (.iload_n 3, 1) := by decide +kernel
theorem dX6_dropUnit_65 : decode cX6_dropUnit 65 = .ok (.iadd, 1) := by decide +kernel
theorem dX6_dropUnit_66 : decode cX6_dropUnit 66 = .ok (.aload_n 0, 1) := by decide +kernel
theorem dX6_dropUnit_67 : decode cX6_dropUnit 67 = .ok (.getfield 31, 3) := by decide +kernel
theorem dX6_dropUnit_70 : decode cX6_dropUnit 70 = .ok (.bipush 8, 2) := by decide +kernel
theorem dX6_dropUnit_72 : decode cX6_dropUnit 72 = .ok (.iload_n 2, 1) := by decide +kernel
theorem dX6_dropUnit_73 : decode cX6_dropUnit 73 = .ok (.imul, 1) := by decide +kernel
theorem dX6_dropUnit_74 : decode cX6_dropUnit 74 = .ok (.bipush 8, 2) := by decide +kernel
theorem dX6_dropUnit_76 : decode cX6_dropUnit 76 = .ok (.iadd, 1) := by decide +kernel
theorem dX6_dropUnit_77 : decode cX6_dropUnit 77 = .ok (.iload_n 3, 1) := by decide +kernel
theorem dX6_dropUnit_78 : decode cX6_dropUnit 78 = .ok (.iadd, 1) := by decide +kernel
theorem dX6_dropUnit_79 : decode cX6_dropUnit 79 = .ok (.iaload, 1) := by decide +kernel
theorem dX6_dropUnit_80 : decode cX6_dropUnit 80 = .ok (.iastore, 1) := by decide +kernel
theorem dX6_dropUnit_81 : decode cX6_dropUnit 81 = .ok (.iinc 3 1, 3) := by decide +kernel
theorem dX6_dropUnit_84 : decode cX6_dropUnit 84 = .ok (.goto (-34), 3) := by decide +kernel
theorem dX6_dropUnit_87 : decode cX6_dropUnit 87 = .ok (.iinc 2 1, 3) := by decide +kernel
theorem dX6_dropUnit_90 : decode cX6_dropUnit 90 = .ok (.goto (-78), 3) := by decide +kernel
theorem dX6_dropUnit_93 : decode cX6_dropUnit 93 = .ok (.aload_n 0, 1) := by decide +kernel
theorem dX6_dropUnit_94 : decode cX6_dropUnit 94 = .ok (.getfield 117, 3) := by decide +kernel
theorem dX6_dropUnit_97 : decode cX6_dropUnit 97 = .ok (.ireturn, 1) := by decide +kernel
set_option maxRecDepth 20000 in
theorem ggX6_isStorm_X6_within : GoodIn wsX6_isStorm wsX6_within := goodIn_r _ [5] (by decide +kernel) (by decide +kernel)
set_option maxRecDepth 20000 in
theorem gX6_isStorm_X6_within : GoodIn wsX6_isStorm (va_wsS RX6 59 yX6_within wsX6_within) := goodIn_app (goodIn_of _ (by decide +kernel)) ggX6_isStorm_X6_within
theorem dX6_isStorm_0 : decode cX6_isStorm 0 = .ok (.iload_n 1, 1) := by decide +kernel
theorem dX6_isStorm_1 : decode cX6_isStorm 1 = .ok (.iconst 0, 1) := by decide +kernel
theorem dX6_isStorm_2 : decode cX6_isStorm 2 = .ok (.aload_n 0, 1) := by decide +kernel
theorem dX6_isStorm_3 : decode cX6_isStorm 3 = .ok (.getfield 114, 3) := by decide +kernel
theorem dX6_isStorm_6 : decode cX6_isStorm 6 = .ok (.iconst 1, 1) := by decide +kernel
theorem dX6_isStorm_7 : decode cX6_isStorm 7 = .ok (.isub, 1) := by decide +kernel
theorem dX6_isStorm_8 : decode cX6_isStorm 8 = .ok (.invokestatic 59, 3) := by decide +kernel
theorem dX6_isStorm_11 : decode cX6_isStorm 11 = .ok (.ireturn, 1) := by decide +kernel
set_option maxRecDepth 20000 in
theorem ggX6_isUnitThere_X6_within : GoodIn wsX6_isUnitThere wsX6_within := goodIn_r _ [5] (by decide +kernel) (by decide +kernel)
set_option maxRecDepth 20000 in
theorem gX6_isUnitThere_X6_within : GoodIn wsX6_isUnitThere (va_wsS RX6 59 yX6_within wsX6_within) := goodIn_app (goodIn_of _ (by decide +kernel)) ggX6_isUnitThere_X6_within
theorem dX6_isUnitThere_0 : decode cX6_isUnitThere 0 = .ok (.iload_n 1, 1) := by decide +kernel
theorem dX6_isUnitThere_1 : decode cX6_isUnitThere 1 = .ok (.iconst 0, 1) := by decide +kernel
theorem dX6_isUnitThere_2 : decode cX6_isUnitThere 2 = .ok (.aload_n 0, 1) := by decide +kernel
theorem dX6_isUnitThere_3 : decode cX6_isUnitThere 3 = .ok (.getfield 117, 3) := by decide +kernel
theorem dX6_isUnitThere_6 : decode cX6_isUnitThere 6 = .ok (.iconst 1, 1) := by decide +kernel
theorem dX6_isUnitThere_7 : decode cX6_isUnitThere 7 = .ok (.isub, 1) := by decide +kernel
theorem dX6_isUnitThere_8 : decode cX6_isUnitThere 8 = .ok (.invokestatic 59, 3) := by decide +kernel
theorem dX6_isUnitThere_11 : decode cX6_isUnitThere 11 = .ok (.ireturn, 1) := by decide +kernel
set_option maxRecDepth 20000 in
theorem ggX6_drop_X6_isUnitThere : GoodIn wsX6_drop wsX6_isUnitThere := goodIn_r _ [7, 8, 9, 10, 6, 11, 32, 33, 34, 35, 36, 37, 38, 39, 40, 41, 42, 43, 44, 45, 46, 47, 48, 49, 50, 51, 52, 53, 54, 55, 56, 57, 58, 59, 60, 61, 62, 63, 64] (by decide +kernel) (by decide +kernel)
set_option maxRecDepth 20000 in
theorem gX6_drop_X6_isUnitThere : GoodIn wsX6_drop (wsV RX6 130 RX6 yX6_isUnitThere wsX6_isUnitThere) := goodIn_app (goodIn_of _ (by decide +kernel)) ggX6_drop_X6_isUnitThere
set_option maxRecDepth 20000 in
theorem ggX6_drop_X6_isStorm : GoodIn wsX6_drop wsX6_isStorm := goodIn_r _ [15, 16, 9, 10, 6, 11, 32, 33, 34, 35, 36, 37, 38, 39, 40, 41, 42, 43, 44, 45, 46, 47, 48, 49, 50, 51, 52, 53, 54, 55, 56, 57, 58, 59, 60, 61, 62, 63, 64] (by decide +kernel) (by decide +kernel)
set_option maxRecDepth 20000 in
theorem gX6_drop_X6_isStorm : GoodIn wsX6_drop (wsV RX6 133 RX6 yX6_isStorm wsX6_isStorm) := goodIn_app (goodIn_of _ (by decide +kernel)) ggX6_drop_X6_isStorm
set_option maxRecDepth 20000 in
theorem ggX6_drop_X6_dropUnit : GoodIn wsX6_drop wsX6_dropUnit := goodIn_r _ [20, 8, 21, 22, 23, 32, 33, 34, 35, 36, 37, 38, 39, 40, 41, 42, 43, 44, 45, 46, 47, 48, 49, 50, 51, 52, 53, 54, 55, 56, 57, 58, 59, 60, 61, 62, 63, 64] (by decide +kernel) (by decide +kernel)
set_option maxRecDepth 20000 in
theorem gX6_drop_X6_dropUnit : GoodIn wsX6_drop (wsV RX6 140 RX6 yX6_dropUnit wsX6_dropUnit) := goodIn_app (goodIn_of _ (by decide +kernel)) ggX6_drop_X6_dropUnit
set_option maxRecDepth 20000 in
theorem ggX6_drop_X6_dropStorm : GoodIn wsX6_drop wsX6_dropStorm := goodIn_r _ [27, 16, 28, 29, 30, 31, 32, 33, 34, 35, 36, 37, 38, 39, 40, 41, 42, 43, 44, 45, 46, 47, 48, 49, 50, 51, 52, 53, 54, 55, 56, 57, 58, 59, 60, 61, 62, 63, 64] (by decide +kernel) (by decide +kernel)
set_option maxRecDepth 20000 in
theorem gX6_drop_X6_dropStorm : GoodIn wsX6_drop (wsV RX6 144 RX6 yX6_dropStorm wsX6_dropStorm) := goodIn_app (goodIn_of _ (by decide +kernel)) ggX6_drop_X6_dropStorm
theorem dX6_drop_0 : decode cX6_drop 0 = .ok (.iload_n 1, 1) := by decide +kernel
theorem dX6_drop_1 : decode cX6_drop 1 = .ok (.ifCond .eq 14, 3) := by decide +kernel
theorem dX6_drop_4 : decode cX6_drop 4 = .ok (.aload_n 0, 1) := by decide +kernel
theorem dX6_drop_5 : decode cX6_drop 5 = .ok (.iload_n 2, 1) := by decide +kernel
theorem dX6_drop_6 : decode cX6_drop 6 = .ok (.invokevirtual 130, 3) := by decide +kernel
theorem dX6_drop_9 : decode cX6_drop 9 = .ok (.ifCond .ne 17, 3) := by decide +kernel
theorem dX6_drop_12 : decode cX6_drop 12 = .ok (.goto 11, 3) := by decide +kernel
theorem dX6_drop_15 : decode cX6_drop 15 = .ok (.aload_n 0, 1) := by decide +kernel
theorem dX6_drop_16 : decode cX6_drop 16 = .ok (.iload_n 2, 1) := by decide +kernel
theorem dX6_drop_17 : decode cX6_drop 17 = .ok (.invokevirtual 133, 3) := by decide +kernel
theorem dX6_drop_20 : decode cX6_drop 20 = .ok (.ifCond .ne 6, 3) := by decide +kernel
theorem dX6_drop_23 : decode cX6_drop 23 = .ok (.ldc 136, 2) := by decide +kernel
theorem dX6_drop_25 : decode cX6_drop 25 = .ok (.ireturn, 1) := by decide +kernel
theorem dX6_drop_26 : decode cX6_drop 26 = .ok (.aload_n 0, 1) := by decide +kernel
theorem dX6_drop_27 : decode cX6_drop 27 = .ok (.dup, 1) := by decide +kernel
theorem dX6_drop_28 : decode cX6_drop 28 = .ok (.getfield 137, 3) := by decide +kernel
theorem dX6_drop_31 : decode cX6_drop 31 = .ok (.iconst 1, 1) := by decide +kernel
theorem dX6_drop_32 : decode cX6_drop 32 = .ok (.iadd, 1) := by decide +kernel
theorem dX6_drop_33 : decode cX6_drop 33 = .ok (.putfield 137, 3) := by decide +kernel
theorem dX6_drop_36 : decode cX6_drop 36 = .ok (.iload_n 1, 1) := by decide +kernel
theorem dX6_drop_37 : decode cX6_drop 37 = .ok (.ifCond .eq 11, 3) := by decide +kernel
theorem dX6_drop_40 : decode cX6_drop 40 = .ok (.aload_n 0, 1) := by decide +kernel
theorem dX6_drop_41 : decode cX6_drop 41 = .ok (.iload_n 2, 1) := by decide +kernel
theorem dX6_drop_42 : decode cX6_drop 42 = .ok (.invokevirtual 140, 3) := by decide +kernel
theorem dX6_drop_45 : decode cX6_drop 45 = .ok (.goto 8, 3) := by decide +kernel
theorem dX6_drop_48 : decode cX6_drop 48 = .ok (.aload_n 0, 1) := by decide +kernel
theorem dX6_drop_49 : decode cX6_drop 49 = .ok (.iload_n 2, 1) := by decide +kernel
theorem dX6_drop_50 : decode cX6_drop 50 = .ok (.invokevirtual 144, 3) := by decide +kernel
theorem dX6_drop_53 : decode cX6_drop 53 = .ok (.ireturn, 1) := by decide +kernel
set_option maxRecDepth 20000 in
theorem ggX6_rainAt_X6_within : GoodIn wsX6_rainAt wsX6_within := goodIn_r _ [5] (by decide +kernel) (by decide +kernel)
set_option maxRecDepth 20000 in
theorem gX6_rainAt_X6_within : GoodIn wsX6_rainAt (va_wsS RX6 59 yX6_within wsX6_within) := goodIn_app (goodIn_of _ (by decide +kernel)) ggX6_rainAt_X6_within
theorem dX6_rainAt_0 : decode cX6_rainAt 0 = .ok (.iload_n 2, 1) := by decide +kernel
theorem dX6_rainAt_1 : decode cX6_rainAt 1 = .ok (.iconst 0, 1) := by decide +kernel
theorem dX6_rainAt_2 : decode cX6_rainAt 2 = .ok (.iconst 2, 1) := by decide +kernel
theorem dX6_rainAt_3 : decode cX6_rainAt 3 = .ok (.invokestatic 59, 3) := by decide +kernel
theorem dX6_rainAt_6 : decode cX6_rainAt 6 = .ok (.ifCond .eq 16, 3) := by decide +kernel
theorem dX6_rainAt_9 : decode cX6_rainAt 9 = .ok (.aload_n 0, 1) := by decide +kernel
theorem dX6_rainAt_10 : decode cX6_rainAt 10 = .ok (.getfield 16, 3) := by decide +kernel
theorem dX6_rainAt_13 : decode cX6_rainAt 13 = .ok (.iconst 3, 1) := by decide +kernel
theorem dX6_rainAt_14 : decode cX6_rainAt 14 = .ok (.iload_n 1, 1) := by decide +kernel
theorem dX6_rainAt_15 : decode cX6_rainAt 15 = .ok (.imul, 1) := by decide +kernel
theorem dX6_rainAt_16 : decode cX6_rainAt 16 = .ok (.iload_n 2, 1) := by decide +kernel
theorem dX6_rainAt_17 : decode cX6_rainAt 17 = .ok (.iadd, 1) := by decide +kernel
theorem dX6_rainAt_18 : decode cX6_rainAt 18 = .ok (.iaload, 1) := by decide +kernel
theorem dX6_rainAt_19 : decode cX6_rainAt 19 = .ok (.goto 4, 3) := by decide +kernel
theorem dX6_rainAt_22 : decode cX6_rainAt 22 = .ok (.iconst 0, 1) := by decide +kernel
theorem dX6_rainAt_23 : decode cX6_rainAt 23 = .ok (.ireturn, 1) := by decide +kernel
set_option maxRecDepth 20000 in
theorem ggX6_runoffAt_X6_within : GoodIn wsX6_runoffAt wsX6_within := goodIn_r _ [5] (by decide +kernel) (by decide +kernel)
set_option maxRecDepth 20000 in
theorem gX6_runoffAt_X6_within : GoodIn wsX6_runoffAt (va_wsS RX6 59 yX6_within wsX6_within) := goodIn_app (goodIn_of _ (by decide +kernel)) ggX6_runoffAt_X6_within
theorem dX6_runoffAt_0 : decode cX6_runoffAt 0 = .ok (.iload_n 2, 1) := by decide +kernel
theorem dX6_runoffAt_1 : decode cX6_runoffAt 1 = .ok (.iconst 0, 1) := by decide +kernel
theorem dX6_runoffAt_2 : decode cX6_runoffAt 2 = .ok (.bipush 7, 2) := by decide +kernel
theorem dX6_runoffAt_4 : decode cX6_runoffAt 4 = .ok (.invokestatic 59, 3) := by decide +kernel
theorem dX6_runoffAt_7 : decode cX6_runoffAt 7 = .ok (.ifCond .eq 17, 3) := by decide +kernel
theorem dX6_runoffAt_10 : decode cX6_runoffAt 10 = .ok (.aload_n 0, 1) := by decide +kernel
theorem dX6_runoffAt_11 : decode cX6_runoffAt 11 = .ok (.getfield 22, 3) := by decide +kernel
theorem dX6_runoffAt_14 : decode cX6_runoffAt 14 = .ok (.bipush 8, 2) := by decide +kernel
theorem dX6_runoffAt_16 : decode cX6_runoffAt 16 = .ok (.iload_n 1, 1) := by decide +kernel
theorem dX6_runoffAt_17 : decode cX6_runoffAt 17 = .ok (.imul, 1) := by decide +kernel
theorem dX6_runoffAt_18 : decode cX6_runoffAt 18 = .ok (.iload_n 2, 1) := by decide +kernel
theorem dX6_runoffAt_19 : decode cX6_runoffAt 19 = .ok (.iadd, 1) := by decide +kernel
theorem dX6_runoffAt_20 : decode cX6_runoffAt 20 = .ok (.iaload, 1) := by decide +kernel
theorem dX6_runoffAt_21 : decode cX6_runoffAt 21 = .ok (.goto 4, 3) := by decide +kernel
theorem dX6_runoffAt_24 : decode cX6_runoffAt 24 = .ok (.iconst 0, 1) := by decide +kernel
theorem dX6_runoffAt_25 : decode cX6_runoffAt 25 = .ok (.ireturn, 1) := by decide +kernel
set_option maxRecDepth 20000 in
theorem ggX6_rainAll_X6_rainAt : GoodIn wsX6_rainAll wsX6_rainAt := goodIn_r _ [5, 6, 7, 8, 4, 9, 10, 11, 12, 13, 14, 15, 16, 17, 18, 19, 20, 21, 22, 23, 24, 25, 26, 27, 28, 29, 30, 31, 32, 33, 34, 35, 36, 37, 38, 39, 40, 41, 42] (by decide +kernel) (by decide +kernel)
set_option maxRecDepth 20000 in
theorem gX6_rainAll_X6_rainAt : GoodIn wsX6_rainAll (wsV RX6 147 RX6 yX6_rainAt wsX6_rainAt) := goodIn_app (goodIn_of _ (by decide +kernel)) ggX6_rainAll_X6_rainAt
theorem dX6_rainAll_0 : decode cX6_rainAll 0 = .ok (.aload_n 0, 1) := by decide +kernel
theorem dX6_rainAll_1 : decode cX6_rainAll 1 = .ok (.iload_n 1, 1) := by decide +kernel
theorem dX6_rainAll_2 : decode cX6_rainAll 2 = .ok (.iconst 0, 1) := by decide +kernel
theorem dX6_rainAll_3 : decode cX6_rainAll 3 = .ok (.invokevirtual 147, 3) := by decide +kernel
theorem dX6_rainAll_6 : decode cX6_rainAll 6 = .ok (.aload_n 0, 1) := by decide +kernel
theorem dX6_rainAll_7 : decode cX6_rainAll 7 = .ok (.iload_n 1, 1) := by decide +kernel
theorem dX6_rainAll_8 : decode cX6_rainAll 8 = .ok (.iconst 1, 1) := by decide +kernel
theorem dX6_rainAll_9 : decode cX6_rainAll 9 = .ok (.invokevirtual 147, 3) := by decide +kernel
theorem dX6_rainAll_12 : decode cX6_rainAll 12 = .ok (.iadd, 1) := by decide +kernel
theorem dX6_rainAll_13 : decode cX6_rainAll 13 = .ok (.aload_n 0, 1) := by decide +kernel
theorem dX6_rainAll_14 : decode cX6_rainAll 14 = .ok (.iload_n 1, 1) := by decide +kernel
theorem dX6_rainAll_15 : decode cX6_rainAll 15 = .ok (.iconst 2, 1) := by decide +kernel
theorem dX6_rainAll_16 : decode cX6_rainAll 16 = .ok (.invokevirtual 147, 3) := by decide +kernel
theorem dX6_rainAll_19 : decode cX6_rainAll 19 = .ok (.iadd, 1) := by decide +kernel
theorem dX6_rainAll_20 : decode cX6_rainAll 20 = .ok (.ireturn, 1) := by decide +kernel
set_option maxRecDepth 20000 in
theorem ggX6_runoffAll_X6_runoffAt : GoodIn wsX6_runoffAll wsX6_runoffAt := goodIn_r _ [5, 6, 7, 8, 4, 9, 10, 11, 12, 13, 14, 15, 16, 17, 18, 19, 20, 21, 22, 23, 24, 25, 26, 27, 28, 29, 30, 31, 32, 33, 34, 35, 36, 37, 38, 39, 40, 41, 42] (by decide +kernel) (by decide +kernel)
set_option maxRecDepth 20000 in
theorem gX6_runoffAll_X6_runoffAt : GoodIn wsX6_runoffAll (wsV RX6 151 RX6 yX6_runoffAt wsX6_runoffAt) := goodIn_app (goodIn_of _ (by decide +kernel)) ggX6_runoffAll_X6_runoffAt
theorem dX6_runoffAll_0 : decode cX6_runoffAll 0 = .ok (.iconst 0, 1) := by decide +kernel
theorem dX6_runoffAll_1 : decode cX6_runoffAll 1 = .ok (.istore_n 2, 1) := by decide +kernel
theorem dX6_runoffAll_2 : decode cX6_runoffAll 2 = .ok (.iconst 0, 1) := by decide +kernel
theorem dX6_runoffAll_3 : decode cX6_runoffAll 3 = .ok (.istore_n 3, 1) := by decide +kernel
theorem dX6_runoffAll_4 : decode cX6_runoffAll 4 = .ok (.iload_n 3, 1) := by decide +kernel
theorem dX6_runoffAll_5 : decode cX6_runoffAll 5 = .ok (.bipush 8, 2) := by decide +kernel
theorem dX6_runoffAll_7 : decode cX6_runoffAll 7 = .ok (.if_icmp .ge 18, 3) := by decide +kernel
theorem dX6_runoffAll_10 : decode cX6_runoffAll 10 = .ok (.iload_n 2, 1) := by decide +kernel
theorem dX6_runoffAll_11 : decode cX6_runoffAll 11 = .ok (.aload_n 0, 1) := by decide +kernel
theorem dX6_runoffAll_12 : decode cX6_runoffAll 12 = .ok (.iload_n 1, 1) := by decide +kernel
theorem dX6_runoffAll_13 : decode cX6_runoffAll 13 = .ok (.iload_n 3, 1) := by decide +kernel
theorem dX6_runoffAll_14 : decode cX6_runoffAll 14 = .ok (.invokevirtual 151, 3) := by decide +kernel
theorem dX6_runoffAll_17 : decode cX6_runoffAll 17 = .ok (.iadd, 1) := by decide +kernel
theorem dX6_runoffAll_18 : decode cX6_runoffAll 18 = .ok (.istore_n 2, 1) := by decide +kernel
theorem dX6_runoffAll_19 : decode cX6_runoffAll 19 = .ok (.iinc 3 1, 3) := by decide +kernel
theorem dX6_runoffAll_22 : decode cX6_runoffAll 22 = .ok (.goto (-18), 3) := by decide +kernel
theorem dX6_runoffAll_25 : decode cX6_runoffAll 25 = .ok (.iload_n 2, 1) := by decide +kernel
theorem dX6_runoffAll_26 : decode cX6_runoffAll 26 = .ok (.ireturn, 1) := by decide +kernel
set_option maxRecDepth 20000 in
theorem ggX6_stormNow_X6_rainAll : GoodIn wsX6_stormNow wsX6_rainAll := goodIn_r _ [7, 8, 9, 10, 6, 11, 12, 13, 14, 15, 25, 26, 27, 28, 29, 30, 31, 32, 33, 34, 35, 36, 37, 38, 39, 40, 41, 42, 43, 44, 45, 46, 47, 48, 49, 50, 51, 52, 53, 54, 55, 56, 57] (by decide +kernel) (by decide +kernel)
set_option maxRecDepth 20000 in
theorem gX6_stormNow_X6_rainAll : GoodIn wsX6_stormNow (wsV RX6 154 RX6 yX6_rainAll wsX6_rainAll) := goodIn_app (goodIn_of _ (by decide +kernel)) ggX6_stormNow_X6_rainAll
set_option maxRecDepth 20000 in
theorem ggX6_stormNow_X6_runoffAll : GoodIn wsX6_stormNow wsX6_runoffAll := goodIn_r _ [19, 20, 21, 22, 6, 23, 24, 13, 14, 15, 25, 26, 27, 28, 29, 30, 31, 32, 33, 34, 35, 36, 37, 38, 39, 40, 41, 42, 43, 44, 45, 46, 47, 48, 49, 50, 51, 52, 53, 54, 55, 56, 57] (by decide +kernel) (by decide +kernel)
set_option maxRecDepth 20000 in
theorem gX6_stormNow_X6_runoffAll : GoodIn wsX6_stormNow (wsV RX6 157 RX6 yX6_runoffAll wsX6_runoffAll) := goodIn_app (goodIn_of _ (by decide +kernel)) ggX6_stormNow_X6_runoffAll
set_option maxRecDepth 20000 in
theorem ggX6_stormNow_X6_rainAt : GoodIn wsX6_stormNow wsX6_rainAt := goodIn_r _ [11, 12, 13, 14, 6, 15, 25, 26, 27, 28, 29, 30, 31, 32, 33, 34, 35, 36, 37, 38, 39, 40, 41, 42, 43, 44, 45, 46, 47, 48, 49, 50, 51, 52, 53, 54, 55, 56, 57] (by decide +kernel) (by decide +kernel)
set_option maxRecDepth 20000 in
theorem gX6_stormNow_X6_rainAt : GoodIn wsX6_stormNow (wsV RX6 147 RX6 yX6_rainAt wsX6_rainAt) := goodIn_app (goodIn_of _ (by decide +kernel)) ggX6_stormNow_X6_rainAt
set_option maxRecDepth 20000 in
theorem ggX6_stormNow_X6_runoffAt : GoodIn wsX6_stormNow wsX6_runoffAt := goodIn_r _ [23, 24, 13, 14, 6, 15, 25, 26, 27, 28, 29, 30, 31, 32, 33, 34, 35, 36, 37, 38, 39, 40, 41, 42, 43, 44, 45, 46, 47, 48, 49, 50, 51, 52, 53, 54, 55, 56, 57] (by decide +kernel) (by decide +kernel)
set_option maxRecDepth 20000 in
theorem gX6_stormNow_X6_runoffAt : GoodIn wsX6_stormNow (wsV RX6 151 RX6 yX6_runoffAt wsX6_runoffAt) := goodIn_app (goodIn_of _ (by decide +kernel)) ggX6_stormNow_X6_runoffAt
theorem dX6_stormNow_0 : decode cX6_stormNow 0 = .ok (.iload_n 2, 1) := by decide +kernel
theorem dX6_stormNow_1 : decode cX6_stormNow 1 = .ok (.tableswitch 57 0 3 #[31, 38, 45, 51], 31) := by decide +kernel
theorem dX6_stormNow_32 : decode cX6_stormNow 32 = .ok (.aload_n 0, 1) := by decide +kernel
theorem dX6_stormNow_33 : decode cX6_stormNow 33 = .ok (.getfield 13, 3) := by decide +kernel
theorem dX6_stormNow_36 : decode cX6_stormNow 36 = .ok (.iload_n 1, 1) := by decide +kernel
theorem dX6_stormNow_37 : decode cX6_stormNow 37 = .ok (.iaload, 1) := by decide +kernel
theorem dX6_stormNow_38 : decode cX6_stormNow 38 = .ok (.ireturn, 1) := by decide +kernel
theorem dX6_stormNow_39 : decode cX6_stormNow 39 = .ok (.aload_n 0, 1) := by decide +kernel
theorem dX6_stormNow_40 : decode cX6_stormNow 40 = .ok (.getfield 19, 3) := by decide +kernel
theorem dX6_stormNow_43 : decode cX6_stormNow 43 = .ok (.iload_n 1, 1) := by decide +kernel
theorem dX6_stormNow_44 : decode cX6_stormNow 44 = .ok (.iaload, 1) := by decide +kernel
theorem dX6_stormNow_45 : decode cX6_stormNow 45 = .ok (.ireturn, 1) := by decide +kernel
theorem dX6_stormNow_46 : decode cX6_stormNow 46 = .ok (.aload_n 0, 1) := by decide +kernel
theorem dX6_stormNow_47 : decode cX6_stormNow 47 = .ok (.iload_n 1, 1) := by decide +kernel
theorem dX6_stormNow_48 : decode cX6_stormNow 48 = .ok (.invokevirtual 154, 3) := by decide +kernel
theorem dX6_stormNow_51 : decode cX6_stormNow 51 = .ok (.ireturn, 1) := by decide +kernel
theorem dX6_stormNow_52 : decode cX6_stormNow 52 = .ok (.aload_n 0, 1) := by decide +kernel
theorem dX6_stormNow_53 : decode cX6_stormNow 53 = .ok (.iload_n 1, 1) := by decide +kernel
theorem dX6_stormNow_54 : decode cX6_stormNow 54 = .ok (.invokevirtual 157, 3) := by decide +kernel
theorem dX6_stormNow_57 : decode cX6_stormNow 57 = .ok (.ireturn, 1) := by decide +kernel
theorem dX6_stormNow_58 : decode cX6_stormNow 58 = .ok (.iload_n 2, 1) := by decide +kernel
theorem dX6_stormNow_59 : decode cX6_stormNow 59 = .ok (.bipush 20, 2) := by decide +kernel
theorem dX6_stormNow_61 : decode cX6_stormNow 61 = .ok (.if_icmp .ge 15, 3) := by decide +kernel
theorem dX6_stormNow_64 : decode cX6_stormNow 64 = .ok (.aload_n 0, 1) := by decide +kernel
theorem dX6_stormNow_65 : decode cX6_stormNow 65 = .ok (.iload_n 1, 1) := by decide +kernel
theorem dX6_stormNow_66 : decode cX6_stormNow 66 = .ok (.iload_n 2, 1) := by decide +kernel
theorem dX6_stormNow_67 : decode cX6_stormNow 67 = .ok (.bipush 10, 2) := by decide +kernel
theorem dX6_stormNow_69 : decode cX6_stormNow 69 = .ok (.isub, 1) := by decide +kernel
theorem dX6_stormNow_70 : decode cX6_stormNow 70 = .ok (.invokevirtual 147, 3) := by decide +kernel
theorem dX6_stormNow_73 : decode cX6_stormNow 73 = .ok (.goto 12, 3) := by decide +kernel
theorem dX6_stormNow_76 : decode cX6_stormNow 76 = .ok (.aload_n 0, 1) := by decide +kernel
theorem dX6_stormNow_77 : decode cX6_stormNow 77 = .ok (.iload_n 1, 1) := by decide +kernel
theorem dX6_stormNow_78 : decode cX6_stormNow 78 = .ok (.iload_n 2, 1) := by decide +kernel
theorem dX6_stormNow_79 : decode cX6_stormNow 79 = .ok (.bipush 20, 2) := by decide +kernel
theorem dX6_stormNow_81 : decode cX6_stormNow 81 = .ok (.isub, 1) := by decide +kernel
theorem dX6_stormNow_82 : decode cX6_stormNow 82 = .ok (.invokevirtual 151, 3) := by decide +kernel
theorem dX6_stormNow_85 : decode cX6_stormNow 85 = .ok (.ireturn, 1) := by decide +kernel
set_option maxRecDepth 20000 in
theorem ggX6_storm_X6_isStorm : GoodIn wsX6_storm wsX6_isStorm := goodIn_r _ [7, 8, 9, 10, 6, 11, 36, 37, 38, 39, 40, 41, 42, 43, 44, 45, 46, 47, 48, 49, 50, 51, 52, 53, 54, 55, 56, 57, 58, 59, 60, 61, 62, 63, 64, 65, 66, 67, 68] (by decide +kernel) (by decide +kernel)
set_option maxRecDepth 20000 in
theorem gX6_storm_X6_isStorm : GoodIn wsX6_storm (wsV RX6 133 RX6 yX6_isStorm wsX6_isStorm) := goodIn_app (goodIn_of _ (by decide +kernel)) ggX6_storm_X6_isStorm
set_option maxRecDepth 20000 in
theorem ggX6_storm_X6_within : GoodIn wsX6_storm wsX6_within := goodIn_r _ [11] (by decide +kernel) (by decide +kernel)
set_option maxRecDepth 20000 in
theorem gX6_storm_X6_within : GoodIn wsX6_storm (va_wsS RX6 59 yX6_within wsX6_within) := goodIn_app (goodIn_of _ (by decide +kernel)) ggX6_storm_X6_within
set_option maxRecDepth 20000 in
theorem ggX6_storm_X6_stormNow : GoodIn wsX6_storm wsX6_stormNow := goodIn_r _ [15, 16, 17, 18, 19, 20, 6, 21, 22, 23, 24, 25, 26, 9, 10, 11, 27, 28, 29, 30, 31, 32, 33, 34, 35, 36, 37, 38, 39, 40, 41, 42, 43, 44, 45, 46, 47, 48, 49, 50, 51, 52, 53, 54, 55, 56, 57, 58, 59, 60, 61, 62, 63, 64, 65, 66, 67, 68] (by decide +kernel) (by decide +kernel)
set_option maxRecDepth 20000 in
theorem gX6_storm_X6_stormNow : GoodIn wsX6_storm (wsV RX6 160 RX6 yX6_stormNow wsX6_stormNow) := goodIn_app (goodIn_of _ (by decide +kernel)) ggX6_storm_X6_stormNow
theorem dX6_storm_0 : decode cX6_storm 0 = .ok (.aload_n 0, 1) := by decide +kernel
theorem dX6_storm_1 : decode cX6_storm 1 = .ok (.iload_n 1, 1) := by decide +kernel
theorem dX6_storm_2 : decode cX6_storm 2 = .ok (.invokevirtual 133, 3) := by decide +kernel
theorem dX6_storm_5 : decode cX6_storm 5 = .ok (.ifCond .ne 6, 3) := by decide +kernel
theorem dX6_storm_8 : decode cX6_storm 8 = .ok (.ldc 136, 2) := by decide +kernel
theorem dX6_storm_10 : decode cX6_storm 10 = .ok (.ireturn, 1) := by decide +kernel
theorem dX6_storm_11 : decode cX6_storm 11 = .ok (.iload_n 2, 1) := by decide +kernel
theorem dX6_storm_12 : decode cX6_storm 12 = .ok (.iconst 0, 1) := by decide +kernel
theorem dX6_storm_13 : decode cX6_storm 13 = .ok (.iconst 3, 1) := by decide +kernel
theorem dX6_storm_14 : decode cX6_storm 14 = .ok (.invokestatic 59, 3) := by decide +kernel
theorem dX6_storm_17 : decode cX6_storm 17 = .ok (.ifCond .ne 25, 3) := by decide +kernel
theorem dX6_storm_20 : decode cX6_storm 20 = .ok (.iload_n 2, 1) := by decide +kernel
theorem dX6_storm_21 : decode cX6_storm 21 = .ok (.bipush 10, 2) := by decide +kernel
theorem dX6_storm_23 : decode cX6_storm 23 = .ok (.bipush 12, 2) := by decide +kernel
theorem dX6_storm_25 : decode cX6_storm 25 = .ok (.invokestatic 59, 3) := by decide +kernel
theorem dX6_storm_28 : decode cX6_storm 28 = .ok (.ifCond .ne 14, 3) := by decide +kernel
theorem dX6_storm_31 : decode cX6_storm 31 = .ok (.iload_n 2, 1) := by decide +kernel
theorem dX6_storm_32 : decode cX6_storm 32 = .ok (.bipush 20, 2) := by decide +kernel
theorem dX6_storm_34 : decode cX6_storm 34 = .ok (.bipush 27, 2) := by decide +kernel
theorem dX6_storm_36 : decode cX6_storm 36 = .ok (.invokestatic 59, 3) := by decide +kernel
theorem dX6_storm_39 : decode cX6_storm 39 = .ok (.ifCond .eq 7, 3) := by decide +kernel
theorem dX6_storm_42 : decode cX6_storm 42 = .ok (.iconst 1, 1) := by decide +kernel
theorem dX6_storm_43 : decode cX6_storm 43 = .ok (.goto 4, 3) := by decide +kernel
theorem dX6_storm_46 : decode cX6_storm 46 = .ok (.iconst 0, 1) := by decide +kernel
theorem dX6_storm_47 : decode cX6_storm 47 = .ok (.istore_n 3, 1) := by decide +kernel
theorem dX6_storm_48 : decode cX6_storm 48 = .ok (.iload_n 3, 1) := by decide +kernel
theorem dX6_storm_49 : decode cX6_storm 49 = .ok (.ifCond .eq 12, 3) := by decide +kernel
theorem dX6_storm_52 : decode cX6_storm 52 = .ok (.aload_n 0, 1) := by decide +kernel
theorem dX6_storm_53 : decode cX6_storm 53 = .ok (.iload_n 1, 1) := by decide +kernel
theorem dX6_storm_54 : decode cX6_storm 54 = .ok (.iload_n 2, 1) := by decide +kernel
theorem dX6_storm_55 : decode cX6_storm 55 = .ok (.invokevirtual 160, 3) := by decide +kernel
theorem dX6_storm_58 : decode cX6_storm 58 = .ok (.goto 5, 3) := by decide +kernel
theorem dX6_storm_61 : decode cX6_storm 61 = .ok (.ldc 63, 2) := by decide +kernel
theorem dX6_storm_63 : decode cX6_storm 63 = .ok (.ireturn, 1) := by decide +kernel
set_option maxRecDepth 20000 in
theorem ggX6_isDivided_X6_runoffAt : GoodIn wsX6_isDivided wsX6_runoffAt := goodIn_r _ [9, 10, 11, 12, 8, 13, 19, 20, 21, 22, 23, 24, 25, 26, 27, 28, 29, 30, 31, 32, 33, 34, 35, 36, 37, 38, 39, 40, 41, 42, 43, 44, 45, 46, 47, 48, 49, 50, 51] (by decide +kernel) (by decide +kernel)
set_option maxRecDepth 20000 in
theorem gX6_isDivided_X6_runoffAt : GoodIn wsX6_isDivided (wsV RX6 151 RX6 yX6_runoffAt wsX6_runoffAt) := goodIn_app (goodIn_of _ (by decide +kernel)) ggX6_isDivided_X6_runoffAt
set_option maxRecDepth 20000 in
theorem ggX6_isDivided_X6_within : GoodIn wsX6_isDivided wsX6_within := goodIn_r _ [13] (by decide +kernel) (by decide +kernel)
set_option maxRecDepth 20000 in
theorem gX6_isDivided_X6_within : GoodIn wsX6_isDivided (va_wsS RX6 59 yX6_within wsX6_within) := goodIn_app (goodIn_of _ (by decide +kernel)) ggX6_isDivided_X6_within
set_option maxRecDepth 20000 in
theorem ggX6_isDivided_X6_rainAt : GoodIn wsX6_isDivided wsX6_rainAt := goodIn_r _ [17, 18, 11, 12, 8, 13, 19, 20, 21, 22, 23, 24, 25, 26, 27, 28, 29, 30, 31, 32, 33, 34, 35, 36, 37, 38, 39, 40, 41, 42, 43, 44, 45, 46, 47, 48, 49, 50, 51] (by decide +kernel) (by decide +kernel)
set_option maxRecDepth 20000 in
theorem gX6_isDivided_X6_rainAt : GoodIn wsX6_isDivided (wsV RX6 147 RX6 yX6_rainAt wsX6_rainAt) := goodIn_app (goodIn_of _ (by decide +kernel)) ggX6_isDivided_X6_rainAt
theorem dX6_isDivided_0 : decode cX6_isDivided 0 = .ok (.aload_n 0, 1) := by decide +kernel
theorem dX6_isDivided_1 : decode cX6_isDivided 1 = .ok (.aload_n 0, 1) := by decide +kernel
theorem dX6_isDivided_2 : decode cX6_isDivided 2 = .ok (.getfield 19, 3) := by decide +kernel
theorem dX6_isDivided_5 : decode cX6_isDivided 5 = .ok (.iload_n 1, 1) := by decide +kernel
theorem dX6_isDivided_6 : decode cX6_isDivided 6 = .ok (.iaload, 1) := by decide +kernel
theorem dX6_isDivided_7 : decode cX6_isDivided 7 = .ok (.aload_n 0, 1) := by decide +kernel
theorem dX6_isDivided_8 : decode cX6_isDivided 8 = .ok (.getfield 13, 3) := by decide +kernel
theorem dX6_isDivided_11 : decode cX6_isDivided 11 = .ok (.iload_n 1, 1) := by decide +kernel
theorem dX6_isDivided_12 : decode cX6_isDivided 12 = .ok (.iaload, 1) := by decide +kernel
theorem dX6_isDivided_13 : decode cX6_isDivided 13 = .ok (.isub, 1) := by decide +kernel
theorem dX6_isDivided_14 : decode cX6_isDivided 14 = .ok (.iconst 1, 1) := by decide +kernel
theorem dX6_isDivided_15 : decode cX6_isDivided 15 = .ok (.iadd, 1) := by decide +kernel
theorem dX6_isDivided_16 : decode cX6_isDivided 16 = .ok (.putfield 163, 3) := by decide +kernel
theorem dX6_isDivided_19 : decode cX6_isDivided 19 = .ok (.aload_n 0, 1) := by decide +kernel
theorem dX6_isDivided_20 : decode cX6_isDivided 20 = .ok (.getfield 163, 3) := by decide +kernel
theorem dX6_isDivided_23 : decode cX6_isDivided 23 = .ok (.iconst 1, 1) := by decide +kernel
theorem dX6_isDivided_24 : decode cX6_isDivided 24 = .ok (.if_icmp .ge 5, 3) := by decide +kernel
theorem dX6_isDivided_27 : decode cX6_isDivided 27 = .ok (.iconst 0, 1) := by decide +kernel
theorem dX6_isDivided_28 : decode cX6_isDivided 28 = .ok (.ireturn, 1) := by decide +kernel
theorem dX6_isDivided_29 : decode cX6_isDivided 29 = .ok (.iconst 0, 1) := by decide +kernel
theorem dX6_isDivided_30 : decode cX6_isDivided 30 = .ok (.istore_n 2, 1) := by decide +kernel
theorem dX6_isDivided_31 : decode cX6_isDivided 31 = .ok (.iload_n 2, 1) := by decide +kernel
theorem dX6_isDivided_32 : decode cX6_isDivided 32 = .ok (.aload_n 0, 1) := by decide +kernel
theorem dX6_isDivided_33 : decode cX6_isDivided 33 = .ok (.getfield 19, 3) := by decide +kernel
theorem dX6_isDivided_36 : decode cX6_isDivided 36 = .ok (.iload_n 1, 1) := by decide +kernel
theorem dX6_isDivided_37 : decode cX6_isDivided 37 = .ok (.iaload, 1) := by decide +kernel
theorem dX6_isDivided_38 : decode cX6_isDivided 38 = .ok (.if_icmp .ge 131, 3) := by decide +kernel
theorem dX6_isDivided_41 : decode cX6_isDivided 41 = .ok (.aload_n 0, 1) := by decide +kernel
theorem dX6_isDivided_42 : decode cX6_isDivided 42 = .ok (.iload_n 1, 1) := by decide +kernel
theorem dX6_isDivided_43 : decode cX6_isDivided 43 = .ok (.iload_n 2, 1) := by decide +kernel
theorem dX6_isDivided_44 : decode cX6_isDivided 44 = .ok (.invokevirtual 151, 3) := by decide +kernel
theorem dX6_isDivided_47 : decode cX6_isDivided 47 = .ok (.istore_n 3, 1) := by decide +kernel
theorem dX6_isDivided_48 : decode cX6_isDivided 48 = .ok (.iconst 1, 1) := by decide +kernel
theorem dX6_isDivided_49 : decode cX6_isDivided 49 = .ok (.istore 4, 2) := by decide +kernel
theorem dX6_isDivided_51 : decode cX6_isDivided 51 = .ok (.iload 4, 2) := by decide +kernel
theorem dX6_isDivided_53 : decode cX6_isDivided 53 = .ok (.aload_n 0, 1) := by decide +kernel
theorem dX6_isDivided_54 : decode cX6_isDivided 54 = .ok (.getfield 13, 3) := by decide +kernel
theorem dX6_isDivided_57 : decode cX6_isDivided 57 = .ok (.iload_n 1, 1) := by decide +kernel
theorem dX6_isDivided_58 : decode cX6_isDivided 58 = .ok (.iaload, 1) := by decide +kernel
theorem dX6_isDivided_59 : decode cX6_isDivided 59 = .ok (.if_icmp .ge 50, 3) := by decide +kernel
theorem dX6_isDivided_62 : decode cX6_isDivided 62 = .ok (.iload_n 3, 1) := by decide +kernel
theorem dX6_isDivided_63 : decode cX6_isDivided 63 = .ok (.iload_n 2, 1) := by decide +kernel
theorem dX6_isDivided_64 : decode cX6_isDivided 64 = .ok (.iload 4, 2) := by decide +kernel
theorem dX6_isDivided_66 : decode cX6_isDivided 66 = .ok (.isub, 1) := by decide +kernel
theorem dX6_isDivided_67 : decode cX6_isDivided 67 = .ok (.iconst 0, 1) := by decide +kernel
theorem dX6_isDivided_68 : decode cX6_isDivided 68 = .ok (.aload_n 0, 1) := by decide +kernel
theorem dX6_isDivided_69 : decode cX6_isDivided 69 = .ok (.getfield 163, 3) := by decide +kernel
theorem dX6_isDivided_72 : decode cX6_isDivided 72 = .ok (.iconst 1, 1) := by decide +kernel
theorem dX6_isDivided_73 : decode cX6_isDivided 73 = .ok (.isub, 1) := by decide +kernel
