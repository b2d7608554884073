theorem dX6_isDivided_74 : decode cX6_isDivided 74 = .ok (.invokestatic 59, 3) := by decide +kernel
theorem dX6_isDivided_77 : decode cX6_isDivided 77 = .ok (.ifCond .eq 23, 3) := by decide +kernel
theorem dX6_isDivided_80 : decode cX6_isDivided 80 = .ok (.aload_n 0, 1) := by decide +kernel
theorem dX6_isDivided_81 : decode cX6_isDivided 81 = .ok (.iload_n 1, 1) := by decide +kernel
theorem dX6_isDivided_82 : decode cX6_isDivided 82 = .ok (.iload 4, 2) := by decide +kernel
theorem dX6_isDivided_84 : decode cX6_isDivided 84 = .ok (.invokevirtual 147, 3) := by decide +kernel
theorem dX6_isDivided_87 : decode cX6_isDivided 87 = .ok (.aload_n 0, 1) := by decide +kernel
theorem dX6_isDivided_88 : decode cX6_isDivided 88 = .ok (.getfield 40, 3) := by decide +kernel
theorem dX6_isDivided_91 : decode cX6_isDivided 91 = .ok (.iload_n 2, 1) := by decide +kernel
theorem dX6_isDivided_92 : decode cX6_isDivided 92 = .ok (.iload 4, 2) := by decide +kernel
theorem dX6_isDivided_94 : decode cX6_isDivided 94 = .ok (.isub, 1) := by decide +kernel
theorem dX6_isDivided_95 : decode cX6_isDivided 95 = .ok (.iaload, 1) := by decide +kernel
theorem dX6_isDivided_96 : decode cX6_isDivided 96 = .ok (.imul, 1) := by decide +kernel
theorem dX6_isDivided_97 : decode cX6_isDivided 97 = .ok (.goto 4, 3) := by decide +kernel
theorem dX6_isDivided_100 : decode cX6_isDivided 100 = .ok (.iconst 0, 1) := by decide +kernel
theorem dX6_isDivided_101 : decode cX6_isDivided 101 = .ok (.isub, 1) := by decide +kernel
theorem dX6_isDivided_102 : decode cX6_isDivided 102 = .ok (.istore_n 3, 1) := by decide +kernel
theorem dX6_isDivided_103 : decode cX6_isDivided 103 = .ok (.iinc 4 1, 3) := by decide +kernel
theorem dX6_isDivided_106 : decode cX6_isDivided 106 = .ok (.goto (-55), 3) := by decide +kernel
theorem dX6_isDivided_109 : decode cX6_isDivided 109 = .ok (.iload_n 2, 1) := by decide +kernel
theorem dX6_isDivided_110 : decode cX6_isDivided 110 = .ok (.aload_n 0, 1) := by decide +kernel
theorem dX6_isDivided_111 : decode cX6_isDivided 111 = .ok (.getfield 163, 3) := by decide +kernel
theorem dX6_isDivided_114 : decode cX6_isDivided 114 = .ok (.if_icmp .ge 17, 3) := by decide +kernel
theorem dX6_isDivided_117 : decode cX6_isDivided 117 = .ok (.iload_n 3, 1) := by decide +kernel
theorem dX6_isDivided_118 : decode cX6_isDivided 118 = .ok (.aload_n 0, 1) := by decide +kernel
theorem dX6_isDivided_119 : decode cX6_isDivided 119 = .ok (.iload_n 1, 1) := by decide +kernel
theorem dX6_isDivided_120 : decode cX6_isDivided 120 = .ok (.iconst 0, 1) := by decide +kernel
theorem dX6_isDivided_121 : decode cX6_isDivided 121 = .ok (.invokevirtual 147, 3) := by decide +kernel
theorem dX6_isDivided_124 : decode cX6_isDivided 124 = .ok (.irem, 1) := by decide +kernel
theorem dX6_isDivided_125 : decode cX6_isDivided 125 = .ok (.ifCond .eq 12, 3) := by decide +kernel
theorem dX6_isDivided_128 : decode cX6_isDivided 128 = .ok (.goto 7, 3) := by decide +kernel
theorem dX6_isDivided_131 : decode cX6_isDivided 131 = .ok (.iload_n 3, 1) := by decide +kernel
theorem dX6_isDivided_132 : decode cX6_isDivided 132 = .ok (.ifCond .eq 5, 3) := by decide +kernel
theorem dX6_isDivided_135 : decode cX6_isDivided 135 = .ok (.iconst 0, 1) := by decide +kernel
theorem dX6_isDivided_136 : decode cX6_isDivided 136 = .ok (.ireturn, 1) := by decide +kernel
theorem dX6_isDivided_137 : decode cX6_isDivided 137 = .ok (.aload_n 0, 1) := by decide +kernel
theorem dX6_isDivided_138 : decode cX6_isDivided 138 = .ok (.getfield 40, 3) := by decide +kernel
theorem dX6_isDivided_141 : decode cX6_isDivided 141 = .ok (.iload_n 2, 1) := by decide +kernel
theorem dX6_isDivided_142 : decode cX6_isDivided 142 = .ok (.iload_n 2, 1) := by decide +kernel
theorem dX6_isDivided_143 : decode cX6_isDivided 143 = .ok (.aload_n 0, 1) := by decide +kernel
theorem dX6_isDivided_144 : decode cX6_isDivided 144 = .ok (.getfield 163, 3) := by decide +kernel
theorem dX6_isDivided_147 : decode cX6_isDivided 147 = .ok (.if_icmp .ge 14, 3) := by decide +kernel
theorem dX6_isDivided_150 : decode cX6_isDivided 150 = .ok (.iload_n 3, 1) := by decide +kernel
theorem dX6_isDivided_151 : decode cX6_isDivided 151 = .ok (.aload_n 0, 1) := by decide +kernel
theorem dX6_isDivided_152 : decode cX6_isDivided 152 = .ok (.iload_n 1, 1) := by decide +kernel
theorem dX6_isDivided_153 : decode cX6_isDivided 153 = .ok (.iconst 0, 1) := by decide +kernel
theorem dX6_isDivided_154 : decode cX6_isDivided 154 = .ok (.invokevirtual 147, 3) := by decide +kernel
theorem dX6_isDivided_157 : decode cX6_isDivided 157 = .ok (.idiv, 1) := by decide +kernel
theorem dX6_isDivided_158 : decode cX6_isDivided 158 = .ok (.goto 4, 3) := by decide +kernel
theorem dX6_isDivided_161 : decode cX6_isDivided 161 = .ok (.iconst 0, 1) := by decide +kernel
theorem dX6_isDivided_162 : decode cX6_isDivided 162 = .ok (.iastore, 1) := by decide +kernel
theorem dX6_isDivided_163 : decode cX6_isDivided 163 = .ok (.iinc 2 1, 3) := by decide +kernel
theorem dX6_isDivided_166 : decode cX6_isDivided 166 = .ok (.goto (-135), 3) := by decide +kernel
theorem dX6_isDivided_169 : decode cX6_isDivided 169 = .ok (.iconst 1, 1) := by decide +kernel
theorem dX6_isDivided_170 : decode cX6_isDivided 170 = .ok (.ireturn, 1) := by decide +kernel
set_option maxRecDepth 20000 in
theorem ggX6_dividedNow_X6_isDivided : GoodIn wsX6_dividedNow wsX6_isDivided := goodIn_r _ [8, 9, 10, 2, 3, 11, 12, 13, 7, 14, 15, 16, 17, 18, 19, 20, 21, 22, 23, 24, 25, 26, 27, 28, 29, 30, 31, 32, 33, 34, 35, 36, 37, 38, 39, 40, 41, 42, 43, 44, 45, 46, 47, 48, 49, 50, 51, 52, 53, 54, 55, 56] (by decide +kernel) (by decide +kernel)
set_option maxRecDepth 20000 in
theorem gX6_dividedNow_X6_isDivided : GoodIn wsX6_dividedNow (wsV RX6 166 RX6 yX6_isDivided wsX6_isDivided) := goodIn_app (goodIn_of _ (by decide +kernel)) ggX6_dividedNow_X6_isDivided
theorem dX6_dividedNow_0 : decode cX6_dividedNow 0 = .ok (.aload_n 0, 1) := by decide +kernel
theorem dX6_dividedNow_1 : decode cX6_dividedNow 1 = .ok (.iload_n 1, 1) := by decide +kernel
theorem dX6_dividedNow_2 : decode cX6_dividedNow 2 = .ok (.invokevirtual 166, 3) := by decide +kernel
theorem dX6_dividedNow_5 : decode cX6_dividedNow 5 = .ok (.ifCond .ne 6, 3) := by decide +kernel
theorem dX6_dividedNow_8 : decode cX6_dividedNow 8 = .ok (.ldc 169, 2) := by decide +kernel
theorem dX6_dividedNow_10 : decode cX6_dividedNow 10 = .ok (.ireturn, 1) := by decide +kernel
theorem dX6_dividedNow_11 : decode cX6_dividedNow 11 = .ok (.iload_n 2, 1) := by decide +kernel
theorem dX6_dividedNow_12 : decode cX6_dividedNow 12 = .ok (.ifCond .ne 10, 3) := by decide +kernel
theorem dX6_dividedNow_15 : decode cX6_dividedNow 15 = .ok (.aload_n 0, 1) := by decide +kernel
theorem dX6_dividedNow_16 : decode cX6_dividedNow 16 = .ok (.getfield 163, 3) := by decide +kernel
theorem dX6_dividedNow_19 : decode cX6_dividedNow 19 = .ok (.goto 28, 3) := by decide +kernel
theorem dX6_dividedNow_22 : decode cX6_dividedNow 22 = .ok (.iload_n 2, 1) := by decide +kernel
theorem dX6_dividedNow_23 : decode cX6_dividedNow 23 = .ok (.bipush 10, 2) := by decide +kernel
theorem dX6_dividedNow_25 : decode cX6_dividedNow 25 = .ok (.isub, 1) := by decide +kernel
theorem dX6_dividedNow_26 : decode cX6_dividedNow 26 = .ok (.aload_n 0, 1) := by decide +kernel
theorem dX6_dividedNow_27 : decode cX6_dividedNow 27 = .ok (.getfield 163, 3) := by decide +kernel
theorem dX6_dividedNow_30 : decode cX6_dividedNow 30 = .ok (.if_icmp .ge 15, 3) := by decide +kernel
theorem dX6_dividedNow_33 : decode cX6_dividedNow 33 = .ok (.aload_n 0, 1) := by decide +kernel
theorem dX6_dividedNow_34 : decode cX6_dividedNow 34 = .ok (.getfield 40, 3) := by decide +kernel
theorem dX6_dividedNow_37 : decode cX6_dividedNow 37 = .ok (.iload_n 2, 1) := by decide +kernel
theorem dX6_dividedNow_38 : decode cX6_dividedNow 38 = .ok (.bipush 10, 2) := by decide +kernel
theorem dX6_dividedNow_40 : decode cX6_dividedNow 40 = .ok (.isub, 1) := by decide +kernel
theorem dX6_dividedNow_41 : decode cX6_dividedNow 41 = .ok (.iaload, 1) := by decide +kernel
theorem dX6_dividedNow_42 : decode cX6_dividedNow 42 = .ok (.goto 5, 3) := by decide +kernel
theorem dX6_dividedNow_45 : decode cX6_dividedNow 45 = .ok (.ldc 169, 2) := by decide +kernel
theorem dX6_dividedNow_47 : decode cX6_dividedNow 47 = .ok (.ireturn, 1) := by decide +kernel
set_option maxRecDepth 20000 in
theorem ggX6_divided_X6_isStorm : GoodIn wsX6_divided wsX6_isStorm := goodIn_r _ [7, 8, 9, 10, 6, 11, 35, 36, 37, 38, 39, 40, 41, 42, 43, 44, 45, 46, 47, 48, 49, 50, 51, 52, 53, 54, 55, 56, 57, 58, 59, 60, 61, 62, 63, 64, 65, 66, 67] (by decide +kernel) (by decide +kernel)
set_option maxRecDepth 20000 in
theorem gX6_divided_X6_isStorm : GoodIn wsX6_divided (wsV RX6 133 RX6 yX6_isStorm wsX6_isStorm) := goodIn_app (goodIn_of _ (by decide +kernel)) ggX6_divided_X6_isStorm
set_option maxRecDepth 20000 in
theorem ggX6_divided_X6_within : GoodIn wsX6_divided wsX6_within := goodIn_r _ [11] (by decide +kernel) (by decide +kernel)
set_option maxRecDepth 20000 in
theorem gX6_divided_X6_within : GoodIn wsX6_divided (va_wsS RX6 59 yX6_within wsX6_within) := goodIn_app (goodIn_of _ (by decide +kernel)) ggX6_divided_X6_within
set_option maxRecDepth 20000 in
theorem ggX6_divided_X6_dividedNow : GoodIn wsX6_divided wsX6_dividedNow := goodIn_r _ [15, 16, 17, 18, 19, 20, 21, 6, 22, 23, 24, 25, 26, 27, 28, 29, 9, 10, 11, 30, 31, 32, 33, 34, 35, 36, 37, 38, 39, 40, 41, 42, 43, 44, 45, 46, 47, 48, 49, 50, 51, 52, 53, 54, 55, 56, 57, 58, 59, 60, 61, 62, 63, 64, 65, 66, 67] (by decide +kernel) (by decide +kernel)
set_option maxRecDepth 20000 in
theorem gX6_divided_X6_dividedNow : GoodIn wsX6_divided (wsV RX6 170 RX6 yX6_dividedNow wsX6_dividedNow) := goodIn_app (goodIn_of _ (by decide +kernel)) ggX6_divided_X6_dividedNow
theorem dX6_divided_0 : decode cX6_divided 0 = .ok (.aload_n 0, 1) := by decide +kernel
theorem dX6_divided_1 : decode cX6_divided 1 = .ok (.iload_n 1, 1) := by decide +kernel
theorem dX6_divided_2 : decode cX6_divided 2 = .ok (.invokevirtual 133, 3) := by decide +kernel
theorem dX6_divided_5 : decode cX6_divided 5 = .ok (.ifCond .ne 6, 3) := by decide +kernel
theorem dX6_divided_8 : decode cX6_divided 8 = .ok (.ldc 136, 2) := by decide +kernel
theorem dX6_divided_10 : decode cX6_divided 10 = .ok (.ireturn, 1) := by decide +kernel
theorem dX6_divided_11 : decode cX6_divided 11 = .ok (.iload_n 2, 1) := by decide +kernel
theorem dX6_divided_12 : decode cX6_divided 12 = .ok (.ifCond .eq 14, 3) := by decide +kernel
theorem dX6_divided_15 : decode cX6_divided 15 = .ok (.iload_n 2, 1) := by decide +kernel
theorem dX6_divided_16 : decode cX6_divided 16 = .ok (.bipush 10, 2) := by decide +kernel
theorem dX6_divided_18 : decode cX6_divided 18 = .ok (.bipush 17, 2) := by decide +kernel
theorem dX6_divided_20 : decode cX6_divided 20 = .ok (.invokestatic 59, 3) := by decide +kernel
theorem dX6_divided_23 : decode cX6_divided 23 = .ok (.ifCond .eq 12, 3) := by decide +kernel
theorem dX6_divided_26 : decode cX6_divided 26 = .ok (.aload_n 0, 1) := by decide +kernel
theorem dX6_divided_27 : decode cX6_divided 27 = .ok (.iload_n 1, 1) := by decide +kernel
theorem dX6_divided_28 : decode cX6_divided 28 = .ok (.iload_n 2, 1) := by decide +kernel
theorem dX6_divided_29 : decode cX6_divided 29 = .ok (.invokevirtual 170, 3) := by decide +kernel
theorem dX6_divided_32 : decode cX6_divided 32 = .ok (.goto 5, 3) := by decide +kernel
theorem dX6_divided_35 : decode cX6_divided 35 = .ok (.ldc 63, 2) := by decide +kernel
theorem dX6_divided_37 : decode cX6_divided 37 = .ok (.ireturn, 1) := by decide +kernel
set_option maxRecDepth 20000 in
theorem ggX6_partAt_X6_within : GoodIn wsX6_partAt wsX6_within := goodIn_r _ [5] (by decide +kernel) (by decide +kernel)
set_option maxRecDepth 20000 in
theorem gX6_partAt_X6_within : GoodIn wsX6_partAt (va_wsS RX6 59 yX6_within wsX6_within) := goodIn_app (goodIn_of _ (by decide +kernel)) ggX6_partAt_X6_within
theorem dX6_partAt_0 : decode cX6_partAt 0 = .ok (.iload_n 2, 1) := by decide +kernel
theorem dX6_partAt_1 : decode cX6_partAt 1 = .ok (.iconst 0, 1) := by decide +kernel
theorem dX6_partAt_2 : decode cX6_partAt 2 = .ok (.bipush 7, 2) := by decide +kernel
theorem dX6_partAt_4 : decode cX6_partAt 4 = .ok (.invokestatic 59, 3) := by decide +kernel
theorem dX6_partAt_7 : decode cX6_partAt 7 = .ok (.ifCond .eq 17, 3) := by decide +kernel
theorem dX6_partAt_10 : decode cX6_partAt 10 = .ok (.aload_n 0, 1) := by decide +kernel
theorem dX6_partAt_11 : decode cX6_partAt 11 = .ok (.getfield 31, 3) := by decide +kernel
theorem dX6_partAt_14 : decode cX6_partAt 14 = .ok (.bipush 8, 2) := by decide +kernel
theorem dX6_partAt_16 : decode cX6_partAt 16 = .ok (.iload_n 1, 1) := by decide +kernel
theorem dX6_partAt_17 : decode cX6_partAt 17 = .ok (.imul, 1) := by decide +kernel
theorem dX6_partAt_18 : decode cX6_partAt 18 = .ok (.iload_n 2, 1) := by decide +kernel
theorem dX6_partAt_19 : decode cX6_partAt 19 = .ok (.iadd, 1) := by decide +kernel
theorem dX6_partAt_20 : decode cX6_partAt 20 = .ok (.iaload, 1) := by decide +kernel
theorem dX6_partAt_21 : decode cX6_partAt 21 = .ok (.goto 4, 3) := by decide +kernel
theorem dX6_partAt_24 : decode cX6_partAt 24 = .ok (.iconst 0, 1) := by decide +kernel
theorem dX6_partAt_25 : decode cX6_partAt 25 = .ok (.ireturn, 1) := by decide +kernel
set_option maxRecDepth 20000 in
theorem ggX6_partAll_X6_partAt : GoodIn wsX6_partAll wsX6_partAt := goodIn_r _ [5, 6, 7, 8, 4, 9, 10, 11, 12, 13, 14, 15, 16, 17, 18, 19, 20, 21, 22, 23, 24, 25, 26, 27, 28, 29, 30, 31, 32, 33, 34, 35, 36, 37, 38, 39, 40, 41, 42] (by decide +kernel) (by decide +kernel)
set_option maxRecDepth 20000 in
theorem gX6_partAll_X6_partAt : GoodIn wsX6_partAll (wsV RX6 173 RX6 yX6_partAt wsX6_partAt) := goodIn_app (goodIn_of _ (by decide +kernel)) ggX6_partAll_X6_partAt
theorem dX6_partAll_0 : decode cX6_partAll 0 = .ok (.iconst 0, 1) := by decide +kernel
theorem dX6_partAll_1 : decode cX6_partAll 1 = .ok (.istore_n 2, 1) := by decide +kernel
theorem dX6_partAll_2 : decode cX6_partAll 2 = .ok (.iconst 0, 1) := by decide +kernel
theorem dX6_partAll_3 : decode cX6_partAll 3 = .ok (.istore_n 3, 1) := by decide +kernel
theorem dX6_partAll_4 : decode cX6_partAll 4 = .ok (.iload_n 3, 1) := by decide +kernel
theorem dX6_partAll_5 : decode cX6_partAll 5 = .ok (.bipush 8, 2) := by decide +kernel
theorem dX6_partAll_7 : decode cX6_partAll 7 = .ok (.if_icmp .ge 18, 3) := by decide +kernel
theorem dX6_partAll_10 : decode cX6_partAll 10 = .ok (.iload_n 2, 1) := by decide +kernel
theorem dX6_partAll_11 : decode cX6_partAll 11 = .ok (.aload_n 0, 1) := by decide +kernel
theorem dX6_partAll_12 : decode cX6_partAll 12 = .ok (.iload_n 1, 1) := by decide +kernel
theorem dX6_partAll_13 : decode cX6_partAll 13 = .ok (.iload_n 3, 1) := by decide +kernel
theorem dX6_partAll_14 : decode cX6_partAll 14 = .ok (.invokevirtual 173, 3) := by decide +kernel
theorem dX6_partAll_17 : decode cX6_partAll 17 = .ok (.iadd, 1) := by decide +kernel
theorem dX6_partAll_18 : decode cX6_partAll 18 = .ok (.istore_n 2, 1) := by decide +kernel
theorem dX6_partAll_19 : decode cX6_partAll 19 = .ok (.iinc 3 1, 3) := by decide +kernel
theorem dX6_partAll_22 : decode cX6_partAll 22 = .ok (.goto (-18), 3) := by decide +kernel
theorem dX6_partAll_25 : decode cX6_partAll 25 = .ok (.iload_n 2, 1) := by decide +kernel
theorem dX6_partAll_26 : decode cX6_partAll 26 = .ok (.ireturn, 1) := by decide +kernel
set_option maxRecDepth 20000 in
theorem ggX6_unitNow_X6_partAll : GoodIn wsX6_unitNow wsX6_partAll := goodIn_r _ [7, 8, 9, 10, 6, 11, 12, 13, 14, 15, 16, 17, 18, 19, 20, 21, 22, 23, 24, 25, 26, 27, 28, 29, 30, 31, 32, 33, 34, 35, 36, 37, 38, 39, 40, 41, 42, 43, 44, 45, 46, 47, 48] (by decide +kernel) (by decide +kernel)
set_option maxRecDepth 20000 in
theorem gX6_unitNow_X6_partAll : GoodIn wsX6_unitNow (wsV RX6 176 RX6 yX6_partAll wsX6_partAll) := goodIn_app (goodIn_of _ (by decide +kernel)) ggX6_unitNow_X6_partAll
set_option maxRecDepth 20000 in
theorem ggX6_unitNow_X6_partAt : GoodIn wsX6_unitNow wsX6_partAt := goodIn_r _ [11, 12, 13, 14, 6, 15, 16, 17, 18, 19, 20, 21, 22, 23, 24, 25, 26, 27, 28, 29, 30, 31, 32, 33, 34, 35, 36, 37, 38, 39, 40, 41, 42, 43, 44, 45, 46, 47, 48] (by decide +kernel) (by decide +kernel)
set_option maxRecDepth 20000 in
theorem gX6_unitNow_X6_partAt : GoodIn wsX6_unitNow (wsV RX6 173 RX6 yX6_partAt wsX6_partAt) := goodIn_app (goodIn_of _ (by decide +kernel)) ggX6_unitNow_X6_partAt
theorem dX6_unitNow_0 : decode cX6_unitNow 0 = .ok (.iload_n 2, 1) := by decide +kernel
theorem dX6_unitNow_1 : decode cX6_unitNow 1 = .ok (.ifCond .ne 12, 3) := by decide +kernel
theorem dX6_unitNow_4 : decode cX6_unitNow 4 = .ok (.aload_n 0, 1) := by decide +kernel
theorem dX6_unitNow_5 : decode cX6_unitNow 5 = .ok (.getfield 25, 3) := by decide +kernel
theorem dX6_unitNow_8 : decode cX6_unitNow 8 = .ok (.iload_n 1, 1) := by decide +kernel
theorem dX6_unitNow_9 : decode cX6_unitNow 9 = .ok (.iaload, 1) := by decide +kernel
theorem dX6_unitNow_10 : decode cX6_unitNow 10 = .ok (.goto 39, 3) := by decide +kernel
theorem dX6_unitNow_13 : decode cX6_unitNow 13 = .ok (.iload_n 2, 1) := by decide +kernel
theorem dX6_unitNow_14 : decode cX6_unitNow 14 = .ok (.iconst 1, 1) := by decide +kernel
theorem dX6_unitNow_15 : decode cX6_unitNow 15 = .ok (.if_icmp .ne 12, 3) := by decide +kernel
theorem dX6_unitNow_18 : decode cX6_unitNow 18 = .ok (.aload_n 0, 1) := by decide +kernel
theorem dX6_unitNow_19 : decode cX6_unitNow 19 = .ok (.getfield 28, 3) := by decide +kernel
theorem dX6_unitNow_22 : decode cX6_unitNow 22 = .ok (.iload_n 1, 1) := by decide +kernel
theorem dX6_unitNow_23 : decode cX6_unitNow 23 = .ok (.iaload, 1) := by decide +kernel
theorem dX6_unitNow_24 : decode cX6_unitNow 24 = .ok (.goto 25, 3) := by decide +kernel
theorem dX6_unitNow_27 : decode cX6_unitNow 27 = .ok (.iload_n 2, 1) := by decide +kernel
theorem dX6_unitNow_28 : decode cX6_unitNow 28 = .ok (.iconst 2, 1) := by decide +kernel
theorem dX6_unitNow_29 : decode cX6_unitNow 29 = .ok (.if_icmp .ne 11, 3) := by decide +kernel
theorem dX6_unitNow_32 : decode cX6_unitNow 32 = .ok (.aload_n 0, 1) := by decide +kernel
theorem dX6_unitNow_33 : decode cX6_unitNow 33 = .ok (.iload_n 1, 1) := by decide +kernel
theorem dX6_unitNow_34 : decode cX6_unitNow 34 = .ok (.invokevirtual 176, 3) := by decide +kernel
theorem dX6_unitNow_37 : decode cX6_unitNow 37 = .ok (.goto 12, 3) := by decide +kernel
theorem dX6_unitNow_40 : decode cX6_unitNow 40 = .ok (.aload_n 0, 1) := by decide +kernel
theorem dX6_unitNow_41 : decode cX6_unitNow 41 = .ok (.iload_n 1, 1) := by decide +kernel
theorem dX6_unitNow_42 : decode cX6_unitNow 42 = .ok (.iload_n 2, 1) := by decide +kernel
theorem dX6_unitNow_43 : decode cX6_unitNow 43 = .ok (.bipush 10, 2) := by decide +kernel
theorem dX6_unitNow_45 : decode cX6_unitNow 45 = .ok (.isub, 1) := by decide +kernel
theorem dX6_unitNow_46 : decode cX6_unitNow 46 = .ok (.invokevirtual 173, 3) := by decide +kernel
theorem dX6_unitNow_49 : decode cX6_unitNow 49 = .ok (.ireturn, 1) := by decide +kernel
set_option maxRecDepth 20000 in
theorem ggX6_unit_X6_isUnitThere : GoodIn wsX6_unit wsX6_isUnitThere := goodIn_r _ [7, 8, 9, 10, 6, 11, 27, 28, 29, 30, 31, 32, 33, 34, 35, 36, 37, 38, 39, 40, 41, 42, 43, 44, 45, 46, 47, 48, 49, 50, 51, 52, 53, 54, 55, 56, 57, 58, 59] (by decide +kernel) (by decide +kernel)
set_option maxRecDepth 20000 in
theorem gX6_unit_X6_isUnitThere : GoodIn wsX6_unit (wsV RX6 130 RX6 yX6_isUnitThere wsX6_isUnitThere) := goodIn_app (goodIn_of _ (by decide +kernel)) ggX6_unit_X6_isUnitThere
set_option maxRecDepth 20000 in
theorem ggX6_unit_X6_within : GoodIn wsX6_unit wsX6_within := goodIn_r _ [11] (by decide +kernel) (by decide +kernel)
set_option maxRecDepth 20000 in
theorem gX6_unit_X6_within : GoodIn wsX6_unit (va_wsS RX6 59 yX6_within wsX6_within) := goodIn_app (goodIn_of _ (by decide +kernel)) ggX6_unit_X6_within
set_option maxRecDepth 20000 in
theorem ggX6_unit_X6_unitNow : GoodIn wsX6_unit wsX6_unitNow := goodIn_r _ [15, 16, 17, 18, 19, 20, 6, 21, 22, 23, 24, 25, 26, 9, 10, 11, 27, 28, 29, 30, 31, 32, 33, 34, 35, 36, 37, 38, 39, 40, 41, 42, 43, 44, 45, 46, 47, 48, 49, 50, 51, 52, 53, 54, 55, 56, 57, 58, 59] (by decide +kernel) (by decide +kernel)
set_option maxRecDepth 20000 in
theorem gX6_unit_X6_unitNow : GoodIn wsX6_unit (wsV RX6 179 RX6 yX6_unitNow wsX6_unitNow) := goodIn_app (goodIn_of _ (by decide +kernel)) ggX6_unit_X6_unitNow
theorem dX6_unit_0 : decode cX6_unit 0 = .ok (.aload_n 0, 1) := by decide +kernel
theorem dX6_unit_1 : decode cX6_unit 1 = .ok (.iload_n 1, 1) := by decide +kernel
theorem dX6_unit_2 : decode cX6_unit 2 = .ok (.invokevirtual 130, 3) := by decide +kernel
theorem dX6_unit_5 : decode cX6_unit 5 = .ok (.ifCond .ne 6, 3) := by decide +kernel
theorem dX6_unit_8 : decode cX6_unit 8 = .ok (.ldc 136, 2) := by decide +kernel
theorem dX6_unit_10 : decode cX6_unit 10 = .ok (.ireturn, 1) := by decide +kernel
theorem dX6_unit_11 : decode cX6_unit 11 = .ok (.iload_n 2, 1) := by decide +kernel
theorem dX6_unit_12 : decode cX6_unit 12 = .ok (.iconst 0, 1) := by decide +kernel
theorem dX6_unit_13 : decode cX6_unit 13 = .ok (.iconst 2, 1) := by decide +kernel
theorem dX6_unit_14 : decode cX6_unit 14 = .ok (.invokestatic 59, 3) := by decide +kernel
theorem dX6_unit_17 : decode cX6_unit 17 = .ok (.ifCond .ne 14, 3) := by decide +kernel
theorem dX6_unit_20 : decode cX6_unit 20 = .ok (.iload_n 2, 1) := by decide +kernel
theorem dX6_unit_21 : decode cX6_unit 21 = .ok (.bipush 10, 2) := by decide +kernel
theorem dX6_unit_23 : decode cX6_unit 23 = .ok (.bipush 17, 2) := by decide +kernel
theorem dX6_unit_25 : decode cX6_unit 25 = .ok (.invokestatic 59, 3) := by decide +kernel
theorem dX6_unit_28 : decode cX6_unit 28 = .ok (.ifCond .eq 12, 3) := by decide +kernel
theorem dX6_unit_31 : decode cX6_unit 31 = .ok (.aload_n 0, 1) := by decide +kernel
theorem dX6_unit_32 : decode cX6_unit 32 = .ok (.iload_n 1, 1) := by decide +kernel
theorem dX6_unit_33 : decode cX6_unit 33 = .ok (.iload_n 2, 1) := by decide +kernel
theorem dX6_unit_34 : decode cX6_unit 34 = .ok (.invokevirtual 179, 3) := by decide +kernel
theorem dX6_unit_37 : decode cX6_unit 37 = .ok (.goto 5, 3) := by decide +kernel
theorem dX6_unit_40 : decode cX6_unit 40 = .ok (.ldc 63, 2) := by decide +kernel
theorem dX6_unit_42 : decode cX6_unit 42 = .ok (.ireturn, 1) := by decide +kernel
set_option maxRecDepth 20000 in
theorem ggX6_madeAt_X6_rainAt : GoodIn wsX6_madeAt wsX6_rainAt := goodIn_r _ [5, 6, 7, 8, 4, 9, 15, 16, 17, 18, 19, 20, 21, 22, 23, 24, 25, 26, 27, 28, 29, 30, 31, 32, 33, 34, 35, 36, 37, 38, 39, 40, 41, 42, 43, 44, 45, 46, 47] (by decide +kernel) (by decide +kernel)
set_option maxRecDepth 20000 in
theorem gX6_madeAt_X6_rainAt : GoodIn wsX6_madeAt (wsV RX6 147 RX6 yX6_rainAt wsX6_rainAt) := goodIn_app (goodIn_of _ (by decide +kernel)) ggX6_madeAt_X6_rainAt
set_option maxRecDepth 20000 in
theorem ggX6_madeAt_X6_partAt : GoodIn wsX6_madeAt wsX6_partAt := goodIn_r _ [13, 14, 7, 8, 4, 9, 15, 16, 17, 18, 19, 20, 21, 22, 23, 24, 25, 26, 27, 28, 29, 30, 31, 32, 33, 34, 35, 36, 37, 38, 39, 40, 41, 42, 43, 44, 45, 46, 47] (by decide +kernel) (by decide +kernel)
set_option maxRecDepth 20000 in
theorem gX6_madeAt_X6_partAt : GoodIn wsX6_madeAt (wsV RX6 173 RX6 yX6_partAt wsX6_partAt) := goodIn_app (goodIn_of _ (by decide +kernel)) ggX6_madeAt_X6_partAt
theorem dX6_madeAt_0 : decode cX6_madeAt 0 = .ok (.iconst 0, 1) := by decide +kernel
theorem dX6_madeAt_1 : decode cX6_madeAt 1 = .ok (.istore 4, 2) := by decide +kernel
theorem dX6_madeAt_3 : decode cX6_madeAt 3 = .ok (.iconst 0, 1) := by decide +kernel
theorem dX6_madeAt_4 : decode cX6_madeAt 4 = .ok (.istore 5, 2) := by decide +kernel
theorem dX6_madeAt_6 : decode cX6_madeAt 6 = .ok (.iload 5, 2) := by decide +kernel
theorem dX6_madeAt_8 : decode cX6_madeAt 8 = .ok (.iconst 3, 1) := by decide +kernel
theorem dX6_madeAt_9 : decode cX6_madeAt 9 = .ok (.if_icmp .ge 31, 3) := by decide +kernel
theorem dX6_madeAt_12 : decode cX6_madeAt 12 = .ok (.iload 4, 2) := by decide +kernel
theorem dX6_madeAt_14 : decode cX6_madeAt 14 = .ok (.aload_n 0, 1) := by decide +kernel
theorem dX6_madeAt_15 : decode cX6_madeAt 15 = .ok (.iload_n 2, 1) := by decide +kernel
theorem dX6_madeAt_16 : decode cX6_madeAt 16 = .ok (.iload 5, 2) := by decide +kernel
theorem dX6_madeAt_18 : decode cX6_madeAt 18 = .ok (.invokevirtual 147, 3) := by decide +kernel
theorem dX6_madeAt_21 : decode cX6_madeAt 21 = .ok (.aload_n 0, 1) := by decide +kernel
theorem dX6_madeAt_22 : decode cX6_madeAt 22 = .ok (.iload_n 1, 1) := by decide +kernel
theorem dX6_madeAt_23 : decode cX6_madeAt 23 = .ok (.iload_n 3, 1) := by decide +kernel
theorem dX6_madeAt_24 : decode cX6_madeAt 24 = .ok (.iload 5, 2) := by decide +kernel
theorem dX6_madeAt_26 : decode cX6_madeAt 26 = .ok (.isub, 1) := by decide +kernel
theorem dX6_madeAt_27 : decode cX6_madeAt 27 = .ok (.invokevirtual 173, 3) := by decide +kernel
theorem dX6_madeAt_30 : decode cX6_madeAt 30 = .ok (.imul, 1) := by decide +kernel
theorem dX6_madeAt_31 : decode cX6_madeAt 31 = .ok (.iadd, 1) := by decide +kernel
theorem dX6_madeAt_32 : decode cX6_madeAt 32 = .ok (.istore 4, 2) := by decide +kernel
theorem dX6_madeAt_34 : decode cX6_madeAt 34 = .ok (.iinc 5 1, 3) := by decide +kernel
theorem dX6_madeAt_37 : decode cX6_madeAt 37 = .ok (.goto (-31), 3) := by decide +kernel
theorem dX6_madeAt_40 : decode cX6_madeAt 40 = .ok (.iload 4, 2) := by decide +kernel
theorem dX6_madeAt_42 : decode cX6_madeAt 42 = .ok (.ireturn, 1) := by decide +kernel
set_option maxRecDepth 20000 in
theorem ggX6_made_X6_isUnitThere : GoodIn wsX6_made wsX6_isUnitThere := goodIn_r _ [7, 8, 9, 10, 6, 11, 31, 32, 33, 34, 35, 36, 37, 38, 39, 40, 41, 42, 43, 44, 45, 46, 47, 48, 49, 50, 51, 52, 53, 54, 55, 56, 57, 58, 59, 60, 61, 62, 63] (by decide +kernel) (by decide +kernel)
set_option maxRecDepth 20000 in
theorem gX6_made_X6_isUnitThere : GoodIn wsX6_made (wsV RX6 130 RX6 yX6_isUnitThere wsX6_isUnitThere) := goodIn_app (goodIn_of _ (by decide +kernel)) ggX6_made_X6_isUnitThere
set_option maxRecDepth 20000 in
theorem ggX6_made_X6_isStorm : GoodIn wsX6_made wsX6_isStorm := goodIn_r _ [15, 16, 9, 10, 6, 11, 31, 32, 33, 34, 35, 36, 37, 38, 39, 40, 41, 42, 43, 44, 45, 46, 47, 48, 49, 50, 51, 52, 53, 54, 55, 56, 57, 58, 59, 60, 61, 62, 63] (by decide +kernel) (by decide +kernel)
set_option maxRecDepth 20000 in
theorem gX6_made_X6_isStorm : GoodIn wsX6_made (wsV RX6 133 RX6 yX6_isStorm wsX6_isStorm) := goodIn_app (goodIn_of _ (by decide +kernel)) ggX6_made_X6_isStorm
set_option maxRecDepth 20000 in
theorem ggX6_made_X6_within : GoodIn wsX6_made wsX6_within := goodIn_r _ [11] (by decide +kernel) (by decide +kernel)
set_option maxRecDepth 20000 in
theorem gX6_made_X6_within : GoodIn wsX6_made (va_wsS RX6 59 yX6_within wsX6_within) := goodIn_app (goodIn_of _ (by decide +kernel)) ggX6_made_X6_within
set_option maxRecDepth 20000 in
theorem ggX6_made_X6_madeAt : GoodIn wsX6_made wsX6_madeAt := goodIn_r _ [20, 21, 22, 23, 6, 24, 25, 9, 10, 11, 26, 27, 28, 29, 30, 31, 32, 33, 34, 35, 36, 37, 38, 39, 40, 41, 42, 43, 44, 45, 46, 47, 48, 49, 50, 51, 52, 53, 54, 55, 56, 57, 58, 59, 60, 61, 62, 63] (by decide +kernel) (by decide +kernel)
set_option maxRecDepth 20000 in
theorem gX6_made_X6_madeAt : GoodIn wsX6_made (wsV RX6 182 RX6 yX6_madeAt wsX6_madeAt) := goodIn_app (goodIn_of _ (by decide +kernel)) ggX6_made_X6_madeAt
theorem dX6_made_0 : decode cX6_made 0 = .ok (.aload_n 0, 1) := by decide +kernel
theorem dX6_made_1 : decode cX6_made 1 = .ok (.iload_n 1, 1) := by decide +kernel
theorem dX6_made_2 : decode cX6_made 2 = .ok (.invokevirtual 130, 3) := by decide +kernel
theorem dX6_made_5 : decode cX6_made 5 = .ok (.ifCond .eq 11, 3) := by decide +kernel
theorem dX6_made_8 : decode cX6_made 8 = .ok (.aload_n 0, 1) := by decide +kernel
theorem dX6_made_9 : decode cX6_made 9 = .ok (.iload_n 2, 1) := by decide +kernel
theorem dX6_made_10 : decode cX6_made 10 = .ok (.invokevirtual 133, 3) := by decide +kernel
theorem dX6_made_13 : decode cX6_made 13 = .ok (.ifCond .ne 6, 3) := by decide +kernel
theorem dX6_made_16 : decode cX6_made 16 = .ok (.ldc 136, 2) := by decide +kernel
theorem dX6_made_18 : decode cX6_made 18 = .ok (.ireturn, 1) := by decide +kernel
theorem dX6_made_19 : decode cX6_made 19 = .ok (.iload_n 3, 1) := by decide +kernel
theorem dX6_made_20 : decode cX6_made 20 = .ok (.iconst 0, 1) := by decide +kernel
theorem dX6_made_21 : decode cX6_made 21 = .ok (.bipush 20, 2) := by decide +kernel
theorem dX6_made_23 : decode cX6_made 23 = .ok (.invokestatic 59, 3) := by decide +kernel
theorem dX6_made_26 : decode cX6_made 26 = .ok (.ifCond .eq 13, 3) := by decide +kernel
theorem dX6_made_29 : decode cX6_made 29 = .ok (.aload_n 0, 1) := by decide +kernel
theorem dX6_made_30 : decode cX6_made 30 = .ok (.iload_n 1, 1) := by decide +kernel
theorem dX6_made_31 : decode cX6_made 31 = .ok (.iload_n 2, 1) := by decide +kernel
theorem dX6_made_32 : decode cX6_made 32 = .ok (.iload_n 3, 1) := by decide +kernel
theorem dX6_made_33 : decode cX6_made 33 = .ok (.invokevirtual 182, 3) := by decide +kernel
theorem dX6_made_36 : decode cX6_made 36 = .ok (.goto 5, 3) := by decide +kernel
theorem dX6_made_39 : decode cX6_made 39 = .ok (.ldc 63, 2) := by decide +kernel
theorem dX6_made_41 : decode cX6_made 41 = .ok (.ireturn, 1) := by decide +kernel
set_option maxRecDepth 20000 in
theorem ggX6_missedNow_X6_madeAt : GoodIn wsX6_missedNow wsX6_madeAt := goodIn_r _ [5, 6, 7, 8, 4, 9, 10, 11, 12, 13, 14, 15, 16, 17, 18, 24, 25, 26, 27, 28, 29, 30, 31, 32, 33, 34, 35, 36, 37, 38, 39, 40, 41, 42, 43, 44, 45, 46, 47, 48, 49, 50, 51, 52, 53, 54, 55, 56] (by decide +kernel) (by decide +kernel)
set_option maxRecDepth 20000 in
theorem gX6_missedNow_X6_madeAt : GoodIn wsX6_missedNow (wsV RX6 182 RX6 yX6_madeAt wsX6_madeAt) := goodIn_app (goodIn_of _ (by decide +kernel)) ggX6_missedNow_X6_madeAt
set_option maxRecDepth 20000 in
theorem ggX6_missedNow_X6_runoffAt : GoodIn wsX6_missedNow wsX6_runoffAt := goodIn_r _ [22, 23, 11, 12, 4, 13, 24, 25, 26, 27, 28, 29, 30, 31, 32, 33, 34, 35, 36, 37, 38, 39, 40, 41, 42, 43, 44, 45, 46, 47, 48, 49, 50, 51, 52, 53, 54, 55, 56] (by decide +kernel) (by decide +kernel)
set_option maxRecDepth 20000 in
theorem gX6_missedNow_X6_runoffAt : GoodIn wsX6_missedNow (wsV RX6 151 RX6 yX6_runoffAt wsX6_runoffAt) := goodIn_app (goodIn_of _ (by decide +kernel)) ggX6_missedNow_X6_runoffAt
theorem dX6_missedNow_0 : decode cX6_missedNow 0 = .ok (.iconst 0, 1) := by decide +kernel
theorem dX6_missedNow_1 : decode cX6_missedNow 1 = .ok (.istore_n 3, 1) := by decide +kernel
theorem dX6_missedNow_2 : decode cX6_missedNow 2 = .ok (.iconst 0, 1) := by decide +kernel
theorem dX6_missedNow_3 : decode cX6_missedNow 3 = .ok (.istore 4, 2) := by decide +kernel
theorem dX6_missedNow_5 : decode cX6_missedNow 5 = .ok (.iload 4, 2) := by decide +kernel
theorem dX6_missedNow_7 : decode cX6_missedNow 7 = .ok (.bipush 20, 2) := by decide +kernel
theorem dX6_missedNow_9 : decode cX6_missedNow 9 = .ok (.if_icmp .gt 35, 3) := by decide +kernel
theorem dX6_missedNow_12 : decode cX6_missedNow 12 = .ok (.aload_n 0, 1) := by decide +kernel
theorem dX6_missedNow_13 : decode cX6_missedNow 13 = .ok (.iload_n 1, 1) := by decide +kernel
theorem dX6_missedNow_14 : decode cX6_missedNow 14 = .ok (.iload_n 2, 1) := by decide +kernel
theorem dX6_missedNow_15 : decode cX6_missedNow 15 = .ok (.iload 4, 2) := by decide +kernel
theorem dX6_missedNow_17 : decode cX6_missedNow 17 = .ok (.invokevirtual 182, 3) := by decide +kernel
theorem dX6_missedNow_20 : decode cX6_missedNow 20 = .ok (.aload_n 0, 1) := by decide +kernel
theorem dX6_missedNow_21 : decode cX6_missedNow 21 = .ok (.iload_n 2, 1) := by decide +kernel
theorem dX6_missedNow_22 : decode cX6_missedNow 22 = .ok (.iload 4, 2) := by decide +kernel
theorem dX6_missedNow_24 : decode cX6_missedNow 24 = .ok (.invokevirtual 151, 3) := by decide +kernel
theorem dX6_missedNow_27 : decode cX6_missedNow 27 = .ok (.isub, 1) := by decide +kernel
theorem dX6_missedNow_28 : decode cX6_missedNow 28 = .ok (.istore 5, 2) := by decide +kernel
theorem dX6_missedNow_30 : decode cX6_missedNow 30 = .ok (.iload_n 3, 1) := by decide +kernel
theorem dX6_missedNow_31 : decode cX6_missedNow 31 = .ok (.iload 5, 2) := by decide +kernel
theorem dX6_missedNow_33 : decode cX6_missedNow 33 = .ok (.iload 5, 2) := by decide +kernel
theorem dX6_missedNow_35 : decode cX6_missedNow 35 = .ok (.imul, 1) := by decide +kernel
theorem dX6_missedNow_36 : decode cX6_missedNow 36 = .ok (.iadd, 1) := by decide +kernel
theorem dX6_missedNow_37 : decode cX6_missedNow 37 = .ok (.istore_n 3, 1) := by decide +kernel
theorem dX6_missedNow_38 : decode cX6_missedNow 38 = .ok (.iinc 4 1, 3) := by decide +kernel
theorem dX6_missedNow_41 : decode cX6_missedNow 41 = .ok (.goto (-36), 3) := by decide +kernel
theorem dX6_missedNow_44 : decode cX6_missedNow 44 = .ok (.iload_n 3, 1) := by decide +kernel
theorem dX6_missedNow_45 : decode cX6_missedNow 45 = .ok (.ireturn, 1) := by decide +kernel
set_option maxRecDepth 20000 in
theorem ggX6_missed_X6_isUnitThere : GoodIn wsX6_missed wsX6_isUnitThere := goodIn_r _ [6, 7, 8, 9, 5, 10, 39, 40, 41, 42, 43, 44, 45, 46, 47, 48, 49, 50, 51, 52, 53, 54, 55, 56, 57, 58, 59, 60, 61, 62, 63, 64, 65, 66, 67, 68, 69, 70, 71] (by decide +kernel) (by decide +kernel)
set_option maxRecDepth 20000 in
theorem gX6_missed_X6_isUnitThere : GoodIn wsX6_missed (wsV RX6 130 RX6 yX6_isUnitThere wsX6_isUnitThere) := goodIn_app (goodIn_of _ (by decide +kernel)) ggX6_missed_X6_isUnitThere
set_option maxRecDepth 20000 in
theorem ggX6_missed_X6_isStorm : GoodIn wsX6_missed wsX6_isStorm := goodIn_r _ [14, 15, 8, 9, 5, 10, 39, 40, 41, 42, 43, 44, 45, 46, 47, 48, 49, 50, 51, 52, 53, 54, 55, 56, 57, 58, 59, 60, 61, 62, 63, 64, 65, 66, 67, 68, 69, 70, 71] (by decide +kernel) (by decide +kernel)
set_option maxRecDepth 20000 in
theorem gX6_missed_X6_isStorm : GoodIn wsX6_missed (wsV RX6 133 RX6 yX6_isStorm wsX6_isStorm) := goodIn_app (goodIn_of _ (by decide +kernel)) ggX6_missed_X6_isStorm
set_option maxRecDepth 20000 in
theorem ggX6_missed_X6_missedNow : GoodIn wsX6_missed wsX6_missedNow := goodIn_r _ [19, 20, 21, 22, 5, 23, 24, 25, 26, 27, 28, 8, 9, 10, 29, 30, 31, 32, 33, 34, 35, 36, 37, 38, 39, 40, 41, 42, 43, 44, 45, 46, 47, 48, 49, 50, 51, 52, 53, 54, 55, 56, 57, 58, 59, 60, 61, 62, 63, 64, 65, 66, 67, 68, 69, 70, 71] (by decide +kernel) (by decide +kernel)
set_option maxRecDepth 20000 in
theorem gX6_missed_X6_missedNow : GoodIn wsX6_missed (wsV RX6 186 RX6 yX6_missedNow wsX6_missedNow) := goodIn_app (goodIn_of _ (by decide +kernel)) ggX6_missed_X6_missedNow
theorem dX6_missed_0 : decode cX6_missed 0 = .ok (.aload_n 0, 1) := by decide +kernel
theorem dX6_missed_1 : decode cX6_missed 1 = .ok (.iload_n 1, 1) := by decide +kernel
theorem dX6_missed_2 : decode cX6_missed 2 = .ok (.invokevirtual 130, 3) := by decide +kernel
theorem dX6_missed_5 : decode cX6_missed 5 = .ok (.ifCond .eq 20, 3) := by decide +kernel
theorem dX6_missed_8 : decode cX6_missed 8 = .ok (.aload_n 0, 1) := by decide +kernel
theorem dX6_missed_9 : decode cX6_missed 9 = .ok (.iload_n 2, 1) := by decide +kernel
theorem dX6_missed_10 : decode cX6_missed 10 = .ok (.invokevirtual 133, 3) := by decide +kernel
theorem dX6_missed_13 : decode cX6_missed 13 = .ok (.ifCond .eq 12, 3) := by decide +kernel
theorem dX6_missed_16 : decode cX6_missed 16 = .ok (.aload_n 0, 1) := by decide +kernel
theorem dX6_missed_17 : decode cX6_missed 17 = .ok (.iload_n 1, 1) := by decide +kernel
theorem dX6_missed_18 : decode cX6_missed 18 = .ok (.iload_n 2, 1) := by decide +kernel
theorem dX6_missed_19 : decode cX6_missed 19 = .ok (.invokevirtual 186, 3) := by decide +kernel
theorem dX6_missed_22 : decode cX6_missed 22 = .ok (.goto 5, 3) := by decide +kernel
theorem dX6_missed_25 : decode cX6_missed 25 = .ok (.ldc 136, 2) := by decide +kernel
theorem dX6_missed_27 : decode cX6_missed 27 = .ok (.ireturn, 1) := by decide +kernel
set_option maxRecDepth 20000 in
theorem ggX6_sumAt_X6_partAt : GoodIn wsX6_sumAt wsX6_partAt := goodIn_r _ [6, 7, 8, 9, 5, 10, 11, 12, 13, 14, 15, 16, 17, 18, 19, 20, 21, 22, 23, 24, 25, 26, 27, 28, 29, 30, 31, 32, 33, 34, 35, 36, 37, 38, 39, 40, 41, 42, 43] (by decide +kernel) (by decide +kernel)
set_option maxRecDepth 20000 in
theorem gX6_sumAt_X6_partAt : GoodIn wsX6_sumAt (wsV RX6 173 RX6 yX6_partAt wsX6_partAt) := goodIn_app (goodIn_of _ (by decide +kernel)) ggX6_sumAt_X6_partAt
theorem dX6_sumAt_0 : decode cX6_sumAt 0 = .ok (.iconst 0, 1) := by decide +kernel
theorem dX6_sumAt_1 : decode cX6_sumAt 1 = .ok (.istore_n 3, 1) := by decide +kernel
theorem dX6_sumAt_2 : decode cX6_sumAt 2 = .ok (.iload_n 2, 1) := by decide +kernel
theorem dX6_sumAt_3 : decode cX6_sumAt 3 = .ok (.istore 4, 2) := by decide +kernel
theorem dX6_sumAt_5 : decode cX6_sumAt 5 = .ok (.iload 4, 2) := by decide +kernel
theorem dX6_sumAt_7 : decode cX6_sumAt 7 = .ok (.ifCond .lt 27, 3) := by decide +kernel
theorem dX6_sumAt_10 : decode cX6_sumAt 10 = .ok (.iload_n 3, 1) := by decide +kernel
theorem dX6_sumAt_11 : decode cX6_sumAt 11 = .ok (.aload_n 0, 1) := by decide +kernel
theorem dX6_sumAt_12 : decode cX6_sumAt 12 = .ok (.iload_n 1, 1) := by decide +kernel
theorem dX6_sumAt_13 : decode cX6_sumAt 13 = .ok (.iload 4, 2) := by decide +kernel
theorem dX6_sumAt_15 : decode cX6_sumAt 15 = .ok (.invokevirtual 173, 3) := by decide +kernel
theorem dX6_sumAt_18 : decode cX6_sumAt 18 = .ok (.iadd, 1) := by decide +kernel
theorem dX6_sumAt_19 : decode cX6_sumAt 19 = .ok (.istore_n 3, 1) := by decide +kernel
theorem dX6_sumAt_20 : decode cX6_sumAt 20 = .ok (.iload 4, 2) := by decide +kernel
theorem dX6_sumAt_22 : decode cX6_sumAt 22 = .ok (.aload_n 0, 1) := by decide +kernel
theorem dX6_sumAt_23 : decode cX6_sumAt 23 = .ok (.getfield 25, 3) := by decide +kernel
theorem dX6_sumAt_26 : decode cX6_sumAt 26 = .ok (.iload_n 1, 1) := by decide +kernel
theorem dX6_sumAt_27 : decode cX6_sumAt 27 = .ok (.iaload, 1) := by decide +kernel
theorem dX6_sumAt_28 : decode cX6_sumAt 28 = .ok (.isub, 1) := by decide +kernel
theorem dX6_sumAt_29 : decode cX6_sumAt 29 = .ok (.istore 4, 2) := by decide +kernel
theorem dX6_sumAt_31 : decode cX6_sumAt 31 = .ok (.goto (-26), 3) := by decide +kernel
theorem dX6_sumAt_34 : decode cX6_sumAt 34 = .ok (.iload_n 3, 1) := by decide +kernel
theorem dX6_sumAt_35 : decode cX6_sumAt 35 = .ok (.ireturn, 1) := by decide +kernel
set_option maxRecDepth 20000 in
theorem ggX6_sum_X6_isUnitThere : GoodIn wsX6_sum wsX6_isUnitThere := goodIn_r _ [7, 8, 9, 10, 6, 11, 22, 23, 24, 25, 26, 27, 28, 29, 30, 31, 32, 33, 34, 35, 36, 37, 38, 39, 40, 41, 42, 43, 44, 45, 46, 47, 48, 49, 50, 51, 52, 53, 54] (by decide +kernel) (by decide +kernel)
set_option maxRecDepth 20000 in
theorem gX6_sum_X6_isUnitThere : GoodIn wsX6_sum (wsV RX6 130 RX6 yX6_isUnitThere wsX6_isUnitThere) := goodIn_app (goodIn_of _ (by decide +kernel)) ggX6_sum_X6_isUnitThere
set_option maxRecDepth 20000 in
theorem ggX6_sum_X6_within : GoodIn wsX6_sum wsX6_within := goodIn_r _ [11] (by decide +kernel) (by decide +kernel)
set_option maxRecDepth 20000 in
theorem gX6_sum_X6_within : GoodIn wsX6_sum (va_wsS RX6 59 yX6_within wsX6_within) := goodIn_app (goodIn_of _ (by decide +kernel)) ggX6_sum_X6_within
set_option maxRecDepth 20000 in
theorem ggX6_sum_X6_sumAt : GoodIn wsX6_sum wsX6_sumAt := goodIn_r _ [15, 16, 17, 18, 19, 6, 20, 21, 9, 10, 11, 22, 23, 24, 25, 26, 27, 28, 29, 30, 31, 32, 33, 34, 35, 36, 37, 38, 39, 40, 41, 42, 43, 44, 45, 46, 47, 48, 49, 50, 51, 52, 53, 54] (by decide +kernel) (by decide +kernel)
set_option maxRecDepth 20000 in
theorem gX6_sum_X6_sumAt : GoodIn wsX6_sum (wsV RX6 189 RX6 yX6_sumAt wsX6_sumAt) := goodIn_app (goodIn_of _ (by decide +kernel)) ggX6_sum_X6_sumAt
theorem dX6_sum_0 : decode cX6_sum 0 = .ok (.aload_n 0, 1) := by decide +kernel
theorem dX6_sum_1 : decode cX6_sum 1 = .ok (.iload_n 1, 1) := by decide +kernel
theorem dX6_sum_2 : decode cX6_sum 2 = .ok (.invokevirtual 130, 3) := by decide +kernel
theorem dX6_sum_5 : decode cX6_sum 5 = .ok (.ifCond .ne 6, 3) := by decide +kernel
theorem dX6_sum_8 : decode cX6_sum 8 = .ok (.ldc 136, 2) := by decide +kernel
theorem dX6_sum_10 : decode cX6_sum 10 = .ok (.ireturn, 1) := by decide +kernel
theorem dX6_sum_11 : decode cX6_sum 11 = .ok (.iload_n 2, 1) := by decide +kernel
theorem dX6_sum_12 : decode cX6_sum 12 = .ok (.iconst 0, 1) := by decide +kernel
theorem dX6_sum_13 : decode cX6_sum 13 = .ok (.bipush 20, 2) := by decide +kernel
theorem dX6_sum_15 : decode cX6_sum 15 = .ok (.invokestatic 59, 3) := by decide +kernel
theorem dX6_sum_18 : decode cX6_sum 18 = .ok (.ifCond .eq 12, 3) := by decide +kernel
theorem dX6_sum_21 : decode cX6_sum 21 = .ok (.aload_n 0, 1) := by decide +kernel
theorem dX6_sum_22 : decode cX6_sum 22 = .ok (.iload_n 1, 1) := by decide +kernel
theorem dX6_sum_23 : decode cX6_sum 23 = .ok (.iload_n 2, 1) := by decide +kernel
theorem dX6_sum_24 : decode cX6_sum 24 = .ok (.invokevirtual 189, 3) := by decide +kernel
theorem dX6_sum_27 : decode cX6_sum 27 = .ok (.goto 5, 3) := by decide +kernel
theorem dX6_sum_30 : decode cX6_sum 30 = .ok (.ldc 63, 2) := by decide +kernel
theorem dX6_sum_32 : decode cX6_sum 32 = .ok (.ireturn, 1) := by decide +kernel
theorem dX6_common_0 : decode cX6_common 0 = .ok (.lload_n 0, 1) := by decide +kernel
theorem dX6_common_1 : decode cX6_common 1 = .ok (.lconst 0, 1) := by decide +kernel
theorem dX6_common_2 : decode cX6_common 2 = .ok (.lcmp, 1) := by decide +kernel
theorem dX6_common_3 : decode cX6_common 3 = .ok (.ifCond .ge 8, 3) := by decide +kernel
theorem dX6_common_6 : decode cX6_common 6 = .ok (.lload_n 0, 1) := by decide +kernel
theorem dX6_common_7 : decode cX6_common 7 = .ok (.lneg, 1) := by decide +kernel
theorem dX6_common_8 : decode cX6_common 8 = .ok (.goto 4, 3) := by decide +kernel
theorem dX6_common_11 : decode cX6_common 11 = .ok (.lload_n 0, 1) := by decide +kernel
theorem dX6_common_12 : decode cX6_common 12 = .ok (.lstore 4, 2) := by decide +kernel
theorem dX6_common_14 : decode cX6_common 14 = .ok (.lload_n 2, 1) := by decide +kernel
theorem dX6_common_15 : decode cX6_common 15 = .ok (.lconst 0, 1) := by decide +kernel
theorem dX6_common_16 : decode cX6_common 16 = .ok (.lcmp, 1) := by decide +kernel
theorem dX6_common_17 : decode cX6_common 17 = .ok (.ifCond .ge 8, 3) := by decide +kernel
theorem dX6_common_20 : decode cX6_common 20 = .ok (.lload_n 2, 1) := by decide +kernel
theorem dX6_common_21 : decode cX6_common 21 = .ok (.lneg, 1) := by decide +kernel
theorem dX6_common_22 : decode cX6_common 22 = .ok (.goto 4, 3) := by decide +kernel
theorem dX6_common_25 : decode cX6_common 25 = .ok (.lload_n 2, 1) := by decide +kernel
theorem dX6_common_26 : decode cX6_common 26 = .ok (.lstore 6, 2) := by decide +kernel
theorem dX6_common_28 : decode cX6_common 28 = .ok (.lload 6, 2) := by decide +kernel
theorem dX6_common_30 : decode cX6_common 30 = .ok (.lconst 0, 1) := by decide +kernel
theorem dX6_common_31 : decode cX6_common 31 = .ok (.lcmp, 1) := by decide +kernel
theorem dX6_common_32 : decode cX6_common 32 = .ok (.ifCond .eq 21, 3) := by decide +kernel
theorem dX6_common_35 : decode cX6_common 35 = .ok (.lload 4, 2) := by decide +kernel
theorem dX6_common_37 : decode cX6_common 37 = .ok (.lload 6, 2) := by decide +kernel
theorem dX6_common_39 : decode cX6_common 39 = .ok (.lrem, 1) := by decide +kernel
theorem dX6_common_40 : decode cX6_common 40 = .ok (.lstore 8, 2) := by decide +kernel
theorem dX6_common_42 : decode cX6_common 42 = .ok (.lload 6, 2) := by decide +kernel
theorem dX6_common_44 : decode cX6_common 44 = .ok (.lstore 4, 2) := by decide +kernel
theorem dX6_common_46 : decode cX6_common 46 = .ok (.lload 8, 2) := by decide +kernel
theorem dX6_common_48 : decode cX6_common 48 = .ok (.lstore 6, 2) := by decide +kernel
theorem dX6_common_50 : decode cX6_common 50 = .ok (.goto (-22), 3) := by decide +kernel
theorem dX6_common_53 : decode cX6_common 53 = .ok (.lload 4, 2) := by decide +kernel
theorem dX6_common_55 : decode cX6_common 55 = .ok (.lreturn, 1) := by decide +kernel
set_option maxRecDepth 20000 in
theorem ggX6_lowest_X6_common : GoodIn wsX6_lowest wsX6_common := goodIn_r _ [4] (by decide +kernel) (by decide +kernel)
set_option maxRecDepth 20000 in
theorem gX6_lowest_X6_common : GoodIn wsX6_lowest (va_wsS RX6 192 yX6_common wsX6_common) := goodIn_app (goodIn_of _ (by decide +kernel)) ggX6_lowest_X6_common
theorem dX6_lowest_0 : decode cX6_lowest 0 = .ok (.lload_n 0, 1) := by decide +kernel
theorem dX6_lowest_1 : decode cX6_lowest 1 = .ok (.lload_n 2, 1) := by decide +kernel
theorem dX6_lowest_2 : decode cX6_lowest 2 = .ok (.invokestatic 192, 3) := by decide +kernel
theorem dX6_lowest_5 : decode cX6_lowest 5 = .ok (.lstore 5, 2) := by decide +kernel
theorem dX6_lowest_7 : decode cX6_lowest 7 = .ok (.iload 4, 2) := by decide +kernel
theorem dX6_lowest_9 : decode cX6_lowest 9 = .ok (.ifCond .ne 10, 3) := by decide +kernel
theorem dX6_lowest_12 : decode cX6_lowest 12 = .ok (.lload_n 0, 1) := by decide +kernel
theorem dX6_lowest_13 : decode cX6_lowest 13 = .ok (.lload 5, 2) := by decide +kernel
theorem dX6_lowest_15 : decode cX6_lowest 15 = .ok (.ldiv, 1) := by decide +kernel
theorem dX6_lowest_16 : decode cX6_lowest 16 = .ok (.goto 7, 3) := by decide +kernel
theorem dX6_lowest_19 : decode cX6_lowest 19 = .ok (.lload_n 2, 1) := by decide +kernel
theorem dX6_lowest_20 : decode cX6_lowest 20 = .ok (.lload 5, 2) := by decide +kernel
theorem dX6_lowest_22 : decode cX6_lowest 22 = .ok (.ldiv, 1) := by decide +kernel
theorem dX6_lowest_23 : decode cX6_lowest 23 = .ok (.lreturn, 1) := by decide +kernel
set_option maxRecDepth 20000 in
theorem ggX6_other_X6_isUnitThere : GoodIn wsX6_other wsX6_isUnitThere := goodIn_r _ [8, 9, 10, 11, 7, 12, 28, 29, 30, 31, 32, 33, 34, 35, 36, 37, 38, 39, 40, 41, 42, 43, 44, 45, 46, 47, 48, 49, 50, 51, 52, 53, 54, 55, 56, 57, 58, 59, 60] (by decide +kernel) (by decide +kernel)
set_option maxRecDepth 20000 in
theorem gX6_other_X6_isUnitThere : GoodIn wsX6_other (wsV RX6 130 RX6 yX6_isUnitThere wsX6_isUnitThere) := goodIn_app (goodIn_of _ (by decide +kernel)) ggX6_other_X6_isUnitThere
set_option maxRecDepth 20000 in
theorem ggX6_other_X6_within : GoodIn wsX6_other wsX6_within := goodIn_r _ [12] (by decide +kernel) (by decide +kernel)
set_option maxRecDepth 20000 in
theorem gX6_other_X6_within : GoodIn wsX6_other (va_wsS RX6 59 yX6_within wsX6_within) := goodIn_app (goodIn_of _ (by decide +kernel)) ggX6_other_X6_within
set_option maxRecDepth 20000 in
theorem ggX6_other_X6_sumAt : GoodIn wsX6_other wsX6_sumAt := goodIn_r _ [16, 3, 17, 18, 19, 7, 20, 21, 10, 11, 12, 28, 29, 30, 31, 32, 33, 34, 35, 36, 37, 38, 39, 40, 41, 42, 43, 44, 45, 46, 47, 48, 49, 50, 51, 52, 53, 54, 55, 56, 57, 58, 59, 60] (by decide +kernel) (by decide +kernel)
set_option maxRecDepth 20000 in
theorem gX6_other_X6_sumAt : GoodIn wsX6_other (wsV RX6 189 RX6 yX6_sumAt wsX6_sumAt) := goodIn_app (goodIn_of _ (by decide +kernel)) ggX6_other_X6_sumAt
set_option maxRecDepth 20000 in
theorem ggX6_other_X6_lowest : GoodIn wsX6_other wsX6_lowest := goodIn_r _ [24, 25, 26, 7, 27] (by decide +kernel) (by decide +kernel)
set_option maxRecDepth 20000 in
theorem gX6_other_X6_lowest : GoodIn wsX6_other (va_wsS RX6 196 yX6_lowest wsX6_lowest) := goodIn_app (goodIn_of _ (by decide +kernel)) ggX6_other_X6_lowest
theorem dX6_other_0 : decode cX6_other 0 = .ok (.aload_n 0, 1) := by decide +kernel
theorem dX6_other_1 : decode cX6_other 1 = .ok (.iload_n 1, 1) := by decide +kernel
theorem dX6_other_2 : decode cX6_other 2 = .ok (.invokevirtual 130, 3) := by decide +kernel
theorem dX6_other_5 : decode cX6_other 5 = .ok (.ifCond .ne 6, 3) := by decide +kernel
theorem dX6_other_8 : decode cX6_other 8 = .ok (.ldc 136, 2) := by decide +kernel
theorem dX6_other_10 : decode cX6_other 10 = .ok (.ireturn, 1) := by decide +kernel
theorem dX6_other_11 : decode cX6_other 11 = .ok (.iload_n 2, 1) := by decide +kernel
theorem dX6_other_12 : decode cX6_other 12 = .ok (.iconst 1, 1) := by decide +kernel
theorem dX6_other_13 : decode cX6_other 13 = .ok (.iconst 4, 1) := by decide +kernel
theorem dX6_other_14 : decode cX6_other 14 = .ok (.invokestatic 59, 3) := by decide +kernel
theorem dX6_other_17 : decode cX6_other 17 = .ok (.ifCond .eq 23, 3) := by decide +kernel
theorem dX6_other_20 : decode cX6_other 20 = .ok (.iload_n 3, 1) := by decide +kernel
theorem dX6_other_21 : decode cX6_other 21 = .ok (.iconst 0, 1) := by decide +kernel
theorem dX6_other_22 : decode cX6_other 22 = .ok (.bipush 20, 2) := by decide +kernel
theorem dX6_other_24 : decode cX6_other 24 = .ok (.invokestatic 59, 3) := by decide +kernel
theorem dX6_other_27 : decode cX6_other 27 = .ok (.ifCond .eq 13, 3) := by decide +kernel
theorem dX6_other_30 : decode cX6_other 30 = .ok (.iload 4, 2) := by decide +kernel
theorem dX6_other_32 : decode cX6_other 32 = .ok (.iconst 0, 1) := by decide +kernel
theorem dX6_other_33 : decode cX6_other 33 = .ok (.iconst 1, 1) := by decide +kernel
theorem dX6_other_34 : decode cX6_other 34 = .ok (.invokestatic 59, 3) := by decide +kernel
theorem dX6_other_37 : decode cX6_other 37 = .ok (.ifCond .ne 6, 3) := by decide +kernel
theorem dX6_other_40 : decode cX6_other 40 = .ok (.ldc 63, 2) := by decide +kernel
theorem dX6_other_42 : decode cX6_other 42 = .ok (.ireturn, 1) := by decide +kernel
theorem dX6_other_43 : decode cX6_other 43 = .ok (.aload_n 0, 1) := by decide +kernel
theorem dX6_other_44 : decode cX6_other 44 = .ok (.iload_n 1, 1) := by decide +kernel
theorem dX6_other_45 : decode cX6_other 45 = .ok (.iload_n 3, 1) := by decide +kernel
theorem dX6_other_46 : decode cX6_other 46 = .ok (.invokevirtual 189, 3) := by decide +kernel
theorem dX6_other_49 : decode cX6_other 49 = .ok (.aload_n 0, 1) := by decide +kernel
theorem dX6_other_50 : decode cX6_other 50 = .ok (.iload_n 1, 1) := by decide +kernel
theorem dX6_other_51 : decode cX6_other 51 = .ok (.iload_n 3, 1) := by decide +kernel
theorem dX6_other_52 : decode cX6_other 52 = .ok (.iload_n 2, 1) := by decide +kernel
theorem dX6_other_53 : decode cX6_other 53 = .ok (.isub, 1) := by decide +kernel
theorem dX6_other_54 : decode cX6_other 54 = .ok (.invokevirtual 189, 3) := by decide +kernel
theorem dX6_other_57 : decode cX6_other 57 = .ok (.isub, 1) := by decide +kernel
theorem dX6_other_58 : decode cX6_other 58 = .ok (.i2l, 1) := by decide +kernel
theorem dX6_other_59 : decode cX6_other 59 = .ok (.aload_n 0, 1) := by decide +kernel
theorem dX6_other_60 : decode cX6_other 60 = .ok (.getfield 25, 3) := by decide +kernel
theorem dX6_other_63 : decode cX6_other 63 = .ok (.iload_n 1, 1) := by decide +kernel
theorem dX6_other_64 : decode cX6_other 64 = .ok (.iaload, 1) := by decide +kernel
theorem dX6_other_65 : decode cX6_other 65 = .ok (.i2l, 1) := by decide +kernel
theorem dX6_other_66 : decode cX6_other 66 = .ok (.lmul, 1) := by decide +kernel
theorem dX6_other_67 : decode cX6_other 67 = .ok (.iload_n 2, 1) := by decide +kernel
theorem dX6_other_68 : decode cX6_other 68 = .ok (.i2l, 1) := by decide +kernel
theorem dX6_other_69 : decode cX6_other 69 = .ok (.iload 4, 2) := by decide +kernel
theorem dX6_other_71 : decode cX6_other 71 = .ok (.invokestatic 196, 3) := by decide +kernel
theorem dX6_other_74 : decode cX6_other 74 = .ok (.l2i, 1) := by decide +kernel
theorem dX6_other_75 : decode cX6_other 75 = .ok (.ireturn, 1) := by decide +kernel
set_option maxRecDepth 20000 in
theorem ggX6_layProducts_X6_runoffAt : GoodIn wsX6_layProducts wsX6_runoffAt := goodIn_r _ [9, 10, 11, 12, 8, 13, 19, 20, 21, 22, 23, 24, 25, 26, 27, 28, 29, 30, 31, 32, 33, 34, 35, 36, 37, 38, 39, 40, 41, 42, 43, 44, 45, 46, 47, 48, 49, 50, 51] (by decide +kernel) (by decide +kernel)
set_option maxRecDepth 20000 in
theorem gX6_layProducts_X6_runoffAt : GoodIn wsX6_layProducts (wsV RX6 151 RX6 yX6_runoffAt wsX6_runoffAt) := goodIn_app (goodIn_of _ (by decide +kernel)) ggX6_layProducts_X6_runoffAt
set_option maxRecDepth 20000 in
theorem ggX6_layProducts_X6_rainAt : GoodIn wsX6_layProducts wsX6_rainAt := goodIn_r _ [17, 18, 11, 12, 8, 13, 19, 20, 21, 22, 23, 24, 25, 26, 27, 28, 29, 30, 31, 32, 33, 34, 35, 36, 37, 38, 39, 40, 41, 42, 43, 44, 45, 46, 47, 48, 49, 50, 51] (by decide +kernel) (by decide +kernel)
set_option maxRecDepth 20000 in
theorem gX6_layProducts_X6_rainAt : GoodIn wsX6_layProducts (wsV RX6 147 RX6 yX6_rainAt wsX6_rainAt) := goodIn_app (goodIn_of _ (by decide +kernel)) ggX6_layProducts_X6_rainAt
theorem dX6_layProducts_0 : decode cX6_layProducts 0 = .ok (.aload_n 0, 1) := by decide +kernel
theorem dX6_layProducts_1 : decode cX6_layProducts 1 = .ok (.lconst 0, 1) := by decide +kernel
theorem dX6_layProducts_2 : decode cX6_layProducts 2 = .ok (.putfield 200, 3) := by decide +kernel
theorem dX6_layProducts_5 : decode cX6_layProducts 5 = .ok (.iconst 0, 1) := by decide +kernel
theorem dX6_layProducts_6 : decode cX6_layProducts 6 = .ok (.istore_n 2, 1) := by decide +kernel
theorem dX6_layProducts_7 : decode cX6_layProducts 7 = .ok (.iload_n 2, 1) := by decide +kernel
theorem dX6_layProducts_8 : decode cX6_layProducts 8 = .ok (.iconst 4, 1) := by decide +kernel
theorem dX6_layProducts_9 : decode cX6_layProducts 9 = .ok (.if_icmp .ge 23, 3) := by decide +kernel
theorem dX6_layProducts_12 : decode cX6_layProducts 12 = .ok (.aload_n 0, 1) := by decide +kernel
theorem dX6_layProducts_13 : decode cX6_layProducts 13 = .ok (.getfield 43, 3) := by decide +kernel
theorem dX6_layProducts_16 : decode cX6_layProducts 16 = .ok (.iload_n 2, 1) := by decide +kernel
theorem dX6_layProducts_17 : decode cX6_layProducts 17 = .ok (.lconst 0, 1) := by decide +kernel
theorem dX6_layProducts_18 : decode cX6_layProducts 18 = .ok (.lastore, 1) := by decide +kernel
theorem dX6_layProducts_19 : decode cX6_layProducts 19 = .ok (.aload_n 0, 1) := by decide +kernel
theorem dX6_layProducts_20 : decode cX6_layProducts 20 = .ok (.getfield 47, 3) := by decide +kernel
theorem dX6_layProducts_23 : decode cX6_layProducts 23 = .ok (.iload_n 2, 1) := by decide +kernel
theorem dX6_layProducts_24 : decode cX6_layProducts 24 = .ok (.lconst 0, 1) := by decide +kernel
theorem dX6_layProducts_25 : decode cX6_layProducts 25 = .ok (.lastore, 1) := by decide +kernel
theorem dX6_layProducts_26 : decode cX6_layProducts 26 = .ok (.iinc 2 1, 3) := by decide +kernel
theorem dX6_layProducts_29 : decode cX6_layProducts 29 = .ok (.goto (-22), 3) := by decide +kernel
theorem dX6_layProducts_32 : decode cX6_layProducts 32 = .ok (.iconst 0, 1) := by decide +kernel
theorem dX6_layProducts_33 : decode cX6_layProducts 33 = .ok (.istore_n 2, 1) := by decide +kernel
theorem dX6_layProducts_34 : decode cX6_layProducts 34 = .ok (.iload_n 2, 1) := by decide +kernel
theorem dX6_layProducts_35 : decode cX6_layProducts 35 = .ok (.aload_n 0, 1) := by decide +kernel
theorem dX6_layProducts_36 : decode cX6_layProducts 36 = .ok (.getfield 114, 3) := by decide +kernel
theorem dX6_layProducts_39 : decode cX6_layProducts 39 = .ok (.if_icmp .ge 124, 3) := by decide +kernel
theorem dX6_layProducts_42 : decode cX6_layProducts 42 = .ok (.iconst 0, 1) := by decide +kernel
theorem dX6_layProducts_43 : decode cX6_layProducts 43 = .ok (.istore_n 3, 1) := by decide +kernel
theorem dX6_layProducts_44 : decode cX6_layProducts 44 = .ok (.iload_n 3, 1) := by decide +kernel
theorem dX6_layProducts_45 : decode cX6_layProducts 45 = .ok (.bipush 12, 2) := by decide +kernel
theorem dX6_layProducts_47 : decode cX6_layProducts 47 = .ok (.if_icmp .ge 110, 3) := by decide +kernel
theorem dX6_layProducts_50 : decode cX6_layProducts 50 = .ok (.iload_n 1, 1) := by decide +kernel
theorem dX6_layProducts_51 : decode cX6_layProducts 51 = .ok (.iload_n 2, 1) := by decide +kernel
theorem dX6_layProducts_52 : decode cX6_layProducts 52 = .ok (.ishr, 1) := by decide +kernel
theorem dX6_layProducts_53 : decode cX6_layProducts 53 = .ok (.iconst 1, 1) := by decide +kernel
theorem dX6_layProducts_54 : decode cX6_layProducts 54 = .ok (.iand, 1) := by decide +kernel
theorem dX6_layProducts_55 : decode cX6_layProducts 55 = .ok (.iconst 1, 1) := by decide +kernel
theorem dX6_layProducts_56 : decode cX6_layProducts 56 = .ok (.if_icmp .ne 101, 3) := by decide +kernel
theorem dX6_layProducts_59 : decode cX6_layProducts 59 = .ok (.aload_n 0, 1) := by decide +kernel
theorem dX6_layProducts_60 : decode cX6_layProducts 60 = .ok (.dup, 1) := by decide +kernel
theorem dX6_layProducts_61 : decode cX6_layProducts 61 = .ok (.getfield 200, 3) := by decide +kernel
theorem dX6_layProducts_64 : decode cX6_layProducts 64 = .ok (.aload_n 0, 1) := by decide +kernel
theorem dX6_layProducts_65 : decode cX6_layProducts 65 = .ok (.iload_n 2, 1) := by decide +kernel
theorem dX6_layProducts_66 : decode cX6_layProducts 66 = .ok (.iload_n 3, 1) := by decide +kernel
theorem dX6_layProducts_67 : decode cX6_layProducts 67 = .ok (.invokevirtual 151, 3) := by decide +kernel
theorem dX6_layProducts_70 : decode cX6_layProducts 70 = .ok (.aload_n 0, 1) := by decide +kernel
theorem dX6_layProducts_71 : decode cX6_layProducts 71 = .ok (.iload_n 2, 1) := by decide +kernel
theorem dX6_layProducts_72 : decode cX6_layProducts 72 = .ok (.iload_n 3, 1) := by decide +kernel
theorem dX6_layProducts_73 : decode cX6_layProducts 73 = .ok (.invokevirtual 151, 3) := by decide +kernel
theorem dX6_layProducts_76 : decode cX6_layProducts 76 = .ok (.imul, 1) := by decide +kernel
theorem dX6_layProducts_77 : decode cX6_layProducts 77 = .ok (.i2l, 1) := by decide +kernel
theorem dX6_layProducts_78 : decode cX6_layProducts 78 = .ok (.ladd, 1) := by decide +kernel
theorem dX6_layProducts_79 : decode cX6_layProducts 79 = .ok (.putfield 200, 3) := by decide +kernel
theorem dX6_layProducts_82 : decode cX6_layProducts 82 = .ok (.iconst 0, 1) := by decide +kernel
theorem dX6_layProducts_83 : decode cX6_layProducts 83 = .ok (.istore 4, 2) := by decide +kernel
theorem dX6_layProducts_85 : decode cX6_layProducts 85 = .ok (.iload 4, 2) := by decide +kernel
theorem dX6_layProducts_87 : decode cX6_layProducts 87 = .ok (.iconst 4, 1) := by decide +kernel
theorem dX6_layProducts_88 : decode cX6_layProducts 88 = .ok (.if_icmp .ge 63, 3) := by decide +kernel
theorem dX6_layProducts_91 : decode cX6_layProducts 91 = .ok (.aload_n 0, 1) := by decide +kernel
theorem dX6_layProducts_92 : decode cX6_layProducts 92 = .ok (.getfield 43, 3) := by decide +kernel
theorem dX6_layProducts_95 : decode cX6_layProducts 95 = .ok (.iload 4, 2) := by decide +kernel
theorem dX6_layProducts_97 : decode cX6_layProducts 97 = .ok (.dup2, 1) := by decide +kernel
theorem dX6_layProducts_98 : decode cX6_layProducts 98 = .ok (.laload, 1) := by decide +kernel
theorem dX6_layProducts_99 : decode cX6_layProducts 99 = .ok (.aload_n 0, 1) := by decide +kernel
theorem dX6_layProducts_100 : decode cX6_layProducts 100 = .ok (.iload_n 2, 1) := by decide +kernel
theorem dX6_layProducts_101 : decode cX6_layProducts 101 = .ok (.iload_n 3, 1) := by decide +kernel
theorem dX6_layProducts_102 : decode cX6_layProducts 102 = .ok (.invokevirtual 147, 3) := by decide +kernel
theorem dX6_layProducts_105 : decode cX6_layProducts 105 = .ok (.aload_n 0, 1) := by decide +kernel
theorem dX6_layProducts_106 : decode cX6_layProducts 106 = .ok (.iload_n 2, 1) := by decide +kernel
theorem dX6_layProducts_107 : decode cX6_layProducts 107 = .ok (.iload_n 3, 1) := by decide +kernel
theorem dX6_layProducts_108 : decode cX6_layProducts 108 = .ok (.iload 4, 2) := by decide +kernel
theorem dX6_layProducts_110 : decode cX6_layProducts 110 = .ok (.isub, 1) := by decide +kernel
theorem dX6_layProducts_111 : decode cX6_layProducts 111 = .ok (.invokevirtual 147, 3) := by decide +kernel
theorem dX6_layProducts_114 : decode cX6_layProducts 114 = .ok (.imul, 1) := by decide +kernel
theorem dX6_layProducts_115 : decode cX6_layProducts 115 = .ok (.i2l, 1) := by decide +kernel
theorem dX6_layProducts_116 : decode cX6_layProducts 116 = .ok (.ladd, 1) := by decide +kernel
theorem dX6_layProducts_117 : decode cX6_layProducts 117 = .ok (.lastore, 1) := by decide +kernel
theorem dX6_layProducts_118 : decode cX6_layProducts 118 = .ok (.aload_n 0, 1) := by decide +kernel
theorem dX6_layProducts_119 : decode cX6_layProducts 119 = .ok (.getfield 47, 3) := by decide +kernel
theorem dX6_layProducts_122 : decode cX6_layProducts 122 = .ok (.iload 4, 2) := by decide +kernel
theorem dX6_layProducts_124 : decode cX6_layProducts 124 = .ok (.dup2, 1) := by decide +kernel
theorem dX6_layProducts_125 : decode cX6_layProducts 125 = .ok (.laload, 1) := by decide +kernel
theorem dX6_layProducts_126 : decode cX6_layProducts 126 = .ok (.aload_n 0, 1) := by decide +kernel
theorem dX6_layProducts_127 : decode cX6_layProducts 127 = .ok (.iload_n 2, 1) := by decide +kernel
theorem dX6_layProducts_128 : decode cX6_layProducts 128 = .ok (.iload_n 3, 1) := by decide +kernel
theorem dX6_layProducts_129 : decode cX6_layProducts 129 = .ok (.invokevirtual 151, 3) := by decide +kernel
theorem dX6_layProducts_132 : decode cX6_layProducts 132 = .ok (.aload_n 0, 1) := by decide +kernel
theorem dX6_layProducts_133 : decode cX6_layProducts 133 = .ok (.iload_n 2, 1) := by decide +kernel
theorem dX6_layProducts_134 : decode cX6_layProducts 134 = .ok (.iload_n 3, 1) := by decide +kernel
theorem dX6_layProducts_135 : decode cX6_layProducts 135 = .ok (.iload 4, 2) := by decide +kernel
theorem dX6_layProducts_137 : decode cX6_layProducts 137 = .ok (.isub, 1) := by decide +kernel
theorem dX6_layProducts_138 : decode cX6_layProducts 138 = .ok (.invokevirtual 147, 3) := by decide +kernel
theorem dX6_layProducts_141 : decode cX6_layProducts 141 = .ok (.imul, 1) := by decide +kernel
theorem dX6_layProducts_142 : decode cX6_layProducts 142 = .ok (.i2l, 1) := by decide +kernel
theorem dX6_layProducts_143 : decode cX6_layProducts 143 = .ok (.ladd, 1) := by decide +kernel
theorem dX6_layProducts_144 : decode cX6_layProducts 144 = .ok (.lastore, 1) := by decide +kernel
theorem dX6_layProducts_145 : decode cX6_layProducts 145 = .ok (.iinc 4 1, 3) := by decide +kernel
theorem dX6_layProducts_148 : decode cX6_layProducts 148 = .ok (.goto (-63), 3) := by decide +kernel
theorem dX6_layProducts_151 : decode cX6_layProducts 151 = .ok (.iinc 3 1, 3) := by decide +kernel
theorem dX6_layProducts_154 : decode cX6_layProducts 154 = .ok (.goto (-110), 3) := by decide +kernel
theorem dX6_layProducts_157 : decode cX6_layProducts 157 = .ok (.iinc 2 1, 3) := by decide +kernel
theorem dX6_layProducts_160 : decode cX6_layProducts 160 = .ok (.goto (-126), 3) := by decide +kernel
theorem dX6_layProducts_163 : decode cX6_layProducts 163 = .ok (.return_, 1) := by decide +kernel
theorem dX6_apart_0 : decode cX6_apart 0 = .ok (.iload_n 0, 1) := by decide +kernel
theorem dX6_apart_1 : decode cX6_apart 1 = .ok (.iload_n 1, 1) := by decide +kernel
theorem dX6_apart_2 : decode cX6_apart 2 = .ok (.if_icmp .ge 9, 3) := by decide +kernel
theorem dX6_apart_5 : decode cX6_apart 5 = .ok (.iload_n 1, 1) := by decide +kernel
theorem dX6_apart_6 : decode cX6_apart 6 = .ok (.iload_n 0, 1) := by decide +kernel
theorem dX6_apart_7 : decode cX6_apart 7 = .ok (.isub, 1) := by decide +kernel
theorem dX6_apart_8 : decode cX6_apart 8 = .ok (.goto 6, 3) := by decide +kernel
theorem dX6_apart_11 : decode cX6_apart 11 = .ok (.iload_n 0, 1) := by decide +kernel
theorem dX6_apart_12 : decode cX6_apart 12 = .ok (.iload_n 1, 1) := by decide +kernel
theorem dX6_apart_13 : decode cX6_apart 13 = .ok (.isub, 1) := by decide +kernel
theorem dX6_apart_14 : decode cX6_apart 14 = .ok (.ireturn, 1) := by decide +kernel
set_option maxRecDepth 20000 in
theorem ggX6_solve_X6_apart : GoodIn wsX6_solve wsX6_apart := goodIn_r _ [10] (by decide +kernel) (by decide +kernel)
set_option maxRecDepth 20000 in
theorem gX6_solve_X6_apart : GoodIn wsX6_solve (va_wsS RX6 204 yX6_apart wsX6_apart) := goodIn_app (goodIn_of _ (by decide +kernel)) ggX6_solve_X6_apart
set_option maxRecDepth 20000 in
theorem ggX6_solve_X6_clear : GoodIn wsX6_solve wsX6_clear := goodIn_r _ [14, 3, 6, 15, 16, 17, 18, 19, 20, 21, 22, 23, 24, 25, 26, 27, 28, 29, 30, 31, 32, 33, 34, 35, 36, 37, 38, 39, 40, 41, 42, 43, 44, 45, 46, 47] (by decide +kernel) (by decide +kernel)
set_option maxRecDepth 20000 in
theorem gX6_solve_X6_clear : GoodIn wsX6_solve (wsV RX6 210 RX6 yX6_clear wsX6_clear) := goodIn_app (goodIn_of _ (by decide +kernel)) ggX6_solve_X6_clear
theorem dX6_solve_0 : decode cX6_solve 0 = .ok (.iconst 0, 1) := by decide +kernel
theorem dX6_solve_1 : decode cX6_solve 1 = .ok (.istore_n 3, 1) := by decide +kernel
theorem dX6_solve_2 : decode cX6_solve 2 = .ok (.iconst 0, 1) := by decide +kernel
theorem dX6_solve_3 : decode cX6_solve 3 = .ok (.istore 4, 2) := by decide +kernel
theorem dX6_solve_5 : decode cX6_solve 5 = .ok (.iload 4, 2) := by decide +kernel
theorem dX6_solve_7 : decode cX6_solve 7 = .ok (.iload_n 2, 1) := by decide +kernel
theorem dX6_solve_8 : decode cX6_solve 8 = .ok (.if_icmp .ge 38, 3) := by decide +kernel
theorem dX6_solve_11 : decode cX6_solve 11 = .ok (.aload_n 0, 1) := by decide +kernel
theorem dX6_solve_12 : decode cX6_solve 12 = .ok (.getfield 56, 3) := by decide +kernel
theorem dX6_solve_15 : decode cX6_solve 15 = .ok (.iload 4, 2) := by decide +kernel
theorem dX6_solve_17 : decode cX6_solve 17 = .ok (.lconst 0, 1) := by decide +kernel
theorem dX6_solve_18 : decode cX6_solve 18 = .ok (.lastore, 1) := by decide +kernel
theorem dX6_solve_19 : decode cX6_solve 19 = .ok (.iload_n 1, 1) := by decide +kernel
theorem dX6_solve_20 : decode cX6_solve 20 = .ok (.iload 4, 2) := by decide +kernel
theorem dX6_solve_22 : decode cX6_solve 22 = .ok (.ishr, 1) := by decide +kernel
theorem dX6_solve_23 : decode cX6_solve 23 = .ok (.iconst 1, 1) := by decide +kernel
theorem dX6_solve_24 : decode cX6_solve 24 = .ok (.iand, 1) := by decide +kernel
theorem dX6_solve_25 : decode cX6_solve 25 = .ok (.iconst 1, 1) := by decide +kernel
theorem dX6_solve_26 : decode cX6_solve 26 = .ok (.if_icmp .ne 14, 3) := by decide +kernel
theorem dX6_solve_29 : decode cX6_solve 29 = .ok (.aload_n 0, 1) := by decide +kernel
theorem dX6_solve_30 : decode cX6_solve 30 = .ok (.getfield 53, 3) := by decide +kernel
theorem dX6_solve_33 : decode cX6_solve 33 = .ok (.iload_n 3, 1) := by decide +kernel
theorem dX6_solve_34 : decode cX6_solve 34 = .ok (.iload 4, 2) := by decide +kernel
theorem dX6_solve_36 : decode cX6_solve 36 = .ok (.iastore, 1) := by decide +kernel
theorem dX6_solve_37 : decode cX6_solve 37 = .ok (.iinc 3 1, 3) := by decide +kernel
theorem dX6_solve_40 : decode cX6_solve 40 = .ok (.iinc 4 1, 3) := by decide +kernel
theorem dX6_solve_43 : decode cX6_solve 43 = .ok (.goto (-38), 3) := by decide +kernel
theorem dX6_solve_46 : decode cX6_solve 46 = .ok (.iconst 0, 1) := by decide +kernel
theorem dX6_solve_47 : decode cX6_solve 47 = .ok (.istore 4, 2) := by decide +kernel
theorem dX6_solve_49 : decode cX6_solve 49 = .ok (.iload 4, 2) := by decide +kernel
theorem dX6_solve_51 : decode cX6_solve 51 = .ok (.iload_n 3, 1) := by decide +kernel
theorem dX6_solve_52 : decode cX6_solve 52 = .ok (.if_icmp .ge 81, 3) := by decide +kernel
theorem dX6_solve_55 : decode cX6_solve 55 = .ok (.iconst 0, 1) := by decide +kernel
theorem dX6_solve_56 : decode cX6_solve 56 = .ok (.istore 5, 2) := by decide +kernel
theorem dX6_solve_58 : decode cX6_solve 58 = .ok (.iload 5, 2) := by decide +kernel
theorem dX6_solve_60 : decode cX6_solve 60 = .ok (.iload_n 3, 1) := by decide +kernel
theorem dX6_solve_61 : decode cX6_solve 61 = .ok (.if_icmp .ge 43, 3) := by decide +kernel
theorem dX6_solve_64 : decode cX6_solve 64 = .ok (.aload_n 0, 1) := by decide +kernel
theorem dX6_solve_65 : decode cX6_solve 65 = .ok (.getfield 50, 3) := by decide +kernel
theorem dX6_solve_68 : decode cX6_solve 68 = .ok (.iconst 5, 1) := by decide +kernel
theorem dX6_solve_69 : decode cX6_solve 69 = .ok (.iload 4, 2) := by decide +kernel
theorem dX6_solve_71 : decode cX6_solve 71 = .ok (.imul, 1) := by decide +kernel
theorem dX6_solve_72 : decode cX6_solve 72 = .ok (.iload 5, 2) := by decide +kernel
theorem dX6_solve_74 : decode cX6_solve 74 = .ok (.iadd, 1) := by decide +kernel
theorem dX6_solve_75 : decode cX6_solve 75 = .ok (.aload_n 0, 1) := by decide +kernel
theorem dX6_solve_76 : decode cX6_solve 76 = .ok (.getfield 43, 3) := by decide +kernel
theorem dX6_solve_79 : decode cX6_solve 79 = .ok (.aload_n 0, 1) := by decide +kernel
theorem dX6_solve_80 : decode cX6_solve 80 = .ok (.getfield 53, 3) := by decide +kernel
theorem dX6_solve_83 : decode cX6_solve 83 = .ok (.iload 4, 2) := by decide +kernel
theorem dX6_solve_85 : decode cX6_solve 85 = .ok (.iaload, 1) := by decide +kernel
theorem dX6_solve_86 : decode cX6_solve 86 = .ok (.aload_n 0, 1) := by decide +kernel
theorem dX6_solve_87 : decode cX6_solve 87 = .ok (.getfield 53, 3) := by decide +kernel
theorem dX6_solve_90 : decode cX6_solve 90 = .ok (.iload 5, 2) := by decide +kernel
theorem dX6_solve_92 : decode cX6_solve 92 = .ok (.iaload, 1) := by decide +kernel
theorem dX6_solve_93 : decode cX6_solve 93 = .ok (.invokestatic 204, 3) := by decide +kernel
theorem dX6_solve_96 : decode cX6_solve 96 = .ok (.laload, 1) := by decide +kernel
theorem dX6_solve_97 : decode cX6_solve 97 = .ok (.lastore, 1) := by decide +kernel
theorem dX6_solve_98 : decode cX6_solve 98 = .ok (.iinc 5 1, 3) := by decide +kernel
theorem dX6_solve_101 : decode cX6_solve 101 = .ok (.goto (-43), 3) := by decide +kernel
theorem dX6_solve_104 : decode cX6_solve 104 = .ok (.aload_n 0, 1) := by decide +kernel
theorem dX6_solve_105 : decode cX6_solve 105 = .ok (.getfield 50, 3) := by decide +kernel
theorem dX6_solve_108 : decode cX6_solve 108 = .ok (.iconst 5, 1) := by decide +kernel
theorem dX6_solve_109 : decode cX6_solve 109 = .ok (.iload 4, 2) := by decide +kernel
theorem dX6_solve_111 : decode cX6_solve 111 = .ok (.imul, 1) := by decide +kernel
theorem dX6_solve_112 : decode cX6_solve 112 = .ok (.iload_n 3, 1) := by decide +kernel
theorem dX6_solve_113 : decode cX6_solve 113 = .ok (.iadd, 1) := by decide +kernel
theorem dX6_solve_114 : decode cX6_solve 114 = .ok (.aload_n 0, 1) := by decide +kernel
theorem dX6_solve_115 : decode cX6_solve 115 = .ok (.getfield 47, 3) := by decide +kernel
theorem dX6_solve_118 : decode cX6_solve 118 = .ok (.aload_n 0, 1) := by decide +kernel
theorem dX6_solve_119 : decode cX6_solve 119 = .ok (.getfield 53, 3) := by decide +kernel
theorem dX6_solve_122 : decode cX6_solve 122 = .ok (.iload 4, 2) := by decide +kernel
theorem dX6_solve_124 : decode cX6_solve 124 = .ok (.iaload, 1) := by decide +kernel
theorem dX6_solve_125 : decode cX6_solve 125 = .ok (.laload, 1) := by decide +kernel
theorem dX6_solve_126 : decode cX6_solve 126 = .ok (.lastore, 1) := by decide +kernel
theorem dX6_solve_127 : decode cX6_solve 127 = .ok (.iinc 4 1, 3) := by decide +kernel
theorem dX6_solve_130 : decode cX6_solve 130 = .ok (.goto (-81), 3) := by decide +kernel
theorem dX6_solve_133 : decode cX6_solve 133 = .ok (.aload_n 0, 1) := by decide +kernel
theorem dX6_solve_134 : decode cX6_solve 134 = .ok (.lconst 1, 1) := by decide +kernel
theorem dX6_solve_135 : decode cX6_solve 135 = .ok (.putfield 207, 3) := by decide +kernel
theorem dX6_solve_138 : decode cX6_solve 138 = .ok (.iconst 0, 1) := by decide +kernel
theorem dX6_solve_139 : decode cX6_solve 139 = .ok (.istore 4, 2) := by decide +kernel
theorem dX6_solve_141 : decode cX6_solve 141 = .ok (.iload 4, 2) := by decide +kernel
theorem dX6_solve_143 : decode cX6_solve 143 = .ok (.iload_n 3, 1) := by decide +kernel
theorem dX6_solve_144 : decode cX6_solve 144 = .ok (.if_icmp .ge 16, 3) := by decide +kernel
theorem dX6_solve_147 : decode cX6_solve 147 = .ok (.aload_n 0, 1) := by decide +kernel
theorem dX6_solve_148 : decode cX6_solve 148 = .ok (.iload 4, 2) := by decide +kernel
theorem dX6_solve_150 : decode cX6_solve 150 = .ok (.iload_n 3, 1) := by decide +kernel
theorem dX6_solve_151 : decode cX6_solve 151 = .ok (.invokevirtual 210, 3) := by decide +kernel
theorem dX6_solve_154 : decode cX6_solve 154 = .ok (.iinc 4 1, 3) := by decide +kernel
theorem dX6_solve_157 : decode cX6_solve 157 = .ok (.goto (-16), 3) := by decide +kernel
theorem dX6_solve_160 : decode cX6_solve 160 = .ok (.iconst 0, 1) := by decide +kernel
theorem dX6_solve_161 : decode cX6_solve 161 = .ok (.istore 4, 2) := by decide +kernel
theorem dX6_solve_163 : decode cX6_solve 163 = .ok (.iload 4, 2) := by decide +kernel
theorem dX6_solve_165 : decode cX6_solve 165 = .ok (.iload_n 3, 1) := by decide +kernel
theorem dX6_solve_166 : decode cX6_solve 166 = .ok (.if_icmp .ge 32, 3) := by decide +kernel
theorem dX6_solve_169 : decode cX6_solve 169 = .ok (.aload_n 0, 1) := by decide +kernel
theorem dX6_solve_170 : decode cX6_solve 170 = .ok (.getfield 56, 3) := by decide +kernel
theorem dX6_solve_173 : decode cX6_solve 173 = .ok (.aload_n 0, 1) := by decide +kernel
theorem dX6_solve_174 : decode cX6_solve 174 = .ok (.getfield 53, 3) := by decide +kernel
theorem dX6_solve_177 : decode cX6_solve 177 = .ok (.iload 4, 2) := by decide +kernel
theorem dX6_solve_179 : decode cX6_solve 179 = .ok (.iaload, 1) := by decide +kernel
theorem dX6_solve_180 : decode cX6_solve 180 = .ok (.aload_n 0, 1) := by decide +kernel
theorem dX6_solve_181 : decode cX6_solve 181 = .ok (.getfield 50, 3) := by decide +kernel
theorem dX6_solve_184 : decode cX6_solve 184 = .ok (.iconst 5, 1) := by decide +kernel
theorem dX6_solve_185 : decode cX6_solve 185 = .ok (.iload 4, 2) := by decide +kernel
theorem dX6_solve_187 : decode cX6_solve 187 = .ok (.imul, 1) := by decide +kernel
theorem dX6_solve_188 : decode cX6_solve 188 = .ok (.iload_n 3, 1) := by decide +kernel
theorem dX6_solve_189 : decode cX6_solve 189 = .ok (.iadd, 1) := by decide +kernel
theorem dX6_solve_190 : decode cX6_solve 190 = .ok (.laload, 1) := by decide +kernel
theorem dX6_solve_191 : decode cX6_solve 191 = .ok (.lastore, 1) := by decide +kernel
theorem dX6_solve_192 : decode cX6_solve 192 = .ok (.iinc 4 1, 3) := by decide +kernel
theorem dX6_solve_195 : decode cX6_solve 195 = .ok (.goto (-32), 3) := by decide +kernel
theorem dX6_solve_198 : decode cX6_solve 198 = .ok (.return_, 1) := by decide +kernel
theorem dX6_clear_0 : decode cX6_clear 0 = .ok (.aload_n 0, 1) := by decide +kernel
theorem dX6_clear_1 : decode cX6_clear 1 = .ok (.getfield 50, 3) := by decide +kernel
theorem dX6_clear_4 : decode cX6_clear 4 = .ok (.iconst 5, 1) := by decide +kernel
theorem dX6_clear_5 : decode cX6_clear 5 = .ok (.iload_n 1, 1) := by decide +kernel
theorem dX6_clear_6 : decode cX6_clear 6 = .ok (.imul, 1) := by decide +kernel
theorem dX6_clear_7 : decode cX6_clear 7 = .ok (.iload_n 1, 1) := by decide +kernel
theorem dX6_clear_8 : decode cX6_clear 8 = .ok (.iadd, 1) := by decide +kernel
theorem dX6_clear_9 : decode cX6_clear 9 = .ok (.laload, 1) := by decide +kernel
theorem dX6_clear_10 : decode cX6_clear 10 = .ok (.lstore_n 3, 1) := by decide +kernel
theorem dX6_clear_11 : decode cX6_clear 11 = .ok (.iconst 0, 1) := by decide +kernel
theorem dX6_clear_12 : decode cX6_clear 12 = .ok (.istore 5, 2) := by decide +kernel
theorem dX6_clear_14 : decode cX6_clear 14 = .ok (.iload 5, 2) := by decide +kernel
theorem dX6_clear_16 : decode cX6_clear 16 = .ok (.iload_n 2, 1) := by decide +kernel
theorem dX6_clear_17 : decode cX6_clear 17 = .ok (.if_icmp .ge 89, 3) := by decide +kernel
theorem dX6_clear_20 : decode cX6_clear 20 = .ok (.aload_n 0, 1) := by decide +kernel
theorem dX6_clear_21 : decode cX6_clear 21 = .ok (.getfield 50, 3) := by decide +kernel
theorem dX6_clear_24 : decode cX6_clear 24 = .ok (.iconst 5, 1) := by decide +kernel
theorem dX6_clear_25 : decode cX6_clear 25 = .ok (.iload 5, 2) := by decide +kernel
theorem dX6_clear_27 : decode cX6_clear 27 = .ok (.imul, 1) := by decide +kernel
theorem dX6_clear_28 : decode cX6_clear 28 = .ok (.iload_n 1, 1) := by decide +kernel
