theorem dX5_withStorm_114 : decode cX5_withStorm 114 = .ok (.iconst 0, 1) := by decide +kernel
theorem dX5_withStorm_115 : decode cX5_withStorm 115 = .ok (.istore 6, 2) := by decide +kernel
theorem dX5_withStorm_117 : decode cX5_withStorm 117 = .ok (.iload 6, 2) := by decide +kernel
theorem dX5_withStorm_119 : decode cX5_withStorm 119 = .ok (.bipush 8, 2) := by decide +kernel
theorem dX5_withStorm_121 : decode cX5_withStorm 121 = .ok (.if_icmp .ge 27, 3) := by decide +kernel
theorem dX5_withStorm_124 : decode cX5_withStorm 124 = .ok (.lload 4, 2) := by decide +kernel
theorem dX5_withStorm_126 : decode cX5_withStorm 126 = .ok (.aload_n 0, 1) := by decide +kernel
theorem dX5_withStorm_127 : decode cX5_withStorm 127 = .ok (.iload_n 3, 1) := by decide +kernel
theorem dX5_withStorm_128 : decode cX5_withStorm 128 = .ok (.bipush 10, 2) := by decide +kernel
theorem dX5_withStorm_130 : decode cX5_withStorm 130 = .ok (.iload 6, 2) := by decide +kernel
theorem dX5_withStorm_132 : decode cX5_withStorm 132 = .ok (.iadd, 1) := by decide +kernel
theorem dX5_withStorm_133 : decode cX5_withStorm 133 = .ok (.invokevirtual 213, 3) := by decide +kernel
theorem dX5_withStorm_136 : decode cX5_withStorm 136 = .ok (.i2l, 1) := by decide +kernel
theorem dX5_withStorm_137 : decode cX5_withStorm 137 = .ok (.invokestatic 198, 3) := by decide +kernel
theorem dX5_withStorm_140 : decode cX5_withStorm 140 = .ok (.lstore 4, 2) := by decide +kernel
theorem dX5_withStorm_142 : decode cX5_withStorm 142 = .ok (.iinc 6 1, 3) := by decide +kernel
theorem dX5_withStorm_145 : decode cX5_withStorm 145 = .ok (.goto (-28), 3) := by decide +kernel
theorem dX5_withStorm_148 : decode cX5_withStorm 148 = .ok (.lload 4, 2) := by decide +kernel
theorem dX5_withStorm_150 : decode cX5_withStorm 150 = .ok (.lreturn, 1) := by decide +kernel
set_option maxRecDepth 20000 in
theorem ggX5_withUnit_X5_unit : GoodIn wsX5_withUnit wsX5_unit := goodIn_r _ [5, 6, 7, 8, 9, 10, 11, 12, 13, 4, 14, 15, 16, 17, 18, 19, 20, 21, 22, 23, 24, 25, 26, 27, 28, 29, 30, 31, 36, 37, 38, 39, 40, 41, 42, 43, 44, 45, 46, 47, 48, 49, 50] (by decide +kernel) (by decide +kernel)
set_option maxRecDepth 20000 in
theorem gX5_withUnit_X5_unit : GoodIn wsX5_withUnit (wsV RX5 216 RX5 yX5_unit wsX5_unit) := goodIn_app (goodIn_of _ (by decide +kernel)) ggX5_withUnit_X5_unit
set_option maxRecDepth 20000 in
theorem ggX5_withUnit_X5_with : GoodIn wsX5_withUnit wsX5_with := goodIn_r _ [34, 35] (by decide +kernel) (by decide +kernel)
set_option maxRecDepth 20000 in
theorem gX5_withUnit_X5_with : GoodIn wsX5_withUnit (va_wsS RX5 198 yX5_with wsX5_with) := goodIn_app (goodIn_of _ (by decide +kernel)) ggX5_withUnit_X5_with
theorem dX5_withUnit_0 : decode cX5_withUnit 0 = .ok (.lload_n 1, 1) := by decide +kernel
theorem dX5_withUnit_1 : decode cX5_withUnit 1 = .ok (.lstore 4, 2) := by decide +kernel
theorem dX5_withUnit_3 : decode cX5_withUnit 3 = .ok (.iconst 0, 1) := by decide +kernel
theorem dX5_withUnit_4 : decode cX5_withUnit 4 = .ok (.istore 6, 2) := by decide +kernel
theorem dX5_withUnit_6 : decode cX5_withUnit 6 = .ok (.iload 6, 2) := by decide +kernel
theorem dX5_withUnit_8 : decode cX5_withUnit 8 = .ok (.iconst 2, 1) := by decide +kernel
theorem dX5_withUnit_9 : decode cX5_withUnit 9 = .ok (.if_icmp .gt 24, 3) := by decide +kernel
theorem dX5_withUnit_12 : decode cX5_withUnit 12 = .ok (.lload 4, 2) := by decide +kernel
theorem dX5_withUnit_14 : decode cX5_withUnit 14 = .ok (.aload_n 0, 1) := by decide +kernel
theorem dX5_withUnit_15 : decode cX5_withUnit 15 = .ok (.iload_n 3, 1) := by decide +kernel
theorem dX5_withUnit_16 : decode cX5_withUnit 16 = .ok (.iload 6, 2) := by decide +kernel
theorem dX5_withUnit_18 : decode cX5_withUnit 18 = .ok (.invokevirtual 216, 3) := by decide +kernel
theorem dX5_withUnit_21 : decode cX5_withUnit 21 = .ok (.i2l, 1) := by decide +kernel
theorem dX5_withUnit_22 : decode cX5_withUnit 22 = .ok (.invokestatic 198, 3) := by decide +kernel
theorem dX5_withUnit_25 : decode cX5_withUnit 25 = .ok (.lstore 4, 2) := by decide +kernel
theorem dX5_withUnit_27 : decode cX5_withUnit 27 = .ok (.iinc 6 1, 3) := by decide +kernel
theorem dX5_withUnit_30 : decode cX5_withUnit 30 = .ok (.goto (-24), 3) := by decide +kernel
theorem dX5_withUnit_33 : decode cX5_withUnit 33 = .ok (.iconst 0, 1) := by decide +kernel
theorem dX5_withUnit_34 : decode cX5_withUnit 34 = .ok (.istore 6, 2) := by decide +kernel
theorem dX5_withUnit_36 : decode cX5_withUnit 36 = .ok (.iload 6, 2) := by decide +kernel
theorem dX5_withUnit_38 : decode cX5_withUnit 38 = .ok (.bipush 8, 2) := by decide +kernel
theorem dX5_withUnit_40 : decode cX5_withUnit 40 = .ok (.if_icmp .ge 27, 3) := by decide +kernel
theorem dX5_withUnit_43 : decode cX5_withUnit 43 = .ok (.lload 4, 2) := by decide +kernel
theorem dX5_withUnit_45 : decode cX5_withUnit 45 = .ok (.aload_n 0, 1) := by decide +kernel
theorem dX5_withUnit_46 : decode cX5_withUnit 46 = .ok (.iload_n 3, 1) := by decide +kernel
theorem dX5_withUnit_47 : decode cX5_withUnit 47 = .ok (.bipush 10, 2) := by decide +kernel
theorem dX5_withUnit_49 : decode cX5_withUnit 49 = .ok (.iload 6, 2) := by decide +kernel
theorem dX5_withUnit_51 : decode cX5_withUnit 51 = .ok (.iadd, 1) := by decide +kernel
theorem dX5_withUnit_52 : decode cX5_withUnit 52 = .ok (.invokevirtual 216, 3) := by decide +kernel
theorem dX5_withUnit_55 : decode cX5_withUnit 55 = .ok (.i2l, 1) := by decide +kernel
theorem dX5_withUnit_56 : decode cX5_withUnit 56 = .ok (.invokestatic 198, 3) := by decide +kernel
theorem dX5_withUnit_59 : decode cX5_withUnit 59 = .ok (.lstore 4, 2) := by decide +kernel
theorem dX5_withUnit_61 : decode cX5_withUnit 61 = .ok (.iinc 6 1, 3) := by decide +kernel
theorem dX5_withUnit_64 : decode cX5_withUnit 64 = .ok (.goto (-28), 3) := by decide +kernel
theorem dX5_withUnit_67 : decode cX5_withUnit 67 = .ok (.lload 4, 2) := by decide +kernel
theorem dX5_withUnit_69 : decode cX5_withUnit 69 = .ok (.lreturn, 1) := by decide +kernel
set_option maxRecDepth 20000 in
theorem ggX5_withFit_X0_partAbove : GoodIn wsX5_withFit wsX0_partAbove := goodIn_r _ [6, 7, 49, 50, 51, 52, 53, 54, 55, 56] (by decide +kernel) (by decide +kernel)
set_option maxRecDepth 20000 in
theorem gX5_withFit_X0_partAbove : GoodIn wsX5_withFit (wsV RX5 152 RX0 yX0_partAbove wsX0_partAbove) := goodIn_app (goodIn_of _ (by decide +kernel)) ggX5_withFit_X0_partAbove
set_option maxRecDepth 20000 in
theorem ggX5_withFit_X0_below : GoodIn wsX5_withFit wsX0_below := goodIn_r _ [11, 12, 49, 50, 51, 52, 53, 54, 55, 56] (by decide +kernel) (by decide +kernel)
set_option maxRecDepth 20000 in
theorem gX5_withFit_X0_below : GoodIn wsX5_withFit (wsV RX5 156 RX0 yX0_below wsX0_below) := goodIn_app (goodIn_of _ (by decide +kernel)) ggX5_withFit_X0_below
set_option maxRecDepth 20000 in
theorem ggX5_withFit_X5_withFraction : GoodIn wsX5_withFit wsX5_withFraction := goodIn_r _ [16, 17, 18, 15, 19, 20, 21, 22, 23, 24, 25, 26, 27, 28, 29, 30] (by decide +kernel) (by decide +kernel)
set_option maxRecDepth 20000 in
theorem gX5_withFit_X5_withFraction : GoodIn wsX5_withFit (va_wsS RX5 219 yX5_withFraction wsX5_withFraction) := goodIn_app (goodIn_of _ (by decide +kernel)) ggX5_withFit_X5_withFraction
set_option maxRecDepth 20000 in
theorem ggX5_withFit_X0_lossAbove : GoodIn wsX5_withFit wsX0_lossAbove := goodIn_r _ [34, 35, 12, 36, 37, 7, 49, 50, 51, 52, 53, 54, 55, 56] (by decide +kernel) (by decide +kernel)
set_option maxRecDepth 20000 in
theorem gX5_withFit_X0_lossAbove : GoodIn wsX5_withFit (wsV RX5 160 RX0 yX0_lossAbove wsX0_lossAbove) := goodIn_app (goodIn_of _ (by decide +kernel)) ggX5_withFit_X0_lossAbove
theorem dX5_withFit_0 : decode cX5_withFit 0 = .ok (.lload_n 1, 1) := by decide +kernel
theorem dX5_withFit_1 : decode cX5_withFit 1 = .ok (.lstore 4, 2) := by decide +kernel
theorem dX5_withFit_3 : decode cX5_withFit 3 = .ok (.iconst 0, 1) := by decide +kernel
theorem dX5_withFit_4 : decode cX5_withFit 4 = .ok (.istore 6, 2) := by decide +kernel
theorem dX5_withFit_6 : decode cX5_withFit 6 = .ok (.iload 6, 2) := by decide +kernel
theorem dX5_withFit_8 : decode cX5_withFit 8 = .ok (.iload_n 3, 1) := by decide +kernel
theorem dX5_withFit_9 : decode cX5_withFit 9 = .ok (.if_icmp .ge 32, 3) := by decide +kernel
theorem dX5_withFit_12 : decode cX5_withFit 12 = .ok (.lload 4, 2) := by decide +kernel
theorem dX5_withFit_14 : decode cX5_withFit 14 = .ok (.aload_n 0, 1) := by decide +kernel
theorem dX5_withFit_15 : decode cX5_withFit 15 = .ok (.getfield 35, 3) := by decide +kernel
theorem dX5_withFit_18 : decode cX5_withFit 18 = .ok (.iload 6, 2) := by decide +kernel
theorem dX5_withFit_20 : decode cX5_withFit 20 = .ok (.invokevirtual 152, 3) := by decide +kernel
theorem dX5_withFit_23 : decode cX5_withFit 23 = .ok (.aload_n 0, 1) := by decide +kernel
theorem dX5_withFit_24 : decode cX5_withFit 24 = .ok (.getfield 35, 3) := by decide +kernel
theorem dX5_withFit_27 : decode cX5_withFit 27 = .ok (.invokevirtual 156, 3) := by decide +kernel
theorem dX5_withFit_30 : decode cX5_withFit 30 = .ok (.invokestatic 219, 3) := by decide +kernel
theorem dX5_withFit_33 : decode cX5_withFit 33 = .ok (.lstore 4, 2) := by decide +kernel
theorem dX5_withFit_35 : decode cX5_withFit 35 = .ok (.iinc 6 1, 3) := by decide +kernel
theorem dX5_withFit_38 : decode cX5_withFit 38 = .ok (.goto (-32), 3) := by decide +kernel
theorem dX5_withFit_41 : decode cX5_withFit 41 = .ok (.lload 4, 2) := by decide +kernel
theorem dX5_withFit_43 : decode cX5_withFit 43 = .ok (.aload_n 0, 1) := by decide +kernel
theorem dX5_withFit_44 : decode cX5_withFit 44 = .ok (.getfield 35, 3) := by decide +kernel
theorem dX5_withFit_47 : decode cX5_withFit 47 = .ok (.invokevirtual 160, 3) := by decide +kernel
theorem dX5_withFit_50 : decode cX5_withFit 50 = .ok (.aload_n 0, 1) := by decide +kernel
theorem dX5_withFit_51 : decode cX5_withFit 51 = .ok (.getfield 35, 3) := by decide +kernel
theorem dX5_withFit_54 : decode cX5_withFit 54 = .ok (.invokevirtual 156, 3) := by decide +kernel
theorem dX5_withFit_57 : decode cX5_withFit 57 = .ok (.invokestatic 219, 3) := by decide +kernel
theorem dX5_withFit_60 : decode cX5_withFit 60 = .ok (.lreturn, 1) := by decide +kernel
set_option maxRecDepth 20000 in
theorem ggX5_withFraction_X5_inLowestTerms : GoodIn wsX5_withFraction wsX5_inLowestTerms := goodIn_r _ [4, 5, 6, 3, 7, 8, 9, 10, 11] (by decide +kernel) (by decide +kernel)
set_option maxRecDepth 20000 in
theorem gX5_withFraction_X5_inLowestTerms : GoodIn wsX5_withFraction (va_wsS RX5 135 yX5_inLowestTerms wsX5_inLowestTerms) := goodIn_app (goodIn_of _ (by decide +kernel)) ggX5_withFraction_X5_inLowestTerms
set_option maxRecDepth 20000 in
theorem ggX5_withFraction_X5_with : GoodIn wsX5_withFraction wsX5_with := goodIn_r _ [14, 15] (by decide +kernel) (by decide +kernel)
set_option maxRecDepth 20000 in
theorem gX5_withFraction_X5_with : GoodIn wsX5_withFraction (va_wsS RX5 198 yX5_with wsX5_with) := goodIn_app (goodIn_of _ (by decide +kernel)) ggX5_withFraction_X5_with
theorem dX5_withFraction_0 : decode cX5_withFraction 0 = .ok (.lload_n 0, 1) := by decide +kernel
theorem dX5_withFraction_1 : decode cX5_withFraction 1 = .ok (.lload_n 2, 1) := by decide +kernel
theorem dX5_withFraction_2 : decode cX5_withFraction 2 = .ok (.lload 4, 2) := by decide +kernel
theorem dX5_withFraction_4 : decode cX5_withFraction 4 = .ok (.iconst 0, 1) := by decide +kernel
theorem dX5_withFraction_5 : decode cX5_withFraction 5 = .ok (.invokestatic 135, 3) := by decide +kernel
theorem dX5_withFraction_8 : decode cX5_withFraction 8 = .ok (.invokestatic 198, 3) := by decide +kernel
theorem dX5_withFraction_11 : decode cX5_withFraction 11 = .ok (.lstore 6, 2) := by decide +kernel
theorem dX5_withFraction_13 : decode cX5_withFraction 13 = .ok (.lload 6, 2) := by decide +kernel
theorem dX5_withFraction_15 : decode cX5_withFraction 15 = .ok (.lload_n 2, 1) := by decide +kernel
theorem dX5_withFraction_16 : decode cX5_withFraction 16 = .ok (.lload 4, 2) := by decide +kernel
theorem dX5_withFraction_18 : decode cX5_withFraction 18 = .ok (.iconst 1, 1) := by decide +kernel
theorem dX5_withFraction_19 : decode cX5_withFraction 19 = .ok (.invokestatic 135, 3) := by decide +kernel
theorem dX5_withFraction_22 : decode cX5_withFraction 22 = .ok (.invokestatic 198, 3) := by decide +kernel
theorem dX5_withFraction_25 : decode cX5_withFraction 25 = .ok (.lreturn, 1) := by decide +kernel
set_option maxRecDepth 20000 in
theorem ggX5_takeStorm_X3_become : GoodIn wsX5_takeStorm wsX3_become := goodIn_r _ [11, 12, 13, 14, 15, 16, 17, 18, 19, 20, 21, 22, 23, 24, 25, 26, 27, 10, 28, 29, 30, 31, 32, 33, 34, 35, 36, 37, 38, 39, 40, 41, 42, 43, 44, 45, 46, 47, 65, 66, 67, 68, 69, 70] (by decide +kernel) (by decide +kernel)
set_option maxRecDepth 20000 in
theorem gX5_takeStorm_X3_become : GoodIn wsX5_takeStorm (wsV RX5 227 RX3 yX3_become wsX3_become) := goodIn_app (goodIn_of _ (by decide +kernel)) ggX5_takeStorm_X3_become
theorem dX5_takeStorm_0 : decode cX5_takeStorm 0 = .ok (.aload_n 0, 1) := by decide +kernel
theorem dX5_takeStorm_1 : decode cX5_takeStorm 1 = .ok (.getfield 179, 3) := by decide +kernel
theorem dX5_takeStorm_4 : decode cX5_takeStorm 4 = .ok (.iconst 3, 1) := by decide +kernel
theorem dX5_takeStorm_5 : decode cX5_takeStorm 5 = .ok (.if_icmp .lt 6, 3) := by decide +kernel
theorem dX5_takeStorm_8 : decode cX5_takeStorm 8 = .ok (.ldc 46, 2) := by decide +kernel
theorem dX5_takeStorm_10 : decode cX5_takeStorm 10 = .ok (.ireturn, 1) := by decide +kernel
theorem dX5_takeStorm_11 : decode cX5_takeStorm 11 = .ok (.aload_n 0, 1) := by decide +kernel
theorem dX5_takeStorm_12 : decode cX5_takeStorm 12 = .ok (.getfield 15, 3) := by decide +kernel
theorem dX5_takeStorm_15 : decode cX5_takeStorm 15 = .ok (.aload_n 0, 1) := by decide +kernel
theorem dX5_takeStorm_16 : decode cX5_takeStorm 16 = .ok (.getfield 179, 3) := by decide +kernel
theorem dX5_takeStorm_19 : decode cX5_takeStorm 19 = .ok (.aaload, 1) := by decide +kernel
theorem dX5_takeStorm_20 : decode cX5_takeStorm 20 = .ok (.aload_n 0, 1) := by decide +kernel
theorem dX5_takeStorm_21 : decode cX5_takeStorm 21 = .ok (.getfield 28, 3) := by decide +kernel
theorem dX5_takeStorm_24 : decode cX5_takeStorm 24 = .ok (.getfield 223, 3) := by decide +kernel
theorem dX5_takeStorm_27 : decode cX5_takeStorm 27 = .ok (.aload_n 0, 1) := by decide +kernel
theorem dX5_takeStorm_28 : decode cX5_takeStorm 28 = .ok (.getfield 28, 3) := by decide +kernel
theorem dX5_takeStorm_31 : decode cX5_takeStorm 31 = .ok (.getfield 224, 3) := by decide +kernel
theorem dX5_takeStorm_34 : decode cX5_takeStorm 34 = .ok (.invokevirtual 227, 3) := by decide +kernel
theorem dX5_takeStorm_37 : decode cX5_takeStorm 37 = .ok (.aload_n 0, 1) := by decide +kernel
theorem dX5_takeStorm_38 : decode cX5_takeStorm 38 = .ok (.dup, 1) := by decide +kernel
theorem dX5_takeStorm_39 : decode cX5_takeStorm 39 = .ok (.getfield 179, 3) := by decide +kernel
theorem dX5_takeStorm_42 : decode cX5_takeStorm 42 = .ok (.iconst 1, 1) := by decide +kernel
theorem dX5_takeStorm_43 : decode cX5_takeStorm 43 = .ok (.iadd, 1) := by decide +kernel
theorem dX5_takeStorm_44 : decode cX5_takeStorm 44 = .ok (.putfield 179, 3) := by decide +kernel
theorem dX5_takeStorm_47 : decode cX5_takeStorm 47 = .ok (.aload_n 0, 1) := by decide +kernel
theorem dX5_takeStorm_48 : decode cX5_takeStorm 48 = .ok (.getfield 179, 3) := by decide +kernel
theorem dX5_takeStorm_51 : decode cX5_takeStorm 51 = .ok (.iconst 1, 1) := by decide +kernel
theorem dX5_takeStorm_52 : decode cX5_takeStorm 52 = .ok (.isub, 1) := by decide +kernel
theorem dX5_takeStorm_53 : decode cX5_takeStorm 53 = .ok (.ireturn, 1) := by decide +kernel
set_option maxRecDepth 20000 in
theorem ggX5_takeUnit_X1_lengthOfUnit : GoodIn wsX5_takeUnit wsX1_lengthOfUnit := goodIn_r _ [12, 13, 38, 39, 40, 41, 42, 43] (by decide +kernel) (by decide +kernel)
set_option maxRecDepth 20000 in
theorem gX5_takeUnit_X1_lengthOfUnit : GoodIn wsX5_takeUnit (wsV RX5 231 RX1 yX1_lengthOfUnit wsX1_lengthOfUnit) := goodIn_app (goodIn_of _ (by decide +kernel)) ggX5_takeUnit_X1_lengthOfUnit
set_option maxRecDepth 20000 in
theorem ggX5_takeUnit_X2_become : GoodIn wsX5_takeUnit wsX2_become := goodIn_r _ [18, 19, 20, 21, 22, 23, 17, 24, 44, 45] (by decide +kernel) (by decide +kernel)
set_option maxRecDepth 20000 in
theorem gX5_takeUnit_X2_become : GoodIn wsX5_takeUnit (wsV RX5 234 RX2 yX2_become wsX2_become) := goodIn_app (goodIn_of _ (by decide +kernel)) ggX5_takeUnit_X2_become
theorem dX5_takeUnit_0 : decode cX5_takeUnit 0 = .ok (.aload_n 0, 1) := by decide +kernel
theorem dX5_takeUnit_1 : decode cX5_takeUnit 1 = .ok (.getfield 169, 3) := by decide +kernel
theorem dX5_takeUnit_4 : decode cX5_takeUnit 4 = .ok (.iconst 4, 1) := by decide +kernel
theorem dX5_takeUnit_5 : decode cX5_takeUnit 5 = .ok (.if_icmp .lt 6, 3) := by decide +kernel
theorem dX5_takeUnit_8 : decode cX5_takeUnit 8 = .ok (.ldc 46, 2) := by decide +kernel
theorem dX5_takeUnit_10 : decode cX5_takeUnit 10 = .ok (.ireturn, 1) := by decide +kernel
theorem dX5_takeUnit_11 : decode cX5_takeUnit 11 = .ok (.aload_n 0, 1) := by decide +kernel
theorem dX5_takeUnit_12 : decode cX5_takeUnit 12 = .ok (.getfield 21, 3) := by decide +kernel
theorem dX5_takeUnit_15 : decode cX5_takeUnit 15 = .ok (.aload_n 0, 1) := by decide +kernel
theorem dX5_takeUnit_16 : decode cX5_takeUnit 16 = .ok (.getfield 169, 3) := by decide +kernel
theorem dX5_takeUnit_19 : decode cX5_takeUnit 19 = .ok (.aaload, 1) := by decide +kernel
theorem dX5_takeUnit_20 : decode cX5_takeUnit 20 = .ok (.astore_n 1, 1) := by decide +kernel
theorem dX5_takeUnit_21 : decode cX5_takeUnit 21 = .ok (.aload_n 1, 1) := by decide +kernel
theorem dX5_takeUnit_22 : decode cX5_takeUnit 22 = .ok (.aload_n 0, 1) := by decide +kernel
theorem dX5_takeUnit_23 : decode cX5_takeUnit 23 = .ok (.getfield 28, 3) := by decide +kernel
theorem dX5_takeUnit_26 : decode cX5_takeUnit 26 = .ok (.invokevirtual 231, 3) := by decide +kernel
theorem dX5_takeUnit_29 : decode cX5_takeUnit 29 = .ok (.putfield 112, 3) := by decide +kernel
theorem dX5_takeUnit_32 : decode cX5_takeUnit 32 = .ok (.aload_n 1, 1) := by decide +kernel
theorem dX5_takeUnit_33 : decode cX5_takeUnit 33 = .ok (.getfield 109, 3) := by decide +kernel
theorem dX5_takeUnit_36 : decode cX5_takeUnit 36 = .ok (.aload_n 0, 1) := by decide +kernel
theorem dX5_takeUnit_37 : decode cX5_takeUnit 37 = .ok (.getfield 28, 3) := by decide +kernel
theorem dX5_takeUnit_40 : decode cX5_takeUnit 40 = .ok (.getfield 224, 3) := by decide +kernel
theorem dX5_takeUnit_43 : decode cX5_takeUnit 43 = .ok (.invokevirtual 234, 3) := by decide +kernel
theorem dX5_takeUnit_46 : decode cX5_takeUnit 46 = .ok (.aload_n 0, 1) := by decide +kernel
theorem dX5_takeUnit_47 : decode cX5_takeUnit 47 = .ok (.dup, 1) := by decide +kernel
theorem dX5_takeUnit_48 : decode cX5_takeUnit 48 = .ok (.getfield 169, 3) := by decide +kernel
theorem dX5_takeUnit_51 : decode cX5_takeUnit 51 = .ok (.iconst 1, 1) := by decide +kernel
theorem dX5_takeUnit_52 : decode cX5_takeUnit 52 = .ok (.iadd, 1) := by decide +kernel
theorem dX5_takeUnit_53 : decode cX5_takeUnit 53 = .ok (.putfield 169, 3) := by decide +kernel
theorem dX5_takeUnit_56 : decode cX5_takeUnit 56 = .ok (.aload_n 0, 1) := by decide +kernel
theorem dX5_takeUnit_57 : decode cX5_takeUnit 57 = .ok (.getfield 169, 3) := by decide +kernel
theorem dX5_takeUnit_60 : decode cX5_takeUnit 60 = .ok (.iconst 1, 1) := by decide +kernel
theorem dX5_takeUnit_61 : decode cX5_takeUnit 61 = .ok (.isub, 1) := by decide +kernel
theorem dX5_takeUnit_62 : decode cX5_takeUnit 62 = .ok (.ireturn, 1) := by decide +kernel
set_option maxRecDepth 20000 in
theorem ggX5_dropStorm_X5_hasStorm : GoodIn wsX5_dropStorm wsX5_hasStorm := goodIn_r _ [9, 3, 10, 11, 12, 13, 14, 15, 16, 17, 18, 19, 20] (by decide +kernel) (by decide +kernel)
set_option maxRecDepth 20000 in
theorem gX5_dropStorm_X5_hasStorm : GoodIn wsX5_dropStorm (wsV RX5 76 RX5 yX5_hasStorm wsX5_hasStorm) := goodIn_app (goodIn_of _ (by decide +kernel)) ggX5_dropStorm_X5_hasStorm
theorem dX5_dropStorm_0 : decode cX5_dropStorm 0 = .ok (.aload_n 0, 1) := by decide +kernel
theorem dX5_dropStorm_1 : decode cX5_dropStorm 1 = .ok (.iload_n 1, 1) := by decide +kernel
theorem dX5_dropStorm_2 : decode cX5_dropStorm 2 = .ok (.invokevirtual 76, 3) := by decide +kernel
theorem dX5_dropStorm_5 : decode cX5_dropStorm 5 = .ok (.ifCond .ne 6, 3) := by decide +kernel
theorem dX5_dropStorm_8 : decode cX5_dropStorm 8 = .ok (.ldc 80, 2) := by decide +kernel
theorem dX5_dropStorm_10 : decode cX5_dropStorm 10 = .ok (.ireturn, 1) := by decide +kernel
theorem dX5_dropStorm_11 : decode cX5_dropStorm 11 = .ok (.aload_n 0, 1) := by decide +kernel
theorem dX5_dropStorm_12 : decode cX5_dropStorm 12 = .ok (.getfield 15, 3) := by decide +kernel
theorem dX5_dropStorm_15 : decode cX5_dropStorm 15 = .ok (.iload_n 1, 1) := by decide +kernel
theorem dX5_dropStorm_16 : decode cX5_dropStorm 16 = .ok (.aaload, 1) := by decide +kernel
theorem dX5_dropStorm_17 : decode cX5_dropStorm 17 = .ok (.astore_n 2, 1) := by decide +kernel
theorem dX5_dropStorm_18 : decode cX5_dropStorm 18 = .ok (.iload_n 1, 1) := by decide +kernel
theorem dX5_dropStorm_19 : decode cX5_dropStorm 19 = .ok (.istore_n 3, 1) := by decide +kernel
theorem dX5_dropStorm_20 : decode cX5_dropStorm 20 = .ok (.iload_n 3, 1) := by decide +kernel
theorem dX5_dropStorm_21 : decode cX5_dropStorm 21 = .ok (.aload_n 0, 1) := by decide +kernel
theorem dX5_dropStorm_22 : decode cX5_dropStorm 22 = .ok (.getfield 179, 3) := by decide +kernel
theorem dX5_dropStorm_25 : decode cX5_dropStorm 25 = .ok (.iconst 1, 1) := by decide +kernel
theorem dX5_dropStorm_26 : decode cX5_dropStorm 26 = .ok (.isub, 1) := by decide +kernel
theorem dX5_dropStorm_27 : decode cX5_dropStorm 27 = .ok (.if_icmp .ge 23, 3) := by decide +kernel
theorem dX5_dropStorm_30 : decode cX5_dropStorm 30 = .ok (.aload_n 0, 1) := by decide +kernel
theorem dX5_dropStorm_31 : decode cX5_dropStorm 31 = .ok (.getfield 15, 3) := by decide +kernel
theorem dX5_dropStorm_34 : decode cX5_dropStorm 34 = .ok (.iload_n 3, 1) := by decide +kernel
theorem dX5_dropStorm_35 : decode cX5_dropStorm 35 = .ok (.aload_n 0, 1) := by decide +kernel
theorem dX5_dropStorm_36 : decode cX5_dropStorm 36 = .ok (.getfield 15, 3) := by decide +kernel
theorem dX5_dropStorm_39 : decode cX5_dropStorm 39 = .ok (.iload_n 3, 1) := by decide +kernel
theorem dX5_dropStorm_40 : decode cX5_dropStorm 40 = .ok (.iconst 1, 1) := by decide +kernel
theorem dX5_dropStorm_41 : decode cX5_dropStorm 41 = .ok (.iadd, 1) := by decide +kernel
theorem dX5_dropStorm_42 : decode cX5_dropStorm 42 = .ok (.aaload, 1) := by decide +kernel
theorem dX5_dropStorm_43 : decode cX5_dropStorm 43 = .ok (.aastore, 1) := by decide +kernel
theorem dX5_dropStorm_44 : decode cX5_dropStorm 44 = .ok (.iinc 3 1, 3) := by decide +kernel
theorem dX5_dropStorm_47 : decode cX5_dropStorm 47 = .ok (.goto (-27), 3) := by decide +kernel
theorem dX5_dropStorm_50 : decode cX5_dropStorm 50 = .ok (.aload_n 0, 1) := by decide +kernel
theorem dX5_dropStorm_51 : decode cX5_dropStorm 51 = .ok (.dup, 1) := by decide +kernel
theorem dX5_dropStorm_52 : decode cX5_dropStorm 52 = .ok (.getfield 179, 3) := by decide +kernel
theorem dX5_dropStorm_55 : decode cX5_dropStorm 55 = .ok (.iconst 1, 1) := by decide +kernel
theorem dX5_dropStorm_56 : decode cX5_dropStorm 56 = .ok (.isub, 1) := by decide +kernel
theorem dX5_dropStorm_57 : decode cX5_dropStorm 57 = .ok (.putfield 179, 3) := by decide +kernel
theorem dX5_dropStorm_60 : decode cX5_dropStorm 60 = .ok (.aload_n 0, 1) := by decide +kernel
theorem dX5_dropStorm_61 : decode cX5_dropStorm 61 = .ok (.getfield 15, 3) := by decide +kernel
theorem dX5_dropStorm_64 : decode cX5_dropStorm 64 = .ok (.aload_n 0, 1) := by decide +kernel
theorem dX5_dropStorm_65 : decode cX5_dropStorm 65 = .ok (.getfield 179, 3) := by decide +kernel
theorem dX5_dropStorm_68 : decode cX5_dropStorm 68 = .ok (.aload_n 2, 1) := by decide +kernel
theorem dX5_dropStorm_69 : decode cX5_dropStorm 69 = .ok (.aastore, 1) := by decide +kernel
theorem dX5_dropStorm_70 : decode cX5_dropStorm 70 = .ok (.aload_n 0, 1) := by decide +kernel
theorem dX5_dropStorm_71 : decode cX5_dropStorm 71 = .ok (.dup, 1) := by decide +kernel
theorem dX5_dropStorm_72 : decode cX5_dropStorm 72 = .ok (.getfield 182, 3) := by decide +kernel
theorem dX5_dropStorm_75 : decode cX5_dropStorm 75 = .ok (.iconst 1, 1) := by decide +kernel
theorem dX5_dropStorm_76 : decode cX5_dropStorm 76 = .ok (.iadd, 1) := by decide +kernel
theorem dX5_dropStorm_77 : decode cX5_dropStorm 77 = .ok (.putfield 182, 3) := by decide +kernel
theorem dX5_dropStorm_80 : decode cX5_dropStorm 80 = .ok (.aload_n 0, 1) := by decide +kernel
theorem dX5_dropStorm_81 : decode cX5_dropStorm 81 = .ok (.getfield 179, 3) := by decide +kernel
theorem dX5_dropStorm_84 : decode cX5_dropStorm 84 = .ok (.ireturn, 1) := by decide +kernel
set_option maxRecDepth 20000 in
theorem ggX5_dropUnit_X5_hasUnit : GoodIn wsX5_dropUnit wsX5_hasUnit := goodIn_r _ [9, 3, 10, 11, 12, 13, 14, 15, 16, 17, 18, 19, 20] (by decide +kernel) (by decide +kernel)
set_option maxRecDepth 20000 in
theorem gX5_dropUnit_X5_hasUnit : GoodIn wsX5_dropUnit (wsV RX5 106 RX5 yX5_hasUnit wsX5_hasUnit) := goodIn_app (goodIn_of _ (by decide +kernel)) ggX5_dropUnit_X5_hasUnit
theorem dX5_dropUnit_0 : decode cX5_dropUnit 0 = .ok (.aload_n 0, 1) := by decide +kernel
theorem dX5_dropUnit_1 : decode cX5_dropUnit 1 = .ok (.iload_n 1, 1) := by decide +kernel
theorem dX5_dropUnit_2 : decode cX5_dropUnit 2 = .ok (.invokevirtual 106, 3) := by decide +kernel
theorem dX5_dropUnit_5 : decode cX5_dropUnit 5 = .ok (.ifCond .ne 6, 3) := by decide +kernel
theorem dX5_dropUnit_8 : decode cX5_dropUnit 8 = .ok (.ldc 80, 2) := by decide +kernel
theorem dX5_dropUnit_10 : decode cX5_dropUnit 10 = .ok (.ireturn, 1) := by decide +kernel
theorem dX5_dropUnit_11 : decode cX5_dropUnit 11 = .ok (.aload_n 0, 1) := by decide +kernel
theorem dX5_dropUnit_12 : decode cX5_dropUnit 12 = .ok (.getfield 21, 3) := by decide +kernel
theorem dX5_dropUnit_15 : decode cX5_dropUnit 15 = .ok (.iload_n 1, 1) := by decide +kernel
theorem dX5_dropUnit_16 : decode cX5_dropUnit 16 = .ok (.aaload, 1) := by decide +kernel
theorem dX5_dropUnit_17 : decode cX5_dropUnit 17 = .ok (.astore_n 2, 1) := by decide +kernel
theorem dX5_dropUnit_18 : decode cX5_dropUnit 18 = .ok (.iload_n 1, 1) := by decide +kernel
theorem dX5_dropUnit_19 : decode cX5_dropUnit 19 = .ok (.istore_n 3, 1) := by decide +kernel
theorem dX5_dropUnit_20 : decode cX5_dropUnit 20 = .ok (.iload_n 3, 1) := by decide +kernel
theorem dX5_dropUnit_21 : decode cX5_dropUnit 21 = .ok (.aload_n 0, 1) := by decide +kernel
theorem dX5_dropUnit_22 : decode cX5_dropUnit 22 = .ok (.getfield 169, 3) := by decide +kernel
theorem dX5_dropUnit_25 : decode cX5_dropUnit 25 = .ok (.iconst 1, 1) := by decide +kernel
theorem dX5_dropUnit_26 : decode cX5_dropUnit 26 = .ok (.isub, 1) := by decide +kernel
theorem dX5_dropUnit_27 : decode cX5_dropUnit 27 = .ok (.if_icmp .ge 23, 3) := by decide +kernel
theorem dX5_dropUnit_30 : decode cX5_dropUnit 30 = .ok (.aload_n 0, 1) := by decide +kernel
theorem dX5_dropUnit_31 : decode cX5_dropUnit 31 = .ok (.getfield 21, 3) := by decide +kernel
theorem dX5_dropUnit_34 : decode cX5_dropUnit 34 = .ok (.iload_n 3, 1) := by decide +kernel
theorem dX5_dropUnit_35 : decode cX5_dropUnit 35 = .ok (.aload_n 0, 1) := by decide +kernel
theorem dX5_dropUnit_36 : decode cX5_dropUnit 36 = .ok (.getfield 21, 3) := by decide +kernel
theorem dX5_dropUnit_39 : decode cX5_dropUnit 39 = .ok (.iload_n 3, 1) := by decide +kernel
theorem dX5_dropUnit_40 : decode cX5_dropUnit 40 = .ok (.iconst 1, 1) := by decide +kernel
theorem dX5_dropUnit_41 : decode cX5_dropUnit 41 = .ok (.iadd, 1) := by decide +kernel
theorem dX5_dropUnit_42 : decode cX5_dropUnit 42 = .ok (.aaload, 1) := by decide +kernel
theorem dX5_dropUnit_43 : decode cX5_dropUnit 43 = .ok (.aastore, 1) := by decide +kernel
theorem dX5_dropUnit_44 : decode cX5_dropUnit 44 = .ok (.iinc 3 1, 3) := by decide +kernel
theorem dX5_dropUnit_47 : decode cX5_dropUnit 47 = .ok (.goto (-27), 3) := by decide +kernel
theorem dX5_dropUnit_50 : decode cX5_dropUnit 50 = .ok (.aload_n 0, 1) := by decide +kernel
theorem dX5_dropUnit_51 : decode cX5_dropUnit 51 = .ok (.dup, 1) := by decide +kernel
theorem dX5_dropUnit_52 : decode cX5_dropUnit 52 = .ok (.getfield 169, 3) := by decide +kernel
theorem dX5_dropUnit_55 : decode cX5_dropUnit 55 = .ok (.iconst 1, 1) := by decide +kernel
theorem dX5_dropUnit_56 : decode cX5_dropUnit 56 = .ok (.isub, 1) := by decide +kernel
theorem dX5_dropUnit_57 : decode cX5_dropUnit 57 = .ok (.putfield 169, 3) := by decide +kernel
theorem dX5_dropUnit_60 : decode cX5_dropUnit 60 = .ok (.aload_n 0, 1) := by decide +kernel
theorem dX5_dropUnit_61 : decode cX5_dropUnit 61 = .ok (.getfield 21, 3) := by decide +kernel
theorem dX5_dropUnit_64 : decode cX5_dropUnit 64 = .ok (.aload_n 0, 1) := by decide +kernel
theorem dX5_dropUnit_65 : decode cX5_dropUnit 65 = .ok (.getfield 169, 3) := by decide +kernel
theorem dX5_dropUnit_68 : decode cX5_dropUnit 68 = .ok (.aload_n 2, 1) := by decide +kernel
theorem dX5_dropUnit_69 : decode cX5_dropUnit 69 = .ok (.aastore, 1) := by decide +kernel
theorem dX5_dropUnit_70 : decode cX5_dropUnit 70 = .ok (.aload_n 0, 1) := by decide +kernel
theorem dX5_dropUnit_71 : decode cX5_dropUnit 71 = .ok (.dup, 1) := by decide +kernel
theorem dX5_dropUnit_72 : decode cX5_dropUnit 72 = .ok (.getfield 182, 3) := by decide +kernel
theorem dX5_dropUnit_75 : decode cX5_dropUnit 75 = .ok (.iconst 1, 1) := by decide +kernel
theorem dX5_dropUnit_76 : decode cX5_dropUnit 76 = .ok (.iadd, 1) := by decide +kernel
theorem dX5_dropUnit_77 : decode cX5_dropUnit 77 = .ok (.putfield 182, 3) := by decide +kernel
theorem dX5_dropUnit_80 : decode cX5_dropUnit 80 = .ok (.aload_n 0, 1) := by decide +kernel
theorem dX5_dropUnit_81 : decode cX5_dropUnit 81 = .ok (.getfield 169, 3) := by decide +kernel
theorem dX5_dropUnit_84 : decode cX5_dropUnit 84 = .ok (.ireturn, 1) := by decide +kernel
theorem dX5_hasStorm_0 : decode cX5_hasStorm 0 = .ok (.iload_n 1, 1) := by decide +kernel
theorem dX5_hasStorm_1 : decode cX5_hasStorm 1 = .ok (.ifCond .lt 15, 3) := by decide +kernel
theorem dX5_hasStorm_4 : decode cX5_hasStorm 4 = .ok (.iload_n 1, 1) := by decide +kernel
theorem dX5_hasStorm_5 : decode cX5_hasStorm 5 = .ok (.aload_n 0, 1) := by decide +kernel
theorem dX5_hasStorm_6 : decode cX5_hasStorm 6 = .ok (.getfield 179, 3) := by decide +kernel
theorem dX5_hasStorm_9 : decode cX5_hasStorm 9 = .ok (.if_icmp .ge 7, 3) := by decide +kernel
theorem dX5_hasStorm_12 : decode cX5_hasStorm 12 = .ok (.iconst 1, 1) := by decide +kernel
theorem dX5_hasStorm_13 : decode cX5_hasStorm 13 = .ok (.goto 4, 3) := by decide +kernel
theorem dX5_hasStorm_16 : decode cX5_hasStorm 16 = .ok (.iconst 0, 1) := by decide +kernel
theorem dX5_hasStorm_17 : decode cX5_hasStorm 17 = .ok (.ireturn, 1) := by decide +kernel
theorem dX5_hasUnit_0 : decode cX5_hasUnit 0 = .ok (.iload_n 1, 1) := by decide +kernel
theorem dX5_hasUnit_1 : decode cX5_hasUnit 1 = .ok (.ifCond .lt 15, 3) := by decide +kernel
theorem dX5_hasUnit_4 : decode cX5_hasUnit 4 = .ok (.iload_n 1, 1) := by decide +kernel
theorem dX5_hasUnit_5 : decode cX5_hasUnit 5 = .ok (.aload_n 0, 1) := by decide +kernel
theorem dX5_hasUnit_6 : decode cX5_hasUnit 6 = .ok (.getfield 169, 3) := by decide +kernel
theorem dX5_hasUnit_9 : decode cX5_hasUnit 9 = .ok (.if_icmp .ge 7, 3) := by decide +kernel
theorem dX5_hasUnit_12 : decode cX5_hasUnit 12 = .ok (.iconst 1, 1) := by decide +kernel
theorem dX5_hasUnit_13 : decode cX5_hasUnit 13 = .ok (.goto 4, 3) := by decide +kernel
theorem dX5_hasUnit_16 : decode cX5_hasUnit 16 = .ok (.iconst 0, 1) := by decide +kernel
theorem dX5_hasUnit_17 : decode cX5_hasUnit 17 = .ok (.ireturn, 1) := by decide +kernel
theorem dX5_isTick_0 : decode cX5_isTick 0 = .ok (.iload_n 0, 1) := by decide +kernel
theorem dX5_isTick_1 : decode cX5_isTick 1 = .ok (.ifCond .lt 13, 3) := by decide +kernel
theorem dX5_isTick_4 : decode cX5_isTick 4 = .ok (.iload_n 0, 1) := by decide +kernel
theorem dX5_isTick_5 : decode cX5_isTick 5 = .ok (.bipush 20, 2) := by decide +kernel
theorem dX5_isTick_7 : decode cX5_isTick 7 = .ok (.if_icmp .gt 7, 3) := by decide +kernel
theorem dX5_isTick_10 : decode cX5_isTick 10 = .ok (.iconst 1, 1) := by decide +kernel
theorem dX5_isTick_11 : decode cX5_isTick 11 = .ok (.goto 4, 3) := by decide +kernel
theorem dX5_isTick_14 : decode cX5_isTick 14 = .ok (.iconst 0, 1) := by decide +kernel
theorem dX5_isTick_15 : decode cX5_isTick 15 = .ok (.ireturn, 1) := by decide +kernel
theorem dX5_isLength_0 : decode cX5_isLength 0 = .ok (.iload_n 0, 1) := by decide +kernel
theorem dX5_isLength_1 : decode cX5_isLength 1 = .ok (.iconst 1, 1) := by decide +kernel
theorem dX5_isLength_2 : decode cX5_isLength 2 = .ok (.if_icmp .lt 12, 3) := by decide +kernel
theorem dX5_isLength_5 : decode cX5_isLength 5 = .ok (.iload_n 0, 1) := by decide +kernel
theorem dX5_isLength_6 : decode cX5_isLength 6 = .ok (.iconst 4, 1) := by decide +kernel
theorem dX5_isLength_7 : decode cX5_isLength 7 = .ok (.if_icmp .gt 7, 3) := by decide +kernel
theorem dX5_isLength_10 : decode cX5_isLength 10 = .ok (.iconst 1, 1) := by decide +kernel
theorem dX5_isLength_11 : decode cX5_isLength 11 = .ok (.goto 4, 3) := by decide +kernel
theorem dX5_isLength_14 : decode cX5_isLength 14 = .ok (.iconst 0, 1) := by decide +kernel
theorem dX5_isLength_15 : decode cX5_isLength 15 = .ok (.ireturn, 1) := by decide +kernel
theorem dX5_isPartOfFraction_0 : decode cX5_isPartOfFraction 0 = .ok (.iload_n 0, 1) := by decide +kernel
theorem dX5_isPartOfFraction_1 : decode cX5_isPartOfFraction 1 = .ok (.ifCond .eq 8, 3) := by decide +kernel
theorem dX5_isPartOfFraction_4 : decode cX5_isPartOfFraction 4 = .ok (.iload_n 0, 1) := by decide +kernel
theorem dX5_isPartOfFraction_5 : decode cX5_isPartOfFraction 5 = .ok (.iconst 1, 1) := by decide +kernel
theorem dX5_isPartOfFraction_6 : decode cX5_isPartOfFraction 6 = .ok (.if_icmp .ne 7, 3) := by decide +kernel
theorem dX5_isPartOfFraction_9 : decode cX5_isPartOfFraction 9 = .ok (.iconst 1, 1) := by decide +kernel
theorem dX5_isPartOfFraction_10 : decode cX5_isPartOfFraction 10 = .ok (.goto 4, 3) := by decide +kernel
theorem dX5_isPartOfFraction_13 : decode cX5_isPartOfFraction 13 = .ok (.iconst 0, 1) := by decide +kernel
theorem dX5_isPartOfFraction_14 : decode cX5_isPartOfFraction 14 = .ok (.ireturn, 1) := by decide +kernel
theorem dX5_canFit_0 : decode cX5_canFit 0 = .ok (.iload_n 1, 1) := by decide +kernel
theorem dX5_canFit_1 : decode cX5_canFit 1 = .ok (.iconst 1, 1) := by decide +kernel
theorem dX5_canFit_2 : decode cX5_canFit 2 = .ok (.if_icmp .lt 27, 3) := by decide +kernel
theorem dX5_canFit_5 : decode cX5_canFit 5 = .ok (.iload_n 1, 1) := by decide +kernel
theorem dX5_canFit_6 : decode cX5_canFit 6 = .ok (.iconst 1, 1) := by decide +kernel
theorem dX5_canFit_7 : decode cX5_canFit 7 = .ok (.aload_n 0, 1) := by decide +kernel
theorem dX5_canFit_8 : decode cX5_canFit 8 = .ok (.getfield 179, 3) := by decide +kernel
theorem dX5_canFit_11 : decode cX5_canFit 11 = .ok (.ishl, 1) := by decide +kernel
theorem dX5_canFit_12 : decode cX5_canFit 12 = .ok (.if_icmp .ge 17, 3) := by decide +kernel
theorem dX5_canFit_15 : decode cX5_canFit 15 = .ok (.iload_n 2, 1) := by decide +kernel
theorem dX5_canFit_16 : decode cX5_canFit 16 = .ok (.iconst 1, 1) := by decide +kernel
theorem dX5_canFit_17 : decode cX5_canFit 17 = .ok (.if_icmp .lt 12, 3) := by decide +kernel
theorem dX5_canFit_20 : decode cX5_canFit 20 = .ok (.iload_n 2, 1) := by decide +kernel
theorem dX5_canFit_21 : decode cX5_canFit 21 = .ok (.iconst 4, 1) := by decide +kernel
theorem dX5_canFit_22 : decode cX5_canFit 22 = .ok (.if_icmp .gt 7, 3) := by decide +kernel
theorem dX5_canFit_25 : decode cX5_canFit 25 = .ok (.iconst 1, 1) := by decide +kernel
theorem dX5_canFit_26 : decode cX5_canFit 26 = .ok (.goto 4, 3) := by decide +kernel
theorem dX5_canFit_29 : decode cX5_canFit 29 = .ok (.iconst 0, 1) := by decide +kernel
theorem dX5_canFit_30 : decode cX5_canFit 30 = .ok (.ireturn, 1) := by decide +kernel
theorem dX5_isFitted_0 : decode cX5_isFitted 0 = .ok (.iload_n 0, 1) := by decide +kernel
theorem dX5_isFitted_1 : decode cX5_isFitted 1 = .ok (.ifCond .lt 12, 3) := by decide +kernel
theorem dX5_isFitted_4 : decode cX5_isFitted 4 = .ok (.iload_n 0, 1) := by decide +kernel
theorem dX5_isFitted_5 : decode cX5_isFitted 5 = .ok (.iload_n 1, 1) := by decide +kernel
theorem dX5_isFitted_6 : decode cX5_isFitted 6 = .ok (.if_icmp .ge 7, 3) := by decide +kernel
theorem dX5_isFitted_9 : decode cX5_isFitted 9 = .ok (.iconst 1, 1) := by decide +kernel
theorem dX5_isFitted_10 : decode cX5_isFitted 10 = .ok (.goto 4, 3) := by decide +kernel
theorem dX5_isFitted_13 : decode cX5_isFitted 13 = .ok (.iconst 0, 1) := by decide +kernel
theorem dX5_isFitted_14 : decode cX5_isFitted 14 = .ok (.ireturn, 1) := by decide +kernel
set_option maxRecDepth 20000 in
theorem ggX5_fitStorms_X0_begin : GoodIn wsX5_fitStorms wsX0_begin := goodIn_r _ [8, 9, 10, 11, 12, 13, 14, 15, 16, 17, 18, 19, 78, 79, 80, 81, 82, 83, 84, 85] (by decide +kernel) (by decide +kernel)
set_option maxRecDepth 20000 in
theorem gX5_fitStorms_X0_begin : GoodIn wsX5_fitStorms (wsV RX5 236 RX0 yX0_begin wsX0_begin) := goodIn_app (goodIn_of _ (by decide +kernel)) ggX5_fitStorms_X0_begin
set_option maxRecDepth 20000 in
theorem ggX5_fitStorms_X0_add : GoodIn wsX5_fitStorms wsX0_add := goodIn_r _ [23, 17, 24, 18, 25, 19, 26, 27, 28, 29, 30, 31, 32, 78, 79, 80, 81, 82, 83, 84, 85, 86, 87, 88, 89, 90, 91] (by decide +kernel) (by decide +kernel)
set_option maxRecDepth 20000 in
theorem gX5_fitStorms_X0_add : GoodIn wsX5_fitStorms (wsV RX5 240 RX0 yX0_add wsX0_add) := goodIn_app (goodIn_of _ (by decide +kernel)) ggX5_fitStorms_X0_add
set_option maxRecDepth 20000 in
theorem ggX5_fitStorms_X0_settle : GoodIn wsX5_fitStorms wsX0_settle := goodIn_r _ [36, 16, 37, 38, 39, 7, 40, 41, 42, 43, 44, 45, 46, 47, 48, 49, 50, 51, 52, 19, 18, 53, 54, 11, 55, 56, 57, 58, 59, 60, 61, 62, 63, 64, 65, 66, 78, 79, 80, 81, 82, 83, 84, 85] (by decide +kernel) (by decide +kernel)
set_option maxRecDepth 20000 in
theorem gX5_fitStorms_X0_settle : GoodIn wsX5_fitStorms (wsV RX5 244 RX0 yX0_settle wsX0_settle) := goodIn_app (goodIn_of _ (by decide +kernel)) ggX5_fitStorms_X0_settle
theorem dX5_fitStorms_0 : decode cX5_fitStorms 0 = .ok (.aload_n 0, 1) := by decide +kernel
theorem dX5_fitStorms_1 : decode cX5_fitStorms 1 = .ok (.getfield 35, 3) := by decide +kernel
theorem dX5_fitStorms_4 : decode cX5_fitStorms 4 = .ok (.iload_n 2, 1) := by decide +kernel
theorem dX5_fitStorms_5 : decode cX5_fitStorms 5 = .ok (.invokevirtual 236, 3) := by decide +kernel
theorem dX5_fitStorms_8 : decode cX5_fitStorms 8 = .ok (.iconst 0, 1) := by decide +kernel
theorem dX5_fitStorms_9 : decode cX5_fitStorms 9 = .ok (.istore_n 3, 1) := by decide +kernel
theorem dX5_fitStorms_10 : decode cX5_fitStorms 10 = .ok (.iload_n 3, 1) := by decide +kernel
theorem dX5_fitStorms_11 : decode cX5_fitStorms 11 = .ok (.aload_n 0, 1) := by decide +kernel
theorem dX5_fitStorms_12 : decode cX5_fitStorms 12 = .ok (.getfield 179, 3) := by decide +kernel
theorem dX5_fitStorms_15 : decode cX5_fitStorms 15 = .ok (.if_icmp .ge 31, 3) := by decide +kernel
theorem dX5_fitStorms_18 : decode cX5_fitStorms 18 = .ok (.iload_n 1, 1) := by decide +kernel
theorem dX5_fitStorms_19 : decode cX5_fitStorms 19 = .ok (.iload_n 3, 1) := by decide +kernel
theorem dX5_fitStorms_20 : decode cX5_fitStorms 20 = .ok (.ishr, 1) := by decide +kernel
theorem dX5_fitStorms_21 : decode cX5_fitStorms 21 = .ok (.iconst 1, 1) := by decide +kernel
theorem dX5_fitStorms_22 : decode cX5_fitStorms 22 = .ok (.iand, 1) := by decide +kernel
theorem dX5_fitStorms_23 : decode cX5_fitStorms 23 = .ok (.iconst 1, 1) := by decide +kernel
theorem dX5_fitStorms_24 : decode cX5_fitStorms 24 = .ok (.if_icmp .ne 16, 3) := by decide +kernel
theorem dX5_fitStorms_27 : decode cX5_fitStorms 27 = .ok (.aload_n 0, 1) := by decide +kernel
theorem dX5_fitStorms_28 : decode cX5_fitStorms 28 = .ok (.getfield 35, 3) := by decide +kernel
theorem dX5_fitStorms_31 : decode cX5_fitStorms 31 = .ok (.aload_n 0, 1) := by decide +kernel
theorem dX5_fitStorms_32 : decode cX5_fitStorms 32 = .ok (.getfield 15, 3) := by decide +kernel
theorem dX5_fitStorms_35 : decode cX5_fitStorms 35 = .ok (.iload_n 3, 1) := by decide +kernel
theorem dX5_fitStorms_36 : decode cX5_fitStorms 36 = .ok (.aaload, 1) := by decide +kernel
theorem dX5_fitStorms_37 : decode cX5_fitStorms 37 = .ok (.invokevirtual 240, 3) := by decide +kernel
theorem dX5_fitStorms_40 : decode cX5_fitStorms 40 = .ok (.iinc 3 1, 3) := by decide +kernel
theorem dX5_fitStorms_43 : decode cX5_fitStorms 43 = .ok (.goto (-33), 3) := by decide +kernel
theorem dX5_fitStorms_46 : decode cX5_fitStorms 46 = .ok (.aload_n 0, 1) := by decide +kernel
theorem dX5_fitStorms_47 : decode cX5_fitStorms 47 = .ok (.getfield 35, 3) := by decide +kernel
theorem dX5_fitStorms_50 : decode cX5_fitStorms 50 = .ok (.invokevirtual 244, 3) := by decide +kernel
theorem dX5_fitStorms_53 : decode cX5_fitStorms 53 = .ok (.return_, 1) := by decide +kernel
set_option maxRecDepth 20000 in
theorem ggX5_inLowestTerms_X5_sharedDivisor : GoodIn wsX5_inLowestTerms wsX5_sharedDivisor := goodIn_r _ [4, 5, 6, 7, 8] (by decide +kernel) (by decide +kernel)
set_option maxRecDepth 20000 in
theorem gX5_inLowestTerms_X5_sharedDivisor : GoodIn wsX5_inLowestTerms (va_wsS RX5 247 yX5_sharedDivisor wsX5_sharedDivisor) := goodIn_app (goodIn_of _ (by decide +kernel)) ggX5_inLowestTerms_X5_sharedDivisor
theorem dX5_inLowestTerms_0 : decode cX5_inLowestTerms 0 = .ok (.lload_n 0, 1) := by decide +kernel
theorem dX5_inLowestTerms_1 : decode cX5_inLowestTerms 1 = .ok (.lload_n 2, 1) := by decide +kernel
theorem dX5_inLowestTerms_2 : decode cX5_inLowestTerms 2 = .ok (.invokestatic 247, 3) := by decide +kernel
theorem dX5_inLowestTerms_5 : decode cX5_inLowestTerms 5 = .ok (.lstore 5, 2) := by decide +kernel
theorem dX5_inLowestTerms_7 : decode cX5_inLowestTerms 7 = .ok (.lload 5, 2) := by decide +kernel
theorem dX5_inLowestTerms_9 : decode cX5_inLowestTerms 9 = .ok (.lconst 0, 1) := by decide +kernel
theorem dX5_inLowestTerms_10 : decode cX5_inLowestTerms 10 = .ok (.lcmp, 1) := by decide +kernel
theorem dX5_inLowestTerms_11 : decode cX5_inLowestTerms 11 = .ok (.ifCond .ne 14, 3) := by decide +kernel
theorem dX5_inLowestTerms_14 : decode cX5_inLowestTerms 14 = .ok (.iload 4, 2) := by decide +kernel
theorem dX5_inLowestTerms_16 : decode cX5_inLowestTerms 16 = .ok (.ifCond .ne 7, 3) := by decide +kernel
theorem dX5_inLowestTerms_19 : decode cX5_inLowestTerms 19 = .ok (.lconst 0, 1) := by decide +kernel
theorem dX5_inLowestTerms_20 : decode cX5_inLowestTerms 20 = .ok (.goto 4, 3) := by decide +kernel
theorem dX5_inLowestTerms_23 : decode cX5_inLowestTerms 23 = .ok (.lconst 1, 1) := by decide +kernel
theorem dX5_inLowestTerms_24 : decode cX5_inLowestTerms 24 = .ok (.lreturn, 1) := by decide +kernel
theorem dX5_inLowestTerms_25 : decode cX5_inLowestTerms 25 = .ok (.iload 4, 2) := by decide +kernel
theorem dX5_inLowestTerms_27 : decode cX5_inLowestTerms 27 = .ok (.ifCond .ne 10, 3) := by decide +kernel
theorem dX5_inLowestTerms_30 : decode cX5_inLowestTerms 30 = .ok (.lload_n 0, 1) := by decide +kernel
theorem dX5_inLowestTerms_31 : decode cX5_inLowestTerms 31 = .ok (.lload 5, 2) := by decide +kernel
theorem dX5_inLowestTerms_33 : decode cX5_inLowestTerms 33 = .ok (.ldiv, 1) := by decide +kernel
theorem dX5_inLowestTerms_34 : decode cX5_inLowestTerms 34 = .ok (.goto 7, 3) := by decide +kernel
theorem dX5_inLowestTerms_37 : decode cX5_inLowestTerms 37 = .ok (.lload_n 2, 1) := by decide +kernel
theorem dX5_inLowestTerms_38 : decode cX5_inLowestTerms 38 = .ok (.lload 5, 2) := by decide +kernel
theorem dX5_inLowestTerms_40 : decode cX5_inLowestTerms 40 = .ok (.ldiv, 1) := by decide +kernel
theorem dX5_inLowestTerms_41 : decode cX5_inLowestTerms 41 = .ok (.lreturn, 1) := by decide +kernel
theorem dX5_sharedDivisor_0 : decode cX5_sharedDivisor 0 = .ok (.lload_n 0, 1) := by decide +kernel
theorem dX5_sharedDivisor_1 : decode cX5_sharedDivisor 1 = .ok (.invokestatic 250, 3) := by decide +kernel
theorem dX5_sharedDivisor_4 : decode cX5_sharedDivisor 4 = .ok (.lstore 4, 2) := by decide +kernel
theorem dX5_sharedDivisor_6 : decode cX5_sharedDivisor 6 = .ok (.lload_n 2, 1) := by decide +kernel
theorem dX5_sharedDivisor_7 : decode cX5_sharedDivisor 7 = .ok (.invokestatic 250, 3) := by decide +kernel
theorem dX5_sharedDivisor_10 : decode cX5_sharedDivisor 10 = .ok (.lstore 6, 2) := by decide +kernel
theorem dX5_sharedDivisor_12 : decode cX5_sharedDivisor 12 = .ok (.iconst 0, 1) := by decide +kernel
theorem dX5_sharedDivisor_13 : decode cX5_sharedDivisor 13 = .ok (.istore 8, 2) := by decide +kernel
theorem dX5_sharedDivisor_15 : decode cX5_sharedDivisor 15 = .ok (.iload 8, 2) := by decide +kernel
theorem dX5_sharedDivisor_17 : decode cX5_sharedDivisor 17 = .ok (.bipush 100, 2) := by decide +kernel
theorem dX5_sharedDivisor_19 : decode cX5_sharedDivisor 19 = .ok (.if_icmp .ge 31, 3) := by decide +kernel
theorem dX5_sharedDivisor_22 : decode cX5_sharedDivisor 22 = .ok (.lload 6, 2) := by decide +kernel
theorem dX5_sharedDivisor_24 : decode cX5_sharedDivisor 24 = .ok (.lconst 0, 1) := by decide +kernel
theorem dX5_sharedDivisor_25 : decode cX5_sharedDivisor 25 = .ok (.lcmp, 1) := by decide +kernel
theorem dX5_sharedDivisor_26 : decode cX5_sharedDivisor 26 = .ok (.ifCond .eq 24, 3) := by decide +kernel
theorem dX5_sharedDivisor_29 : decode cX5_sharedDivisor 29 = .ok (.lload 4, 2) := by decide +kernel
theorem dX5_sharedDivisor_31 : decode cX5_sharedDivisor 31 = .ok (.lload 6, 2) := by decide +kernel
theorem dX5_sharedDivisor_33 : decode cX5_sharedDivisor 33 = .ok (.lrem, 1) := by decide +kernel
theorem dX5_sharedDivisor_34 : decode cX5_sharedDivisor 34 = .ok (.lstore 9, 2) := by decide +kernel
theorem dX5_sharedDivisor_36 : decode cX5_sharedDivisor 36 = .ok (.lload 6, 2) := by decide +kernel
theorem dX5_sharedDivisor_38 : decode cX5_sharedDivisor 38 = .ok (.lstore 4, 2) := by decide +kernel
theorem dX5_sharedDivisor_40 : decode cX5_sharedDivisor 40 = .ok (.lload 9, 2) := by decide +kernel
theorem dX5_sharedDivisor_42 : decode cX5_sharedDivisor 42 = .ok (.lstore 6, 2) := by decide +kernel
theorem dX5_sharedDivisor_44 : decode cX5_sharedDivisor 44 = .ok (.iinc 8 1, 3) := by decide +kernel
theorem dX5_sharedDivisor_47 : decode cX5_sharedDivisor 47 = .ok (.goto (-32), 3) := by decide +kernel
theorem dX5_sharedDivisor_50 : decode cX5_sharedDivisor 50 = .ok (.lload 4, 2) := by decide +kernel
theorem dX5_sharedDivisor_52 : decode cX5_sharedDivisor 52 = .ok (.lreturn, 1) := by decide +kernel
theorem dX6_init_0 : decode cX6_init 0 = .ok (.aload_n 0, 1) := by decide +kernel
theorem dX6_init_1 : decode cX6_init 1 = .ok (.invokespecial 1, 3) := by decide +kernel
theorem dX6_init_4 : decode cX6_init 4 = .ok (.aload_n 0, 1) := by decide +kernel
theorem dX6_init_5 : decode cX6_init 5 = .ok (.bipush 40, 2) := by decide +kernel
theorem dX6_init_7 : decode cX6_init 7 = .ok (.newarray .int, 2) := by decide +kernel
theorem dX6_init_9 : decode cX6_init 9 = .ok (.putfield 7, 3) := by decide +kernel
theorem dX6_init_12 : decode cX6_init 12 = .ok (.aload_n 0, 1) := by decide +kernel
theorem dX6_init_13 : decode cX6_init 13 = .ok (.iconst 3, 1) := by decide +kernel
theorem dX6_init_14 : decode cX6_init 14 = .ok (.newarray .int, 2) := by decide +kernel
theorem dX6_init_16 : decode cX6_init 16 = .ok (.putfield 13, 3) := by decide +kernel
theorem dX6_init_19 : decode cX6_init 19 = .ok (.aload_n 0, 1) := by decide +kernel
theorem dX6_init_20 : decode cX6_init 20 = .ok (.bipush 9, 2) := by decide +kernel
theorem dX6_init_22 : decode cX6_init 22 = .ok (.newarray .int, 2) := by decide +kernel
theorem dX6_init_24 : decode cX6_init 24 = .ok (.putfield 16, 3) := by decide +kernel
theorem dX6_init_27 : decode cX6_init 27 = .ok (.aload_n 0, 1) := by decide +kernel
theorem dX6_init_28 : decode cX6_init 28 = .ok (.iconst 3, 1) := by decide +kernel
theorem dX6_init_29 : decode cX6_init 29 = .ok (.newarray .int, 2) := by decide +kernel
theorem dX6_init_31 : decode cX6_init 31 = .ok (.putfield 19, 3) := by decide +kernel
theorem dX6_init_34 : decode cX6_init 34 = .ok (.aload_n 0, 1) := by decide +kernel
theorem dX6_init_35 : decode cX6_init 35 = .ok (.bipush 24, 2) := by decide +kernel
theorem dX6_init_37 : decode cX6_init 37 = .ok (.newarray .int, 2) := by decide +kernel
theorem dX6_init_39 : decode cX6_init 39 = .ok (.putfield 22, 3) := by decide +kernel
theorem dX6_init_42 : decode cX6_init 42 = .ok (.aload_n 0, 1) := by decide +kernel
theorem dX6_init_43 : decode cX6_init 43 = .ok (.iconst 4, 1) := by decide +kernel
theorem dX6_init_44 : decode cX6_init 44 = .ok (.newarray .int, 2) := by decide +kernel
theorem dX6_init_46 : decode cX6_init 46 = .ok (.putfield 25, 3) := by decide +kernel
theorem dX6_init_49 : decode cX6_init 49 = .ok (.aload_n 0, 1) := by decide +kernel
theorem dX6_init_50 : decode cX6_init 50 = .ok (.iconst 4, 1) := by decide +kernel
theorem dX6_init_51 : decode cX6_init 51 = .ok (.newarray .int, 2) := by decide +kernel
theorem dX6_init_53 : decode cX6_init 53 = .ok (.putfield 28, 3) := by decide +kernel
theorem dX6_init_56 : decode cX6_init 56 = .ok (.aload_n 0, 1) := by decide +kernel
theorem dX6_init_57 : decode cX6_init 57 = .ok (.bipush 32, 2) := by decide +kernel
theorem dX6_init_59 : decode cX6_init 59 = .ok (.newarray .int, 2) := by decide +kernel
theorem dX6_init_61 : decode cX6_init 61 = .ok (.putfield 31, 3) := by decide +kernel
theorem dX6_init_64 : decode cX6_init 64 = .ok (.aload_n 0, 1) := by decide +kernel
theorem dX6_init_65 : decode cX6_init 65 = .ok (.iconst 3, 1) := by decide +kernel
theorem dX6_init_66 : decode cX6_init 66 = .ok (.newarray .int, 2) := by decide +kernel
theorem dX6_init_68 : decode cX6_init 68 = .ok (.putfield 34, 3) := by decide +kernel
theorem dX6_init_71 : decode cX6_init 71 = .ok (.aload_n 0, 1) := by decide +kernel
theorem dX6_init_72 : decode cX6_init 72 = .ok (.bipush 8, 2) := by decide +kernel
theorem dX6_init_74 : decode cX6_init 74 = .ok (.newarray .int, 2) := by decide +kernel
theorem dX6_init_76 : decode cX6_init 76 = .ok (.putfield 37, 3) := by decide +kernel
theorem dX6_init_79 : decode cX6_init 79 = .ok (.aload_n 0, 1) := by decide +kernel
theorem dX6_init_80 : decode cX6_init 80 = .ok (.bipush 8, 2) := by decide +kernel
theorem dX6_init_82 : decode cX6_init 82 = .ok (.newarray .int, 2) := by decide +kernel
theorem dX6_init_84 : decode cX6_init 84 = .ok (.putfield 40, 3) := by decide +kernel
theorem dX6_init_87 : decode cX6_init 87 = .ok (.aload_n 0, 1) := by decide +kernel
theorem dX6_init_88 : decode cX6_init 88 = .ok (.iconst 4, 1) := by decide +kernel
theorem dX6_init_89 : decode cX6_init 89 = .ok (.newarray .long, 2) := by decide +kernel
theorem dX6_init_91 : decode cX6_init 91 = .ok (.putfield 43, 3) := by decide +kernel
theorem dX6_init_94 : decode cX6_init 94 = .ok (.aload_n 0, 1) := by decide +kernel
theorem dX6_init_95 : decode cX6_init 95 = .ok (.iconst 4, 1) := by decide +kernel
theorem dX6_init_96 : decode cX6_init 96 = .ok (.newarray .long, 2) := by decide +kernel
theorem dX6_init_98 : decode cX6_init 98 = .ok (.putfield 47, 3) := by decide +kernel
theorem dX6_init_101 : decode cX6_init 101 = .ok (.aload_n 0, 1) := by decide +kernel
theorem dX6_init_102 : decode cX6_init 102 = .ok (.bipush 20, 2) := by decide +kernel
theorem dX6_init_104 : decode cX6_init 104 = .ok (.newarray .long, 2) := by decide +kernel
theorem dX6_init_106 : decode cX6_init 106 = .ok (.putfield 50, 3) := by decide +kernel
theorem dX6_init_109 : decode cX6_init 109 = .ok (.aload_n 0, 1) := by decide +kernel
theorem dX6_init_110 : decode cX6_init 110 = .ok (.iconst 4, 1) := by decide +kernel
theorem dX6_init_111 : decode cX6_init 111 = .ok (.newarray .int, 2) := by decide +kernel
theorem dX6_init_113 : decode cX6_init 113 = .ok (.putfield 53, 3) := by decide +kernel
theorem dX6_init_116 : decode cX6_init 116 = .ok (.aload_n 0, 1) := by decide +kernel
theorem dX6_init_117 : decode cX6_init 117 = .ok (.iconst 4, 1) := by decide +kernel
theorem dX6_init_118 : decode cX6_init 118 = .ok (.newarray .long, 2) := by decide +kernel
theorem dX6_init_120 : decode cX6_init 120 = .ok (.putfield 56, 3) := by decide +kernel
theorem dX6_init_123 : decode cX6_init 123 = .ok (.return_, 1) := by decide +kernel
theorem dX6_within_0 : decode cX6_within 0 = .ok (.iload_n 0, 1) := by decide +kernel
theorem dX6_within_1 : decode cX6_within 1 = .ok (.iload_n 1, 1) := by decide +kernel
theorem dX6_within_2 : decode cX6_within 2 = .ok (.if_icmp .lt 12, 3) := by decide +kernel
theorem dX6_within_5 : decode cX6_within 5 = .ok (.iload_n 0, 1) := by decide +kernel
theorem dX6_within_6 : decode cX6_within 6 = .ok (.iload_n 2, 1) := by decide +kernel
theorem dX6_within_7 : decode cX6_within 7 = .ok (.if_icmp .gt 7, 3) := by decide +kernel
theorem dX6_within_10 : decode cX6_within 10 = .ok (.iconst 1, 1) := by decide +kernel
theorem dX6_within_11 : decode cX6_within 11 = .ok (.goto 4, 3) := by decide +kernel
theorem dX6_within_14 : decode cX6_within 14 = .ok (.iconst 0, 1) := by decide +kernel
theorem dX6_within_15 : decode cX6_within 15 = .ok (.ireturn, 1) := by decide +kernel
set_option maxRecDepth 20000 in
theorem ggX6_letter_X6_within : GoodIn wsX6_letter wsX6_within := goodIn_r _ [8] (by decide +kernel) (by decide +kernel)
set_option maxRecDepth 20000 in
theorem gX6_letter_X6_within : GoodIn wsX6_letter (va_wsS RX6 59 yX6_within wsX6_within) := goodIn_app (goodIn_of _ (by decide +kernel)) ggX6_letter_X6_within
theorem dX6_letter_0 : decode cX6_letter 0 = .ok (.iload_n 1, 1) := by decide +kernel
theorem dX6_letter_1 : decode cX6_letter 1 = .ok (.bipush 32, 2) := by decide +kernel
theorem dX6_letter_3 : decode cX6_letter 3 = .ok (.bipush 126, 2) := by decide +kernel
theorem dX6_letter_5 : decode cX6_letter 5 = .ok (.invokestatic 59, 3) := by decide +kernel
theorem dX6_letter_8 : decode cX6_letter 8 = .ok (.ifCond .ne 6, 3) := by decide +kernel
theorem dX6_letter_11 : decode cX6_letter 11 = .ok (.ldc 63, 2) := by decide +kernel
theorem dX6_letter_13 : decode cX6_letter 13 = .ok (.ireturn, 1) := by decide +kernel
theorem dX6_letter_14 : decode cX6_letter 14 = .ok (.aload_n 0, 1) := by decide +kernel
theorem dX6_letter_15 : decode cX6_letter 15 = .ok (.getfield 64, 3) := by decide +kernel
theorem dX6_letter_18 : decode cX6_letter 18 = .ok (.bipush 40, 2) := by decide +kernel
theorem dX6_letter_20 : decode cX6_letter 20 = .ok (.if_icmp .ne 6, 3) := by decide +kernel
theorem dX6_letter_23 : decode cX6_letter 23 = .ok (.ldc 68, 2) := by decide +kernel
theorem dX6_letter_25 : decode cX6_letter 25 = .ok (.ireturn, 1) := by decide +kernel
theorem dX6_letter_26 : decode cX6_letter 26 = .ok (.aload_n 0, 1) := by decide +kernel
theorem dX6_letter_27 : decode cX6_letter 27 = .ok (.getfield 7, 3) := by decide +kernel
theorem dX6_letter_30 : decode cX6_letter 30 = .ok (.aload_n 0, 1) := by decide +kernel
theorem dX6_letter_31 : decode cX6_letter 31 = .ok (.getfield 64, 3) := by decide +kernel
theorem dX6_letter_34 : decode cX6_letter 34 = .ok (.iload_n 1, 1) := by decide +kernel
theorem dX6_letter_35 : decode cX6_letter 35 = .ok (.iastore, 1) := by decide +kernel
theorem dX6_letter_36 : decode cX6_letter 36 = .ok (.aload_n 0, 1) := by decide +kernel
theorem dX6_letter_37 : decode cX6_letter 37 = .ok (.dup, 1) := by decide +kernel
theorem dX6_letter_38 : decode cX6_letter 38 = .ok (.getfield 64, 3) := by decide +kernel
theorem dX6_letter_41 : decode cX6_letter 41 = .ok (.iconst 1, 1) := by decide +kernel
theorem dX6_letter_42 : decode cX6_letter 42 = .ok (.iadd, 1) := by decide +kernel
theorem dX6_letter_43 : decode cX6_letter 43 = .ok (.putfield 64, 3) := by decide +kernel
theorem dX6_letter_46 : decode cX6_letter 46 = .ok (.aload_n 0, 1) := by decide +kernel
theorem dX6_letter_47 : decode cX6_letter 47 = .ok (.getfield 64, 3) := by decide +kernel
theorem dX6_letter_50 : decode cX6_letter 50 = .ok (.ireturn, 1) := by decide +kernel
theorem dX6_blank_0 : decode cX6_blank 0 = .ok (.aload_n 0, 1) := by decide +kernel
theorem dX6_blank_1 : decode cX6_blank 1 = .ok (.getfield 64, 3) := by decide +kernel
theorem dX6_blank_4 : decode cX6_blank 4 = .ok (.istore_n 1, 1) := by decide +kernel
theorem dX6_blank_5 : decode cX6_blank 5 = .ok (.aload_n 0, 1) := by decide +kernel
theorem dX6_blank_6 : decode cX6_blank 6 = .ok (.iconst 0, 1) := by decide +kernel
theorem dX6_blank_7 : decode cX6_blank 7 = .ok (.putfield 64, 3) := by decide +kernel
theorem dX6_blank_10 : decode cX6_blank 10 = .ok (.iload_n 1, 1) := by decide +kernel
theorem dX6_blank_11 : decode cX6_blank 11 = .ok (.ireturn, 1) := by decide +kernel
theorem dX6_goesTo_0 : decode cX6_goesTo 0 = .ok (.aload_n 0, 1) := by decide +kernel
theorem dX6_goesTo_1 : decode cX6_goesTo 1 = .ok (.iload_n 1, 1) := by decide +kernel
theorem dX6_goesTo_2 : decode cX6_goesTo 2 = .ok (.putfield 69, 3) := by decide +kernel
theorem dX6_goesTo_5 : decode cX6_goesTo 5 = .ok (.aload_n 0, 1) := by decide +kernel
theorem dX6_goesTo_6 : decode cX6_goesTo 6 = .ok (.iconst 0, 1) := by decide +kernel
theorem dX6_goesTo_7 : decode cX6_goesTo 7 = .ok (.putfield 72, 3) := by decide +kernel
theorem dX6_goesTo_10 : decode cX6_goesTo 10 = .ok (.aload_n 0, 1) := by decide +kernel
theorem dX6_goesTo_11 : decode cX6_goesTo 11 = .ok (.iconst 0, 1) := by decide +kernel
theorem dX6_goesTo_12 : decode cX6_goesTo 12 = .ok (.putfield 75, 3) := by decide +kernel
theorem dX6_goesTo_15 : decode cX6_goesTo 15 = .ok (.iconst 1, 1) := by decide +kernel
theorem dX6_goesTo_16 : decode cX6_goesTo 16 = .ok (.ireturn, 1) := by decide +kernel
set_option maxRecDepth 20000 in
theorem ggX6_begins_X6_goesTo : GoodIn wsX6_begins wsX6_goesTo := goodIn_r _ [8, 9, 10, 11, 12, 13, 14, 15, 16, 17, 18, 19, 20, 21, 22, 23, 24, 25, 26, 27, 28, 29, 30, 31, 32, 33, 34, 35, 36, 37, 38, 39, 40, 41, 42, 43, 44] (by decide +kernel) (by decide +kernel)
set_option maxRecDepth 20000 in
theorem gX6_begins_X6_goesTo : GoodIn wsX6_begins (wsV RX6 88 RX6 yX6_goesTo wsX6_goesTo) := goodIn_app (goodIn_of _ (by decide +kernel)) ggX6_begins_X6_goesTo
theorem dX6_begins_0 : decode cX6_begins 0 = .ok (.aload_n 0, 1) := by decide +kernel
theorem dX6_begins_1 : decode cX6_begins 1 = .ok (.iload_n 1, 1) := by decide +kernel
theorem dX6_begins_2 : decode cX6_begins 2 = .ok (.bipush 117, 2) := by decide +kernel
theorem dX6_begins_4 : decode cX6_begins 4 = .ok (.if_icmp .ne 7, 3) := by decide +kernel
theorem dX6_begins_7 : decode cX6_begins 7 = .ok (.iconst 1, 1) := by decide +kernel
theorem dX6_begins_8 : decode cX6_begins 8 = .ok (.goto 4, 3) := by decide +kernel
theorem dX6_begins_11 : decode cX6_begins 11 = .ok (.iconst 0, 1) := by decide +kernel
theorem dX6_begins_12 : decode cX6_begins 12 = .ok (.putfield 78, 3) := by decide +kernel
theorem dX6_begins_15 : decode cX6_begins 15 = .ok (.aload_n 0, 1) := by decide +kernel
theorem dX6_begins_16 : decode cX6_begins 16 = .ok (.iconst 0, 1) := by decide +kernel
theorem dX6_begins_17 : decode cX6_begins 17 = .ok (.putfield 82, 3) := by decide +kernel
theorem dX6_begins_20 : decode cX6_begins 20 = .ok (.aload_n 0, 1) := by decide +kernel
theorem dX6_begins_21 : decode cX6_begins 21 = .ok (.iconst 0, 1) := by decide +kernel
theorem dX6_begins_22 : decode cX6_begins 22 = .ok (.putfield 85, 3) := by decide +kernel
theorem dX6_begins_25 : decode cX6_begins 25 = .ok (.iload_n 1, 1) := by decide +kernel
theorem dX6_begins_26 : decode cX6_begins 26 = .ok (.bipush 114, 2) := by decide +kernel
theorem dX6_begins_28 : decode cX6_begins 28 = .ok (.if_icmp .eq 9, 3) := by decide +kernel
theorem dX6_begins_31 : decode cX6_begins 31 = .ok (.iload_n 1, 1) := by decide +kernel
theorem dX6_begins_32 : decode cX6_begins 32 = .ok (.bipush 117, 2) := by decide +kernel
theorem dX6_begins_34 : decode cX6_begins 34 = .ok (.if_icmp .ne 26, 3) := by decide +kernel
theorem dX6_begins_37 : decode cX6_begins 37 = .ok (.aload_n 0, 1) := by decide +kernel
theorem dX6_begins_38 : decode cX6_begins 38 = .ok (.aload_n 0, 1) := by decide +kernel
theorem dX6_begins_39 : decode cX6_begins 39 = .ok (.getfield 78, 3) := by decide +kernel
theorem dX6_begins_42 : decode cX6_begins 42 = .ok (.ifCond .eq 7, 3) := by decide +kernel
theorem dX6_begins_45 : decode cX6_begins 45 = .ok (.iconst 2, 1) := by decide +kernel
theorem dX6_begins_46 : decode cX6_begins 46 = .ok (.goto 4, 3) := by decide +kernel
theorem dX6_begins_49 : decode cX6_begins 49 = .ok (.iconst 1, 1) := by decide +kernel
theorem dX6_begins_50 : decode cX6_begins 50 = .ok (.invokevirtual 88, 3) := by decide +kernel
theorem dX6_begins_53 : decode cX6_begins 53 = .ok (.ifCond .eq 7, 3) := by decide +kernel
theorem dX6_begins_56 : decode cX6_begins 56 = .ok (.iconst 1, 1) := by decide +kernel
theorem dX6_begins_57 : decode cX6_begins 57 = .ok (.goto 4, 3) := by decide +kernel
theorem dX6_begins_60 : decode cX6_begins 60 = .ok (.iconst 0, 1) := by decide +kernel
theorem dX6_begins_61 : decode cX6_begins 61 = .ok (.ireturn, 1) := by decide +kernel
theorem dX6_takesFigure_0 : decode cX6_takesFigure 0 = .ok (.aload_n 0, 1) := by decide +kernel
theorem dX6_takesFigure_1 : decode cX6_takesFigure 1 = .ok (.getfield 69, 3) := by decide +kernel
theorem dX6_takesFigure_4 : decode cX6_takesFigure 4 = .ok (.iconst 1, 1) := by decide +kernel
theorem dX6_takesFigure_5 : decode cX6_takesFigure 5 = .ok (.if_icmp .ne 7, 3) := by decide +kernel
theorem dX6_takesFigure_8 : decode cX6_takesFigure 8 = .ok (.iconst 5, 1) := by decide +kernel
theorem dX6_takesFigure_9 : decode cX6_takesFigure 9 = .ok (.goto 5, 3) := by decide +kernel
theorem dX6_takesFigure_12 : decode cX6_takesFigure 12 = .ok (.bipush 99, 2) := by decide +kernel
theorem dX6_takesFigure_14 : decode cX6_takesFigure 14 = .ok (.istore_n 2, 1) := by decide +kernel
theorem dX6_takesFigure_15 : decode cX6_takesFigure 15 = .ok (.aload_n 0, 1) := by decide +kernel
theorem dX6_takesFigure_16 : decode cX6_takesFigure 16 = .ok (.getfield 69, 3) := by decide +kernel
theorem dX6_takesFigure_19 : decode cX6_takesFigure 19 = .ok (.iconst 1, 1) := by decide +kernel
theorem dX6_takesFigure_20 : decode cX6_takesFigure 20 = .ok (.if_icmp .ne 14, 3) := by decide +kernel
theorem dX6_takesFigure_23 : decode cX6_takesFigure 23 = .ok (.aload_n 0, 1) := by decide +kernel
theorem dX6_takesFigure_24 : decode cX6_takesFigure 24 = .ok (.getfield 82, 3) := by decide +kernel
theorem dX6_takesFigure_27 : decode cX6_takesFigure 27 = .ok (.ifCond .ne 7, 3) := by decide +kernel
theorem dX6_takesFigure_30 : decode cX6_takesFigure 30 = .ok (.iconst 1, 1) := by decide +kernel
theorem dX6_takesFigure_31 : decode cX6_takesFigure 31 = .ok (.goto 4, 3) := by decide +kernel
theorem dX6_takesFigure_34 : decode cX6_takesFigure 34 = .ok (.iconst 0, 1) := by decide +kernel
theorem dX6_takesFigure_35 : decode cX6_takesFigure 35 = .ok (.istore_n 3, 1) := by decide +kernel
theorem dX6_takesFigure_36 : decode cX6_takesFigure 36 = .ok (.aload_n 0, 1) := by decide +kernel
theorem dX6_takesFigure_37 : decode cX6_takesFigure 37 = .ok (.getfield 72, 3) := by decide +kernel
theorem dX6_takesFigure_40 : decode cX6_takesFigure 40 = .ok (.ifCond .ne 19, 3) := by decide +kernel
theorem dX6_takesFigure_43 : decode cX6_takesFigure 43 = .ok (.iload_n 1, 1) := by decide +kernel
theorem dX6_takesFigure_44 : decode cX6_takesFigure 44 = .ok (.ifCond .gt 7, 3) := by decide +kernel
theorem dX6_takesFigure_47 : decode cX6_takesFigure 47 = .ok (.iload_n 3, 1) := by decide +kernel
theorem dX6_takesFigure_48 : decode cX6_takesFigure 48 = .ok (.ifCond .ne 7, 3) := by decide +kernel
theorem dX6_takesFigure_51 : decode cX6_takesFigure 51 = .ok (.iconst 1, 1) := by decide +kernel
theorem dX6_takesFigure_52 : decode cX6_takesFigure 52 = .ok (.goto 19, 3) := by decide +kernel
theorem dX6_takesFigure_55 : decode cX6_takesFigure 55 = .ok (.iconst 0, 1) := by decide +kernel
theorem dX6_takesFigure_56 : decode cX6_takesFigure 56 = .ok (.goto 15, 3) := by decide +kernel
theorem dX6_takesFigure_59 : decode cX6_takesFigure 59 = .ok (.aload_n 0, 1) := by decide +kernel
theorem dX6_takesFigure_60 : decode cX6_takesFigure 60 = .ok (.getfield 75, 3) := by decide +kernel
theorem dX6_takesFigure_63 : decode cX6_takesFigure 63 = .ok (.ifCond .le 7, 3) := by decide +kernel
theorem dX6_takesFigure_66 : decode cX6_takesFigure 66 = .ok (.iconst 1, 1) := by decide +kernel
theorem dX6_takesFigure_67 : decode cX6_takesFigure 67 = .ok (.goto 4, 3) := by decide +kernel
theorem dX6_takesFigure_70 : decode cX6_takesFigure 70 = .ok (.iconst 0, 1) := by decide +kernel
theorem dX6_takesFigure_71 : decode cX6_takesFigure 71 = .ok (.istore 4, 2) := by decide +kernel
theorem dX6_takesFigure_73 : decode cX6_takesFigure 73 = .ok (.iload 4, 2) := by decide +kernel
theorem dX6_takesFigure_75 : decode cX6_takesFigure 75 = .ok (.ifCond .eq 20, 3) := by decide +kernel
theorem dX6_takesFigure_78 : decode cX6_takesFigure 78 = .ok (.bipush 10, 2) := by decide +kernel
theorem dX6_takesFigure_80 : decode cX6_takesFigure 80 = .ok (.aload_n 0, 1) := by decide +kernel
theorem dX6_takesFigure_81 : decode cX6_takesFigure 81 = .ok (.getfield 75, 3) := by decide +kernel
theorem dX6_takesFigure_84 : decode cX6_takesFigure 84 = .ok (.imul, 1) := by decide +kernel
theorem dX6_takesFigure_85 : decode cX6_takesFigure 85 = .ok (.iload_n 1, 1) := by decide +kernel
theorem dX6_takesFigure_86 : decode cX6_takesFigure 86 = .ok (.iadd, 1) := by decide +kernel
theorem dX6_takesFigure_87 : decode cX6_takesFigure 87 = .ok (.iload_n 2, 1) := by decide +kernel
theorem dX6_takesFigure_88 : decode cX6_takesFigure 88 = .ok (.if_icmp .gt 7, 3) := by decide +kernel
theorem dX6_takesFigure_91 : decode cX6_takesFigure 91 = .ok (.iconst 1, 1) := by decide +kernel
theorem dX6_takesFigure_92 : decode cX6_takesFigure 92 = .ok (.goto 4, 3) := by decide +kernel
theorem dX6_takesFigure_95 : decode cX6_takesFigure 95 = .ok (.iconst 0, 1) := by decide +kernel
theorem dX6_takesFigure_96 : decode cX6_takesFigure 96 = .ok (.istore 4, 2) := by decide +kernel
theorem dX6_takesFigure_98 : decode cX6_takesFigure 98 = .ok (.aload_n 0, 1) := by decide +kernel
theorem dX6_takesFigure_99 : decode cX6_takesFigure 99 = .ok (.iload 4, 2) := by decide +kernel
theorem dX6_takesFigure_101 : decode cX6_takesFigure 101 = .ok (.ifCond .eq 15, 3) := by decide +kernel
theorem dX6_takesFigure_104 : decode cX6_takesFigure 104 = .ok (.bipush 10, 2) := by decide +kernel
theorem dX6_takesFigure_106 : decode cX6_takesFigure 106 = .ok (.aload_n 0, 1) := by decide +kernel
theorem dX6_takesFigure_107 : decode cX6_takesFigure 107 = .ok (.getfield 75, 3) := by decide +kernel
theorem dX6_takesFigure_110 : decode cX6_takesFigure 110 = .ok (.imul, 1) := by decide +kernel
theorem dX6_takesFigure_111 : decode cX6_takesFigure 111 = .ok (.iload_n 1, 1) := by decide +kernel
theorem dX6_takesFigure_112 : decode cX6_takesFigure 112 = .ok (.iadd, 1) := by decide +kernel
theorem dX6_takesFigure_113 : decode cX6_takesFigure 113 = .ok (.goto 7, 3) := by decide +kernel
theorem dX6_takesFigure_116 : decode cX6_takesFigure 116 = .ok (.aload_n 0, 1) := by decide +kernel
theorem dX6_takesFigure_117 : decode cX6_takesFigure 117 = .ok (.getfield 75, 3) := by decide +kernel
theorem dX6_takesFigure_120 : decode cX6_takesFigure 120 = .ok (.putfield 75, 3) := by decide +kernel
theorem dX6_takesFigure_123 : decode cX6_takesFigure 123 = .ok (.aload_n 0, 1) := by decide +kernel
theorem dX6_takesFigure_124 : decode cX6_takesFigure 124 = .ok (.dup, 1) := by decide +kernel
theorem dX6_takesFigure_125 : decode cX6_takesFigure 125 = .ok (.getfield 72, 3) := by decide +kernel
theorem dX6_takesFigure_128 : decode cX6_takesFigure 128 = .ok (.iload 4, 2) := by decide +kernel
theorem dX6_takesFigure_130 : decode cX6_takesFigure 130 = .ok (.ifCond .eq 7, 3) := by decide +kernel
theorem dX6_takesFigure_133 : decode cX6_takesFigure 133 = .ok (.iconst 1, 1) := by decide +kernel
theorem dX6_takesFigure_134 : decode cX6_takesFigure 134 = .ok (.goto 4, 3) := by decide +kernel
theorem dX6_takesFigure_137 : decode cX6_takesFigure 137 = .ok (.iconst 0, 1) := by decide +kernel
theorem dX6_takesFigure_138 : decode cX6_takesFigure 138 = .ok (.iadd, 1) := by decide +kernel
theorem dX6_takesFigure_139 : decode cX6_takesFigure 139 = .ok (.putfield 72, 3) := by decide +kernel
theorem dX6_takesFigure_142 : decode cX6_takesFigure 142 = .ok (.iload 4, 2) := by decide +kernel
theorem dX6_takesFigure_144 : decode cX6_takesFigure 144 = .ok (.ireturn, 1) := by decide +kernel
theorem dX6_keepNumber_0 : decode cX6_keepNumber 0 = .ok (.aload_n 0, 1) := by decide +kernel
theorem dX6_keepNumber_1 : decode cX6_keepNumber 1 = .ok (.getfield 69, 3) := by decide +kernel
theorem dX6_keepNumber_4 : decode cX6_keepNumber 4 = .ok (.iconst 1, 1) := by decide +kernel
theorem dX6_keepNumber_5 : decode cX6_keepNumber 5 = .ok (.if_icmp .ne 29, 3) := by decide +kernel
theorem dX6_keepNumber_8 : decode cX6_keepNumber 8 = .ok (.aload_n 0, 1) := by decide +kernel
theorem dX6_keepNumber_9 : decode cX6_keepNumber 9 = .ok (.getfield 34, 3) := by decide +kernel
theorem dX6_keepNumber_12 : decode cX6_keepNumber 12 = .ok (.aload_n 0, 1) := by decide +kernel
theorem dX6_keepNumber_13 : decode cX6_keepNumber 13 = .ok (.getfield 82, 3) := by decide +kernel
theorem dX6_keepNumber_16 : decode cX6_keepNumber 16 = .ok (.aload_n 0, 1) := by decide +kernel
theorem dX6_keepNumber_17 : decode cX6_keepNumber 17 = .ok (.getfield 75, 3) := by decide +kernel
theorem dX6_keepNumber_20 : decode cX6_keepNumber 20 = .ok (.iastore, 1) := by decide +kernel
theorem dX6_keepNumber_21 : decode cX6_keepNumber 21 = .ok (.aload_n 0, 1) := by decide +kernel
theorem dX6_keepNumber_22 : decode cX6_keepNumber 22 = .ok (.dup, 1) := by decide +kernel
theorem dX6_keepNumber_23 : decode cX6_keepNumber 23 = .ok (.getfield 82, 3) := by decide +kernel
theorem dX6_keepNumber_26 : decode cX6_keepNumber 26 = .ok (.iconst 1, 1) := by decide +kernel
theorem dX6_keepNumber_27 : decode cX6_keepNumber 27 = .ok (.iadd, 1) := by decide +kernel
theorem dX6_keepNumber_28 : decode cX6_keepNumber 28 = .ok (.putfield 82, 3) := by decide +kernel
theorem dX6_keepNumber_31 : decode cX6_keepNumber 31 = .ok (.goto 26, 3) := by decide +kernel
theorem dX6_keepNumber_34 : decode cX6_keepNumber 34 = .ok (.aload_n 0, 1) := by decide +kernel
theorem dX6_keepNumber_35 : decode cX6_keepNumber 35 = .ok (.getfield 37, 3) := by decide +kernel
theorem dX6_keepNumber_38 : decode cX6_keepNumber 38 = .ok (.aload_n 0, 1) := by decide +kernel
theorem dX6_keepNumber_39 : decode cX6_keepNumber 39 = .ok (.getfield 85, 3) := by decide +kernel
theorem dX6_keepNumber_42 : decode cX6_keepNumber 42 = .ok (.aload_n 0, 1) := by decide +kernel
theorem dX6_keepNumber_43 : decode cX6_keepNumber 43 = .ok (.getfield 75, 3) := by decide +kernel
theorem dX6_keepNumber_46 : decode cX6_keepNumber 46 = .ok (.iastore, 1) := by decide +kernel
theorem dX6_keepNumber_47 : decode cX6_keepNumber 47 = .ok (.aload_n 0, 1) := by decide +kernel
theorem dX6_keepNumber_48 : decode cX6_keepNumber 48 = .ok (.dup, 1) := by decide +kernel
theorem dX6_keepNumber_49 : decode cX6_keepNumber 49 = .ok (.getfield 85, 3) := by decide +kernel
theorem dX6_keepNumber_52 : decode cX6_keepNumber 52 = .ok (.iconst 1, 1) := by decide +kernel
theorem dX6_keepNumber_53 : decode cX6_keepNumber 53 = .ok (.iadd, 1) := by decide +kernel
theorem dX6_keepNumber_54 : decode cX6_keepNumber 54 = .ok (.putfield 85, 3) := by decide +kernel
theorem dX6_keepNumber_57 : decode cX6_keepNumber 57 = .ok (.return_, 1) := by decide +kernel
set_option maxRecDepth 20000 in
theorem ggX6_takesInRow_X6_within : GoodIn wsX6_takesInRow wsX6_within := goodIn_r _ [8] (by decide +kernel) (by decide +kernel)
set_option maxRecDepth 20000 in
theorem gX6_takesInRow_X6_within : GoodIn wsX6_takesInRow (va_wsS RX6 59 yX6_within wsX6_within) := goodIn_app (goodIn_of _ (by decide +kernel)) ggX6_takesInRow_X6_within
set_option maxRecDepth 20000 in
theorem ggX6_takesInRow_X6_takesFigure : GoodIn wsX6_takesInRow wsX6_takesFigure := goodIn_r _ [12, 1, 2, 4, 13, 24, 25, 26, 27, 28, 29, 30, 31, 32, 33, 34, 35, 36, 37, 38, 39, 40, 41, 42, 43, 44, 45, 46, 47, 48, 49, 50, 51, 52, 53, 54, 55, 56] (by decide +kernel) (by decide +kernel)
set_option maxRecDepth 20000 in
theorem gX6_takesInRow_X6_takesFigure : GoodIn wsX6_takesInRow (wsV RX6 92 RX6 yX6_takesFigure wsX6_takesFigure) := goodIn_app (goodIn_of _ (by decide +kernel)) ggX6_takesInRow_X6_takesFigure
set_option maxRecDepth 20000 in
theorem ggX6_takesInRow_X6_keepNumber : GoodIn wsX6_takesInRow wsX6_keepNumber := goodIn_r _ [17, 1, 18, 2, 13, 19, 3, 24, 25, 26, 27, 28, 29, 30, 31, 32, 33, 34, 35, 36, 37, 38, 39, 40, 41, 42, 43, 44, 45, 46, 47, 48, 49, 50, 51, 52, 53, 54, 55, 56] (by decide +kernel) (by decide +kernel)
set_option maxRecDepth 20000 in
theorem gX6_takesInRow_X6_keepNumber : GoodIn wsX6_takesInRow (wsV RX6 95 RX6 yX6_keepNumber wsX6_keepNumber) := goodIn_app (goodIn_of _ (by decide +kernel)) ggX6_takesInRow_X6_keepNumber
set_option maxRecDepth 20000 in
theorem ggX6_takesInRow_X6_goesTo : GoodIn wsX6_takesInRow wsX6_goesTo := goodIn_r _ [23, 1, 4, 13, 24, 25, 26, 27, 28, 29, 30, 31, 32, 33, 34, 35, 36, 37, 38, 39, 40, 41, 42, 43, 44, 45, 46, 47, 48, 49, 50, 51, 52, 53, 54, 55, 56] (by decide +kernel) (by decide +kernel)
set_option maxRecDepth 20000 in
theorem gX6_takesInRow_X6_goesTo : GoodIn wsX6_takesInRow (wsV RX6 88 RX6 yX6_goesTo wsX6_goesTo) := goodIn_app (goodIn_of _ (by decide +kernel)) ggX6_takesInRow_X6_goesTo
theorem dX6_takesInRow_0 : decode cX6_takesInRow 0 = .ok (.iload_n 1, 1) := by decide +kernel
theorem dX6_takesInRow_1 : decode cX6_takesInRow 1 = .ok (.bipush 48, 2) := by decide +kernel
theorem dX6_takesInRow_3 : decode cX6_takesInRow 3 = .ok (.bipush 57, 2) := by decide +kernel
theorem dX6_takesInRow_5 : decode cX6_takesInRow 5 = .ok (.invokestatic 59, 3) := by decide +kernel
theorem dX6_takesInRow_8 : decode cX6_takesInRow 8 = .ok (.ifCond .eq 12, 3) := by decide +kernel
theorem dX6_takesInRow_11 : decode cX6_takesInRow 11 = .ok (.aload_n 0, 1) := by decide +kernel
theorem dX6_takesInRow_12 : decode cX6_takesInRow 12 = .ok (.iload_n 1, 1) := by decide +kernel
theorem dX6_takesInRow_13 : decode cX6_takesInRow 13 = .ok (.bipush 48, 2) := by decide +kernel
theorem dX6_takesInRow_15 : decode cX6_takesInRow 15 = .ok (.isub, 1) := by decide +kernel
theorem dX6_takesInRow_16 : decode cX6_takesInRow 16 = .ok (.invokevirtual 92, 3) := by decide +kernel
theorem dX6_takesInRow_19 : decode cX6_takesInRow 19 = .ok (.ireturn, 1) := by decide +kernel
theorem dX6_takesInRow_20 : decode cX6_takesInRow 20 = .ok (.aload_n 0, 1) := by decide +kernel
theorem dX6_takesInRow_21 : decode cX6_takesInRow 21 = .ok (.getfield 69, 3) := by decide +kernel
theorem dX6_takesInRow_24 : decode cX6_takesInRow 24 = .ok (.iconst 1, 1) := by decide +kernel
theorem dX6_takesInRow_25 : decode cX6_takesInRow 25 = .ok (.if_icmp .ne 10, 3) := by decide +kernel
theorem dX6_takesInRow_28 : decode cX6_takesInRow 28 = .ok (.aload_n 0, 1) := by decide +kernel
theorem dX6_takesInRow_29 : decode cX6_takesInRow 29 = .ok (.getfield 82, 3) := by decide +kernel
theorem dX6_takesInRow_32 : decode cX6_takesInRow 32 = .ok (.goto 7, 3) := by decide +kernel
theorem dX6_takesInRow_35 : decode cX6_takesInRow 35 = .ok (.aload_n 0, 1) := by decide +kernel
theorem dX6_takesInRow_36 : decode cX6_takesInRow 36 = .ok (.getfield 85, 3) := by decide +kernel
theorem dX6_takesInRow_39 : decode cX6_takesInRow 39 = .ok (.istore_n 2, 1) := by decide +kernel
theorem dX6_takesInRow_40 : decode cX6_takesInRow 40 = .ok (.iload_n 1, 1) := by decide +kernel
