theorem dX8_all_81 : decode cX8_all 81 = .ok (.lreturn, 1) := by decide +kernel
set_option maxRecDepth 20000 in
theorem ggX8_above_X8_in : GoodIn wsX8_above wsX8_in := goodIn_r _ [7] (by decide +kernel) (by decide +kernel)
set_option maxRecDepth 20000 in
theorem gX8_above_X8_in : GoodIn wsX8_above (va_wsS RX8 91 yX8_in wsX8_in) := goodIn_app (goodIn_of _ (by decide +kernel)) ggX8_above_X8_in
set_option maxRecDepth 20000 in
theorem ggX8_above_X8_copy : GoodIn wsX8_above wsX8_copy := goodIn_r _ [11, 2, 36, 37, 38, 39, 40, 41, 42, 43, 44, 45, 46, 47, 48, 49, 50, 51, 52, 53, 54, 55, 56, 57, 58, 59, 60, 61, 62, 63] (by decide +kernel) (by decide +kernel)
set_option maxRecDepth 20000 in
theorem gX8_above_X8_copy : GoodIn wsX8_above (wsV RX8 166 RX8 yX8_copy wsX8_copy) := goodIn_app (goodIn_of _ (by decide +kernel)) ggX8_above_X8_copy
set_option maxRecDepth 20000 in
theorem ggX8_above_X8_weighs : GoodIn wsX8_above wsX8_weighs := goodIn_r _ [15, 2, 16, 17, 18, 19, 6, 20, 36, 37, 38, 39, 40, 41, 42, 43, 44, 45, 46, 47, 48, 49, 50, 51, 52, 53, 54, 55, 56, 57, 58, 59, 60, 61, 62, 63] (by decide +kernel) (by decide +kernel)
set_option maxRecDepth 20000 in
theorem gX8_above_X8_weighs : GoodIn wsX8_above (wsV RX8 161 RX8 yX8_weighs wsX8_weighs) := goodIn_app (goodIn_of _ (by decide +kernel)) ggX8_above_X8_weighs
set_option maxRecDepth 20000 in
theorem ggX8_above_X8_goes : GoodIn wsX8_above wsX8_goes := goodIn_r _ [24, 2, 25, 26, 27, 28, 6, 29, 30, 31, 32, 33, 34, 35, 16, 36, 37, 38, 39, 40, 41, 42, 43, 44, 45, 46, 47, 48, 49, 50, 51, 52, 53, 54, 55, 56, 57, 58, 59, 60, 61, 62, 63] (by decide +kernel) (by decide +kernel)
set_option maxRecDepth 20000 in
theorem gX8_above_X8_goes : GoodIn wsX8_above (wsV RX8 177 RX8 yX8_goes wsX8_goes) := goodIn_app (goodIn_of _ (by decide +kernel)) ggX8_above_X8_goes
theorem dX8_above_0 : decode cX8_above 0 = .ok (.iload_n 1, 1) := by decide +kernel
theorem dX8_above_1 : decode cX8_above 1 = .ok (.i2l, 1) := by decide +kernel
theorem dX8_above_2 : decode cX8_above 2 = .ok (.lconst 0, 1) := by decide +kernel
theorem dX8_above_3 : decode cX8_above 3 = .ok (.ldc2_w 195, 3) := by decide +kernel
theorem dX8_above_6 : decode cX8_above 6 = .ok (.invokestatic 91, 3) := by decide +kernel
theorem dX8_above_9 : decode cX8_above 9 = .ok (.ifCond .ne 5, 3) := by decide +kernel
theorem dX8_above_12 : decode cX8_above 12 = .ok (.iconst (-1), 1) := by decide +kernel
theorem dX8_above_13 : decode cX8_above 13 = .ok (.ireturn, 1) := by decide +kernel
theorem dX8_above_14 : decode cX8_above 14 = .ok (.aload_n 0, 1) := by decide +kernel
theorem dX8_above_15 : decode cX8_above 15 = .ok (.iconst 0, 1) := by decide +kernel
theorem dX8_above_16 : decode cX8_above 16 = .ok (.sipush 607, 3) := by decide +kernel
theorem dX8_above_19 : decode cX8_above 19 = .ok (.invokevirtual 166, 3) := by decide +kernel
theorem dX8_above_22 : decode cX8_above 22 = .ok (.aload_n 0, 1) := by decide +kernel
theorem dX8_above_23 : decode cX8_above 23 = .ok (.sipush 607, 3) := by decide +kernel
theorem dX8_above_26 : decode cX8_above 26 = .ok (.invokevirtual 161, 3) := by decide +kernel
theorem dX8_above_29 : decode cX8_above 29 = .ok (.iload_n 1, 1) := by decide +kernel
theorem dX8_above_30 : decode cX8_above 30 = .ok (.i2l, 1) := by decide +kernel
theorem dX8_above_31 : decode cX8_above 31 = .ok (.lcmp, 1) := by decide +kernel
theorem dX8_above_32 : decode cX8_above 32 = .ok (.ifCond .gt 32, 3) := by decide +kernel
theorem dX8_above_35 : decode cX8_above 35 = .ok (.aload_n 0, 1) := by decide +kernel
theorem dX8_above_36 : decode cX8_above 36 = .ok (.getfield 7, 3) := by decide +kernel
theorem dX8_above_39 : decode cX8_above 39 = .ok (.sipush 1213, 3) := by decide +kernel
theorem dX8_above_42 : decode cX8_above 42 = .ok (.laload, 1) := by decide +kernel
theorem dX8_above_43 : decode cX8_above 43 = .ok (.ldc2_w 170, 3) := by decide +kernel
theorem dX8_above_46 : decode cX8_above 46 = .ok (.lcmp, 1) := by decide +kernel
theorem dX8_above_47 : decode cX8_above 47 = .ok (.ifCond .ne 6, 3) := by decide +kernel
theorem dX8_above_50 : decode cX8_above 50 = .ok (.bipush (-9), 2) := by decide +kernel
theorem dX8_above_52 : decode cX8_above 52 = .ok (.ireturn, 1) := by decide +kernel
theorem dX8_above_53 : decode cX8_above 53 = .ok (.aload_n 0, 1) := by decide +kernel
theorem dX8_above_54 : decode cX8_above 54 = .ok (.sipush 607, 3) := by decide +kernel
theorem dX8_above_57 : decode cX8_above 57 = .ok (.invokevirtual 177, 3) := by decide +kernel
theorem dX8_above_60 : decode cX8_above 60 = .ok (.pop2, 1) := by decide +kernel
theorem dX8_above_61 : decode cX8_above 61 = .ok (.goto (-39), 3) := by decide +kernel
theorem dX8_above_64 : decode cX8_above 64 = .ok (.aload_n 0, 1) := by decide +kernel
theorem dX8_above_65 : decode cX8_above 65 = .ok (.getfield 7, 3) := by decide +kernel
theorem dX8_above_68 : decode cX8_above 68 = .ok (.sipush 1213, 3) := by decide +kernel
theorem dX8_above_71 : decode cX8_above 71 = .ok (.laload, 1) := by decide +kernel
theorem dX8_above_72 : decode cX8_above 72 = .ok (.l2i, 1) := by decide +kernel
theorem dX8_above_73 : decode cX8_above 73 = .ok (.ireturn, 1) := by decide +kernel
set_option maxRecDepth 20000 in
theorem ggX8_capOf_X8_manyOf : GoodIn wsX8_capOf wsX8_manyOf := goodIn_r _ [6, 7, 8, 9, 10, 11, 12, 13, 14, 15, 16, 17, 18, 19, 20, 21, 22, 23, 24, 25, 26, 27, 28, 29, 30, 31, 32, 33, 34, 35] (by decide +kernel) (by decide +kernel)
set_option maxRecDepth 20000 in
theorem gX8_capOf_X8_manyOf : GoodIn wsX8_capOf (wsV RX8 145 RX8 yX8_manyOf wsX8_manyOf) := goodIn_app (goodIn_of _ (by decide +kernel)) ggX8_capOf_X8_manyOf
theorem dX8_capOf_0 : decode cX8_capOf 0 = .ok (.aload_n 0, 1) := by decide +kernel
theorem dX8_capOf_1 : decode cX8_capOf 1 = .ok (.iload_n 1, 1) := by decide +kernel
theorem dX8_capOf_2 : decode cX8_capOf 2 = .ok (.iload_n 2, 1) := by decide +kernel
theorem dX8_capOf_3 : decode cX8_capOf 3 = .ok (.invokevirtual 145, 3) := by decide +kernel
theorem dX8_capOf_6 : decode cX8_capOf 6 = .ok (.lstore_n 3, 1) := by decide +kernel
theorem dX8_capOf_7 : decode cX8_capOf 7 = .ok (.lload_n 3, 1) := by decide +kernel
theorem dX8_capOf_8 : decode cX8_capOf 8 = .ok (.ldc2_w 197, 3) := by decide +kernel
theorem dX8_capOf_11 : decode cX8_capOf 11 = .ok (.lcmp, 1) := by decide +kernel
theorem dX8_capOf_12 : decode cX8_capOf 12 = .ok (.ifCond .le 9, 3) := by decide +kernel
theorem dX8_capOf_15 : decode cX8_capOf 15 = .ok (.sipush 300, 3) := by decide +kernel
theorem dX8_capOf_18 : decode cX8_capOf 18 = .ok (.goto 5, 3) := by decide +kernel
theorem dX8_capOf_21 : decode cX8_capOf 21 = .ok (.lload_n 3, 1) := by decide +kernel
theorem dX8_capOf_22 : decode cX8_capOf 22 = .ok (.l2i, 1) := by decide +kernel
theorem dX8_capOf_23 : decode cX8_capOf 23 = .ok (.ireturn, 1) := by decide +kernel
set_option maxRecDepth 20000 in
theorem ggX8_laySums_X8_capOf : GoodIn wsX8_laySums wsX8_capOf := goodIn_r _ [7, 8, 9, 10, 11, 6, 12, 13, 14, 15, 16, 17, 18, 19, 20, 21, 22, 23, 24, 25, 26, 27, 28, 29, 30, 31, 32, 33, 34, 35, 36, 37, 38, 39, 40, 41] (by decide +kernel) (by decide +kernel)
set_option maxRecDepth 20000 in
theorem gX8_laySums_X8_capOf : GoodIn wsX8_laySums (wsV RX8 199 RX8 yX8_capOf wsX8_capOf) := goodIn_app (goodIn_of _ (by decide +kernel)) ggX8_laySums_X8_capOf
theorem dX8_laySums_0 : decode cX8_laySums 0 = .ok (.iconst 0, 1) := by decide +kernel
theorem dX8_laySums_1 : decode cX8_laySums 1 = .ok (.istore_n 2, 1) := by decide +kernel
theorem dX8_laySums_2 : decode cX8_laySums 2 = .ok (.iload_n 2, 1) := by decide +kernel
theorem dX8_laySums_3 : decode cX8_laySums 3 = .ok (.sipush 300, 3) := by decide +kernel
theorem dX8_laySums_6 : decode cX8_laySums 6 = .ok (.if_icmp .gt 24, 3) := by decide +kernel
theorem dX8_laySums_9 : decode cX8_laySums 9 = .ok (.aload_n 0, 1) := by decide +kernel
theorem dX8_laySums_10 : decode cX8_laySums 10 = .ok (.getfield 45, 3) := by decide +kernel
theorem dX8_laySums_13 : decode cX8_laySums 13 = .ok (.iload_n 2, 1) := by decide +kernel
theorem dX8_laySums_14 : decode cX8_laySums 14 = .ok (.iload_n 2, 1) := by decide +kernel
theorem dX8_laySums_15 : decode cX8_laySums 15 = .ok (.ifCond .ne 7, 3) := by decide +kernel
theorem dX8_laySums_18 : decode cX8_laySums 18 = .ok (.iconst 1, 1) := by decide +kernel
theorem dX8_laySums_19 : decode cX8_laySums 19 = .ok (.goto 4, 3) := by decide +kernel
theorem dX8_laySums_22 : decode cX8_laySums 22 = .ok (.iconst 0, 1) := by decide +kernel
theorem dX8_laySums_23 : decode cX8_laySums 23 = .ok (.bastore, 1) := by decide +kernel
theorem dX8_laySums_24 : decode cX8_laySums 24 = .ok (.iinc 2 1, 3) := by decide +kernel
theorem dX8_laySums_27 : decode cX8_laySums 27 = .ok (.goto (-25), 3) := by decide +kernel
theorem dX8_laySums_30 : decode cX8_laySums 30 = .ok (.iconst 0, 1) := by decide +kernel
theorem dX8_laySums_31 : decode cX8_laySums 31 = .ok (.istore_n 2, 1) := by decide +kernel
theorem dX8_laySums_32 : decode cX8_laySums 32 = .ok (.iload_n 2, 1) := by decide +kernel
theorem dX8_laySums_33 : decode cX8_laySums 33 = .ok (.iconst 5, 1) := by decide +kernel
theorem dX8_laySums_34 : decode cX8_laySums 34 = .ok (.if_icmp .ge 112, 3) := by decide +kernel
theorem dX8_laySums_37 : decode cX8_laySums 37 = .ok (.aload_n 0, 1) := by decide +kernel
theorem dX8_laySums_38 : decode cX8_laySums 38 = .ok (.iload_n 1, 1) := by decide +kernel
theorem dX8_laySums_39 : decode cX8_laySums 39 = .ok (.iload_n 2, 1) := by decide +kernel
theorem dX8_laySums_40 : decode cX8_laySums 40 = .ok (.invokevirtual 199, 3) := by decide +kernel
theorem dX8_laySums_43 : decode cX8_laySums 43 = .ok (.istore_n 3, 1) := by decide +kernel
theorem dX8_laySums_44 : decode cX8_laySums 44 = .ok (.iconst 0, 1) := by decide +kernel
theorem dX8_laySums_45 : decode cX8_laySums 45 = .ok (.istore 4, 2) := by decide +kernel
theorem dX8_laySums_47 : decode cX8_laySums 47 = .ok (.iload 4, 2) := by decide +kernel
theorem dX8_laySums_49 : decode cX8_laySums 49 = .ok (.sipush 300, 3) := by decide +kernel
theorem dX8_laySums_52 : decode cX8_laySums 52 = .ok (.if_icmp .gt 88, 3) := by decide +kernel
theorem dX8_laySums_55 : decode cX8_laySums 55 = .ok (.iconst 0, 1) := by decide +kernel
theorem dX8_laySums_56 : decode cX8_laySums 56 = .ok (.istore 5, 2) := by decide +kernel
theorem dX8_laySums_58 : decode cX8_laySums 58 = .ok (.iconst 0, 1) := by decide +kernel
theorem dX8_laySums_59 : decode cX8_laySums 59 = .ok (.istore 6, 2) := by decide +kernel
theorem dX8_laySums_61 : decode cX8_laySums 61 = .ok (.iload 6, 2) := by decide +kernel
theorem dX8_laySums_63 : decode cX8_laySums 63 = .ok (.iload_n 3, 1) := by decide +kernel
theorem dX8_laySums_64 : decode cX8_laySums 64 = .ok (.if_icmp .gt 53, 3) := by decide +kernel
theorem dX8_laySums_67 : decode cX8_laySums 67 = .ok (.iload 6, 2) := by decide +kernel
theorem dX8_laySums_69 : decode cX8_laySums 69 = .ok (.aload_n 0, 1) := by decide +kernel
theorem dX8_laySums_70 : decode cX8_laySums 70 = .ok (.getfield 17, 3) := by decide +kernel
theorem dX8_laySums_73 : decode cX8_laySums 73 = .ok (.iload_n 2, 1) := by decide +kernel
theorem dX8_laySums_74 : decode cX8_laySums 74 = .ok (.iaload, 1) := by decide +kernel
theorem dX8_laySums_75 : decode cX8_laySums 75 = .ok (.imul, 1) := by decide +kernel
theorem dX8_laySums_76 : decode cX8_laySums 76 = .ok (.iload 4, 2) := by decide +kernel
theorem dX8_laySums_78 : decode cX8_laySums 78 = .ok (.if_icmp .gt 39, 3) := by decide +kernel
theorem dX8_laySums_81 : decode cX8_laySums 81 = .ok (.iload 5, 2) := by decide +kernel
theorem dX8_laySums_83 : decode cX8_laySums 83 = .ok (.ifCond .ne 34, 3) := by decide +kernel
theorem dX8_laySums_86 : decode cX8_laySums 86 = .ok (.aload_n 0, 1) := by decide +kernel
theorem dX8_laySums_87 : decode cX8_laySums 87 = .ok (.getfield 45, 3) := by decide +kernel
theorem dX8_laySums_90 : decode cX8_laySums 90 = .ok (.sipush 301, 3) := by decide +kernel
theorem dX8_laySums_93 : decode cX8_laySums 93 = .ok (.iload_n 2, 1) := by decide +kernel
theorem dX8_laySums_94 : decode cX8_laySums 94 = .ok (.imul, 1) := by decide +kernel
theorem dX8_laySums_95 : decode cX8_laySums 95 = .ok (.iload 4, 2) := by decide +kernel
theorem dX8_laySums_97 : decode cX8_laySums 97 = .ok (.iadd, 1) := by decide +kernel
theorem dX8_laySums_98 : decode cX8_laySums 98 = .ok (.iload 6, 2) := by decide +kernel
theorem dX8_laySums_100 : decode cX8_laySums 100 = .ok (.aload_n 0, 1) := by decide +kernel
theorem dX8_laySums_101 : decode cX8_laySums 101 = .ok (.getfield 17, 3) := by decide +kernel
theorem dX8_laySums_104 : decode cX8_laySums 104 = .ok (.iload_n 2, 1) := by decide +kernel
theorem dX8_laySums_105 : decode cX8_laySums 105 = .ok (.iaload, 1) := by decide +kernel
theorem dX8_laySums_106 : decode cX8_laySums 106 = .ok (.imul, 1) := by decide +kernel
theorem dX8_laySums_107 : decode cX8_laySums 107 = .ok (.isub, 1) := by decide +kernel
theorem dX8_laySums_108 : decode cX8_laySums 108 = .ok (.baload, 1) := by decide +kernel
theorem dX8_laySums_109 : decode cX8_laySums 109 = .ok (.istore 5, 2) := by decide +kernel
theorem dX8_laySums_111 : decode cX8_laySums 111 = .ok (.iinc 6 1, 3) := by decide +kernel
theorem dX8_laySums_114 : decode cX8_laySums 114 = .ok (.goto (-53), 3) := by decide +kernel
theorem dX8_laySums_117 : decode cX8_laySums 117 = .ok (.aload_n 0, 1) := by decide +kernel
theorem dX8_laySums_118 : decode cX8_laySums 118 = .ok (.getfield 45, 3) := by decide +kernel
theorem dX8_laySums_121 : decode cX8_laySums 121 = .ok (.sipush 301, 3) := by decide +kernel
theorem dX8_laySums_124 : decode cX8_laySums 124 = .ok (.iload_n 2, 1) := by decide +kernel
theorem dX8_laySums_125 : decode cX8_laySums 125 = .ok (.iconst 1, 1) := by decide +kernel
theorem dX8_laySums_126 : decode cX8_laySums 126 = .ok (.iadd, 1) := by decide +kernel
theorem dX8_laySums_127 : decode cX8_laySums 127 = .ok (.imul, 1) := by decide +kernel
theorem dX8_laySums_128 : decode cX8_laySums 128 = .ok (.iload 4, 2) := by decide +kernel
theorem dX8_laySums_130 : decode cX8_laySums 130 = .ok (.iadd, 1) := by decide +kernel
theorem dX8_laySums_131 : decode cX8_laySums 131 = .ok (.iload 5, 2) := by decide +kernel
theorem dX8_laySums_133 : decode cX8_laySums 133 = .ok (.bastore, 1) := by decide +kernel
theorem dX8_laySums_134 : decode cX8_laySums 134 = .ok (.iinc 4 1, 3) := by decide +kernel
theorem dX8_laySums_137 : decode cX8_laySums 137 = .ok (.goto (-90), 3) := by decide +kernel
theorem dX8_laySums_140 : decode cX8_laySums 140 = .ok (.iinc 2 1, 3) := by decide +kernel
theorem dX8_laySums_143 : decode cX8_laySums 143 = .ok (.goto (-111), 3) := by decide +kernel
theorem dX8_laySums_146 : decode cX8_laySums 146 = .ok (.return_, 1) := by decide +kernel
set_option maxRecDepth 20000 in
theorem ggX8_leastOf_X8_laySums : GoodIn wsX8_leastOf wsX8_laySums := goodIn_r _ [8, 1, 2, 9, 10, 11, 7, 12, 13, 14, 15, 16, 17, 18, 22, 23, 24, 25, 26, 27, 28, 29, 30, 31, 32, 33, 34, 35, 36, 37, 38, 39, 40, 41, 42, 43, 44, 45, 46, 47, 48, 49] (by decide +kernel) (by decide +kernel)
set_option maxRecDepth 20000 in
theorem gX8_leastOf_X8_laySums : GoodIn wsX8_leastOf (wsV RX8 203 RX8 yX8_laySums wsX8_laySums) := goodIn_app (goodIn_of _ (by decide +kernel)) ggX8_leastOf_X8_laySums
set_option maxRecDepth 20000 in
theorem ggX8_leastOf_X8_capOf : GoodIn wsX8_leastOf wsX8_capOf := goodIn_r _ [12, 13, 14, 15, 16, 7, 17, 18, 22, 23, 24, 25, 26, 27, 28, 29, 30, 31, 32, 33, 34, 35, 36, 37, 38, 39, 40, 41, 42, 43, 44, 45, 46, 47, 48, 49] (by decide +kernel) (by decide +kernel)
set_option maxRecDepth 20000 in
theorem gX8_leastOf_X8_capOf : GoodIn wsX8_leastOf (wsV RX8 199 RX8 yX8_capOf wsX8_capOf) := goodIn_app (goodIn_of _ (by decide +kernel)) ggX8_leastOf_X8_capOf
set_option maxRecDepth 20000 in
theorem ggX8_leastOf_X8_lesser : GoodIn wsX8_leastOf wsX8_lesser := goodIn_r _ [21] (by decide +kernel) (by decide +kernel)
set_option maxRecDepth 20000 in
theorem gX8_leastOf_X8_lesser : GoodIn wsX8_leastOf (va_wsS RX8 206 yX8_lesser wsX8_lesser) := goodIn_app (goodIn_of _ (by decide +kernel)) ggX8_leastOf_X8_lesser
theorem dX8_leastOf_0 : decode cX8_leastOf 0 = .ok (.aload_n 0, 1) := by decide +kernel
theorem dX8_leastOf_1 : decode cX8_leastOf 1 = .ok (.iload_n 1, 1) := by decide +kernel
theorem dX8_leastOf_2 : decode cX8_leastOf 2 = .ok (.invokevirtual 203, 3) := by decide +kernel
theorem dX8_leastOf_5 : decode cX8_leastOf 5 = .ok (.iload_n 2, 1) := by decide +kernel
theorem dX8_leastOf_6 : decode cX8_leastOf 6 = .ok (.istore_n 3, 1) := by decide +kernel
theorem dX8_leastOf_7 : decode cX8_leastOf 7 = .ok (.iload_n 3, 1) := by decide +kernel
theorem dX8_leastOf_8 : decode cX8_leastOf 8 = .ok (.sipush 300, 3) := by decide +kernel
theorem dX8_leastOf_11 : decode cX8_leastOf 11 = .ok (.if_icmp .gt 22, 3) := by decide +kernel
theorem dX8_leastOf_14 : decode cX8_leastOf 14 = .ok (.aload_n 0, 1) := by decide +kernel
theorem dX8_leastOf_15 : decode cX8_leastOf 15 = .ok (.getfield 45, 3) := by decide +kernel
theorem dX8_leastOf_18 : decode cX8_leastOf 18 = .ok (.sipush 1505, 3) := by decide +kernel
theorem dX8_leastOf_21 : decode cX8_leastOf 21 = .ok (.iload_n 3, 1) := by decide +kernel
theorem dX8_leastOf_22 : decode cX8_leastOf 22 = .ok (.iadd, 1) := by decide +kernel
theorem dX8_leastOf_23 : decode cX8_leastOf 23 = .ok (.baload, 1) := by decide +kernel
theorem dX8_leastOf_24 : decode cX8_leastOf 24 = .ok (.ifCond .ne 9, 3) := by decide +kernel
theorem dX8_leastOf_27 : decode cX8_leastOf 27 = .ok (.iinc 3 1, 3) := by decide +kernel
theorem dX8_leastOf_30 : decode cX8_leastOf 30 = .ok (.goto (-23), 3) := by decide +kernel
theorem dX8_leastOf_33 : decode cX8_leastOf 33 = .ok (.iload_n 3, 1) := by decide +kernel
theorem dX8_leastOf_34 : decode cX8_leastOf 34 = .ok (.sipush 300, 3) := by decide +kernel
theorem dX8_leastOf_37 : decode cX8_leastOf 37 = .ok (.if_icmp .le 6, 3) := by decide +kernel
theorem dX8_leastOf_40 : decode cX8_leastOf 40 = .ok (.bipush (-9), 2) := by decide +kernel
theorem dX8_leastOf_42 : decode cX8_leastOf 42 = .ok (.ireturn, 1) := by decide +kernel
theorem dX8_leastOf_43 : decode cX8_leastOf 43 = .ok (.iload_n 3, 1) := by decide +kernel
theorem dX8_leastOf_44 : decode cX8_leastOf 44 = .ok (.istore 4, 2) := by decide +kernel
theorem dX8_leastOf_46 : decode cX8_leastOf 46 = .ok (.iconst 4, 1) := by decide +kernel
theorem dX8_leastOf_47 : decode cX8_leastOf 47 = .ok (.istore 5, 2) := by decide +kernel
theorem dX8_leastOf_49 : decode cX8_leastOf 49 = .ok (.iload 5, 2) := by decide +kernel
theorem dX8_leastOf_51 : decode cX8_leastOf 51 = .ok (.ifCond .lt 103, 3) := by decide +kernel
theorem dX8_leastOf_54 : decode cX8_leastOf 54 = .ok (.aload_n 0, 1) := by decide +kernel
theorem dX8_leastOf_55 : decode cX8_leastOf 55 = .ok (.getfield 17, 3) := by decide +kernel
theorem dX8_leastOf_58 : decode cX8_leastOf 58 = .ok (.iload 5, 2) := by decide +kernel
theorem dX8_leastOf_60 : decode cX8_leastOf 60 = .ok (.iaload, 1) := by decide +kernel
theorem dX8_leastOf_61 : decode cX8_leastOf 61 = .ok (.ifCond .ne 7, 3) := by decide +kernel
theorem dX8_leastOf_64 : decode cX8_leastOf 64 = .ok (.iconst 0, 1) := by decide +kernel
theorem dX8_leastOf_65 : decode cX8_leastOf 65 = .ok (.goto 23, 3) := by decide +kernel
theorem dX8_leastOf_68 : decode cX8_leastOf 68 = .ok (.aload_n 0, 1) := by decide +kernel
theorem dX8_leastOf_69 : decode cX8_leastOf 69 = .ok (.iload_n 1, 1) := by decide +kernel
theorem dX8_leastOf_70 : decode cX8_leastOf 70 = .ok (.iload 5, 2) := by decide +kernel
theorem dX8_leastOf_72 : decode cX8_leastOf 72 = .ok (.invokevirtual 199, 3) := by decide +kernel
theorem dX8_leastOf_75 : decode cX8_leastOf 75 = .ok (.iload 4, 2) := by decide +kernel
theorem dX8_leastOf_77 : decode cX8_leastOf 77 = .ok (.aload_n 0, 1) := by decide +kernel
theorem dX8_leastOf_78 : decode cX8_leastOf 78 = .ok (.getfield 17, 3) := by decide +kernel
theorem dX8_leastOf_81 : decode cX8_leastOf 81 = .ok (.iload 5, 2) := by decide +kernel
theorem dX8_leastOf_83 : decode cX8_leastOf 83 = .ok (.iaload, 1) := by decide +kernel
theorem dX8_leastOf_84 : decode cX8_leastOf 84 = .ok (.idiv, 1) := by decide +kernel
theorem dX8_leastOf_85 : decode cX8_leastOf 85 = .ok (.invokestatic 206, 3) := by decide +kernel
theorem dX8_leastOf_88 : decode cX8_leastOf 88 = .ok (.istore 6, 2) := by decide +kernel
theorem dX8_leastOf_90 : decode cX8_leastOf 90 = .ok (.aload_n 0, 1) := by decide +kernel
theorem dX8_leastOf_91 : decode cX8_leastOf 91 = .ok (.getfield 45, 3) := by decide +kernel
theorem dX8_leastOf_94 : decode cX8_leastOf 94 = .ok (.sipush 301, 3) := by decide +kernel
theorem dX8_leastOf_97 : decode cX8_leastOf 97 = .ok (.iload 5, 2) := by decide +kernel
theorem dX8_leastOf_99 : decode cX8_leastOf 99 = .ok (.imul, 1) := by decide +kernel
theorem dX8_leastOf_100 : decode cX8_leastOf 100 = .ok (.iload 4, 2) := by decide +kernel
theorem dX8_leastOf_102 : decode cX8_leastOf 102 = .ok (.iadd, 1) := by decide +kernel
theorem dX8_leastOf_103 : decode cX8_leastOf 103 = .ok (.iload 6, 2) := by decide +kernel
theorem dX8_leastOf_105 : decode cX8_leastOf 105 = .ok (.aload_n 0, 1) := by decide +kernel
theorem dX8_leastOf_106 : decode cX8_leastOf 106 = .ok (.getfield 17, 3) := by decide +kernel
theorem dX8_leastOf_109 : decode cX8_leastOf 109 = .ok (.iload 5, 2) := by decide +kernel
theorem dX8_leastOf_111 : decode cX8_leastOf 111 = .ok (.iaload, 1) := by decide +kernel
theorem dX8_leastOf_112 : decode cX8_leastOf 112 = .ok (.imul, 1) := by decide +kernel
theorem dX8_leastOf_113 : decode cX8_leastOf 113 = .ok (.isub, 1) := by decide +kernel
theorem dX8_leastOf_114 : decode cX8_leastOf 114 = .ok (.baload, 1) := by decide +kernel
theorem dX8_leastOf_115 : decode cX8_leastOf 115 = .ok (.ifCond .ne 9, 3) := by decide +kernel
theorem dX8_leastOf_118 : decode cX8_leastOf 118 = .ok (.iinc 6 (-1), 3) := by decide +kernel
theorem dX8_leastOf_121 : decode cX8_leastOf 121 = .ok (.goto (-31), 3) := by decide +kernel
theorem dX8_leastOf_124 : decode cX8_leastOf 124 = .ok (.aload_n 0, 1) := by decide +kernel
theorem dX8_leastOf_125 : decode cX8_leastOf 125 = .ok (.getfield 48, 3) := by decide +kernel
theorem dX8_leastOf_128 : decode cX8_leastOf 128 = .ok (.iload 5, 2) := by decide +kernel
theorem dX8_leastOf_130 : decode cX8_leastOf 130 = .ok (.iload 6, 2) := by decide +kernel
theorem dX8_leastOf_132 : decode cX8_leastOf 132 = .ok (.iastore, 1) := by decide +kernel
theorem dX8_leastOf_133 : decode cX8_leastOf 133 = .ok (.iload 4, 2) := by decide +kernel
theorem dX8_leastOf_135 : decode cX8_leastOf 135 = .ok (.iload 6, 2) := by decide +kernel
theorem dX8_leastOf_137 : decode cX8_leastOf 137 = .ok (.aload_n 0, 1) := by decide +kernel
theorem dX8_leastOf_138 : decode cX8_leastOf 138 = .ok (.getfield 17, 3) := by decide +kernel
theorem dX8_leastOf_141 : decode cX8_leastOf 141 = .ok (.iload 5, 2) := by decide +kernel
theorem dX8_leastOf_143 : decode cX8_leastOf 143 = .ok (.iaload, 1) := by decide +kernel
theorem dX8_leastOf_144 : decode cX8_leastOf 144 = .ok (.imul, 1) := by decide +kernel
theorem dX8_leastOf_145 : decode cX8_leastOf 145 = .ok (.isub, 1) := by decide +kernel
theorem dX8_leastOf_146 : decode cX8_leastOf 146 = .ok (.istore 4, 2) := by decide +kernel
theorem dX8_leastOf_148 : decode cX8_leastOf 148 = .ok (.iinc 5 (-1), 3) := by decide +kernel
theorem dX8_leastOf_151 : decode cX8_leastOf 151 = .ok (.goto (-102), 3) := by decide +kernel
theorem dX8_leastOf_154 : decode cX8_leastOf 154 = .ok (.iload_n 3, 1) := by decide +kernel
theorem dX8_leastOf_155 : decode cX8_leastOf 155 = .ok (.ireturn, 1) := by decide +kernel
theorem dX8_lesser_0 : decode cX8_lesser 0 = .ok (.iload_n 0, 1) := by decide +kernel
theorem dX8_lesser_1 : decode cX8_lesser 1 = .ok (.iload_n 1, 1) := by decide +kernel
theorem dX8_lesser_2 : decode cX8_lesser 2 = .ok (.if_icmp .ge 7, 3) := by decide +kernel
theorem dX8_lesser_5 : decode cX8_lesser 5 = .ok (.iload_n 0, 1) := by decide +kernel
theorem dX8_lesser_6 : decode cX8_lesser 6 = .ok (.goto 4, 3) := by decide +kernel
theorem dX8_lesser_9 : decode cX8_lesser 9 = .ok (.iload_n 1, 1) := by decide +kernel
theorem dX8_lesser_10 : decode cX8_lesser 10 = .ok (.ireturn, 1) := by decide +kernel
set_option maxRecDepth 20000 in
theorem ggX8_least_X8_in : GoodIn wsX8_least wsX8_in := goodIn_r _ [8] (by decide +kernel) (by decide +kernel)
set_option maxRecDepth 20000 in
theorem gX8_least_X8_in : GoodIn wsX8_least (va_wsS RX8 91 yX8_in wsX8_in) := goodIn_app (goodIn_of _ (by decide +kernel)) ggX8_least_X8_in
set_option maxRecDepth 20000 in
theorem ggX8_least_X8_leastOf : GoodIn wsX8_least wsX8_leastOf := goodIn_r _ [12, 13, 14, 4, 15, 16, 17, 7, 18, 19, 20, 21, 22, 23, 24, 25, 26, 27, 28, 29, 30, 31, 32, 33, 34, 35, 36, 37, 38, 39, 40, 41, 42, 43, 44, 45, 46, 47, 48, 49, 50, 51, 52, 53, 54, 55, 56, 57, 58, 59] (by decide +kernel) (by decide +kernel)
set_option maxRecDepth 20000 in
theorem gX8_least_X8_leastOf : GoodIn wsX8_least (wsV RX8 211 RX8 yX8_leastOf wsX8_leastOf) := goodIn_app (goodIn_of _ (by decide +kernel)) ggX8_least_X8_leastOf
theorem dX8_least_0 : decode cX8_least 0 = .ok (.iload_n 1, 1) := by decide +kernel
theorem dX8_least_1 : decode cX8_least 1 = .ok (.i2l, 1) := by decide +kernel
theorem dX8_least_2 : decode cX8_least 2 = .ok (.lconst 1, 1) := by decide +kernel
theorem dX8_least_3 : decode cX8_least 3 = .ok (.ldc2_w 209, 3) := by decide +kernel
theorem dX8_least_6 : decode cX8_least 6 = .ok (.invokestatic 91, 3) := by decide +kernel
theorem dX8_least_9 : decode cX8_least 9 = .ok (.ifCond .eq 17, 3) := by decide +kernel
theorem dX8_least_12 : decode cX8_least 12 = .ok (.iload_n 2, 1) := by decide +kernel
theorem dX8_least_13 : decode cX8_least 13 = .ok (.i2l, 1) := by decide +kernel
theorem dX8_least_14 : decode cX8_least 14 = .ok (.ldc2_w 164, 3) := by decide +kernel
theorem dX8_least_17 : decode cX8_least 17 = .ok (.ldc2_w 136, 3) := by decide +kernel
theorem dX8_least_20 : decode cX8_least 20 = .ok (.invokestatic 91, 3) := by decide +kernel
theorem dX8_least_23 : decode cX8_least 23 = .ok (.ifCond .ne 5, 3) := by decide +kernel
theorem dX8_least_26 : decode cX8_least 26 = .ok (.iconst (-1), 1) := by decide +kernel
theorem dX8_least_27 : decode cX8_least 27 = .ok (.ireturn, 1) := by decide +kernel
theorem dX8_least_28 : decode cX8_least 28 = .ok (.aload_n 0, 1) := by decide +kernel
theorem dX8_least_29 : decode cX8_least 29 = .ok (.iconst 0, 1) := by decide +kernel
theorem dX8_least_30 : decode cX8_least 30 = .ok (.iload_n 1, 1) := by decide +kernel
theorem dX8_least_31 : decode cX8_least 31 = .ok (.invokevirtual 211, 3) := by decide +kernel
theorem dX8_least_34 : decode cX8_least 34 = .ok (.istore_n 3, 1) := by decide +kernel
theorem dX8_least_35 : decode cX8_least 35 = .ok (.iload_n 3, 1) := by decide +kernel
theorem dX8_least_36 : decode cX8_least 36 = .ok (.ifCond .ge 8, 3) := by decide +kernel
theorem dX8_least_39 : decode cX8_least 39 = .ok (.bipush (-9), 2) := by decide +kernel
theorem dX8_least_41 : decode cX8_least 41 = .ok (.goto 17, 3) := by decide +kernel
theorem dX8_least_44 : decode cX8_least 44 = .ok (.iload_n 2, 1) := by decide +kernel
theorem dX8_least_45 : decode cX8_least 45 = .ok (.ifCond .ge 7, 3) := by decide +kernel
theorem dX8_least_48 : decode cX8_least 48 = .ok (.iload_n 3, 1) := by decide +kernel
theorem dX8_least_49 : decode cX8_least 49 = .ok (.goto 9, 3) := by decide +kernel
theorem dX8_least_52 : decode cX8_least 52 = .ok (.aload_n 0, 1) := by decide +kernel
theorem dX8_least_53 : decode cX8_least 53 = .ok (.getfield 48, 3) := by decide +kernel
theorem dX8_least_56 : decode cX8_least 56 = .ok (.iload_n 2, 1) := by decide +kernel
theorem dX8_least_57 : decode cX8_least 57 = .ok (.iaload, 1) := by decide +kernel
theorem dX8_least_58 : decode cX8_least 58 = .ok (.ireturn, 1) := by decide +kernel
set_option maxRecDepth 20000 in
theorem ggX8_meets_X8_copy : GoodIn wsX8_meets wsX8_copy := goodIn_r _ [11, 1, 57, 58, 59, 60, 61, 62, 63, 64, 65, 66, 67, 68, 69, 70, 71, 72, 73, 74, 75, 76, 77, 78, 79, 80, 81, 82, 83, 84] (by decide +kernel) (by decide +kernel)
set_option maxRecDepth 20000 in
theorem gX8_meets_X8_copy : GoodIn wsX8_meets (wsV RX8 166 RX8 yX8_copy wsX8_copy) := goodIn_app (goodIn_of _ (by decide +kernel)) ggX8_meets_X8_copy
set_option maxRecDepth 20000 in
theorem ggX8_meets_X8_goes : GoodIn wsX8_meets wsX8_goes := goodIn_r _ [15, 1, 16, 17, 18, 19, 10, 20, 21, 22, 23, 24, 25, 26, 27, 57, 58, 59, 60, 61, 62, 63, 64, 65, 66, 67, 68, 69, 70, 71, 72, 73, 74, 75, 76, 77, 78, 79, 80, 81, 82, 83, 84] (by decide +kernel) (by decide +kernel)
set_option maxRecDepth 20000 in
theorem gX8_meets_X8_goes : GoodIn wsX8_meets (wsV RX8 177 RX8 yX8_goes wsX8_goes) := goodIn_app (goodIn_of _ (by decide +kernel)) ggX8_meets_X8_goes
set_option maxRecDepth 20000 in
theorem ggX8_meets_X8_leastOf : GoodIn wsX8_meets wsX8_leastOf := goodIn_r _ [31, 32, 27, 5, 33, 34, 35, 10, 36, 37, 38, 39, 40, 41, 42, 43, 44, 45, 1, 46, 47, 48, 57, 58, 59, 60, 61, 62, 63, 64, 65, 66, 67, 68, 69, 70, 71, 72, 73, 74, 75, 76, 77, 78, 79, 80, 81, 82, 83, 84] (by decide +kernel) (by decide +kernel)
set_option maxRecDepth 20000 in
theorem gX8_meets_X8_leastOf : GoodIn wsX8_meets (wsV RX8 211 RX8 yX8_leastOf wsX8_leastOf) := goodIn_app (goodIn_of _ (by decide +kernel)) ggX8_meets_X8_leastOf
set_option maxRecDepth 20000 in
theorem ggX8_meets_X8_takesAway : GoodIn wsX8_meets wsX8_takesAway := goodIn_r _ [52, 1, 57, 58, 59, 60, 61, 62, 63, 64, 65, 66, 67, 68, 69, 70, 71, 72, 73, 74, 75, 76, 77, 78, 79, 80, 81, 82, 83, 84] (by decide +kernel) (by decide +kernel)
set_option maxRecDepth 20000 in
theorem gX8_meets_X8_takesAway : GoodIn wsX8_meets (wsV RX8 185 RX8 yX8_takesAway wsX8_takesAway) := goodIn_app (goodIn_of _ (by decide +kernel)) ggX8_meets_X8_takesAway
set_option maxRecDepth 20000 in
theorem ggX8_meets_X8_weighs : GoodIn wsX8_meets wsX8_weighs := goodIn_r _ [56, 1, 27, 42, 43, 44, 10, 45, 57, 58, 59, 60, 61, 62, 63, 64, 65, 66, 67, 68, 69, 70, 71, 72, 73, 74, 75, 76, 77, 78, 79, 80, 81, 82, 83, 84] (by decide +kernel) (by decide +kernel)
set_option maxRecDepth 20000 in
theorem gX8_meets_X8_weighs : GoodIn wsX8_meets (wsV RX8 161 RX8 yX8_weighs wsX8_weighs) := goodIn_app (goodIn_of _ (by decide +kernel)) ggX8_meets_X8_weighs
theorem dX8_meets_0 : decode cX8_meets 0 = .ok (.aload_n 0, 1) := by decide +kernel
theorem dX8_meets_1 : decode cX8_meets 1 = .ok (.iconst 0, 1) := by decide +kernel
theorem dX8_meets_2 : decode cX8_meets 2 = .ok (.sipush 607, 3) := by decide +kernel
theorem dX8_meets_5 : decode cX8_meets 5 = .ok (.invokevirtual 166, 3) := by decide +kernel
theorem dX8_meets_8 : decode cX8_meets 8 = .ok (.aload_n 0, 1) := by decide +kernel
theorem dX8_meets_9 : decode cX8_meets 9 = .ok (.getfield 7, 3) := by decide +kernel
theorem dX8_meets_12 : decode cX8_meets 12 = .ok (.sipush 606, 3) := by decide +kernel
theorem dX8_meets_15 : decode cX8_meets 15 = .ok (.laload, 1) := by decide +kernel
theorem dX8_meets_16 : decode cX8_meets 16 = .ok (.l2i, 1) := by decide +kernel
theorem dX8_meets_17 : decode cX8_meets 17 = .ok (.iconst 1, 1) := by decide +kernel
theorem dX8_meets_18 : decode cX8_meets 18 = .ok (.iadd, 1) := by decide +kernel
theorem dX8_meets_19 : decode cX8_meets 19 = .ok (.istore_n 1, 1) := by decide +kernel
theorem dX8_meets_20 : decode cX8_meets 20 = .ok (.iload_n 1, 1) := by decide +kernel
theorem dX8_meets_21 : decode cX8_meets 21 = .ok (.bipush 120, 2) := by decide +kernel
theorem dX8_meets_23 : decode cX8_meets 23 = .ok (.if_icmp .gt 109, 3) := by decide +kernel
theorem dX8_meets_26 : decode cX8_meets 26 = .ok (.aload_n 0, 1) := by decide +kernel
theorem dX8_meets_27 : decode cX8_meets 27 = .ok (.sipush 607, 3) := by decide +kernel
theorem dX8_meets_30 : decode cX8_meets 30 = .ok (.invokevirtual 177, 3) := by decide +kernel
theorem dX8_meets_33 : decode cX8_meets 33 = .ok (.pop2, 1) := by decide +kernel
theorem dX8_meets_34 : decode cX8_meets 34 = .ok (.iconst 0, 1) := by decide +kernel
theorem dX8_meets_35 : decode cX8_meets 35 = .ok (.istore_n 2, 1) := by decide +kernel
theorem dX8_meets_36 : decode cX8_meets 36 = .ok (.iload_n 2, 1) := by decide +kernel
theorem dX8_meets_37 : decode cX8_meets 37 = .ok (.aload_n 0, 1) := by decide +kernel
theorem dX8_meets_38 : decode cX8_meets 38 = .ok (.getfield 76, 3) := by decide +kernel
theorem dX8_meets_41 : decode cX8_meets 41 = .ok (.if_icmp .ge 85, 3) := by decide +kernel
theorem dX8_meets_44 : decode cX8_meets 44 = .ok (.aload_n 0, 1) := by decide +kernel
theorem dX8_meets_45 : decode cX8_meets 45 = .ok (.getfield 21, 3) := by decide +kernel
theorem dX8_meets_48 : decode cX8_meets 48 = .ok (.iload_n 2, 1) := by decide +kernel
theorem dX8_meets_49 : decode cX8_meets 49 = .ok (.iaload, 1) := by decide +kernel
theorem dX8_meets_50 : decode cX8_meets 50 = .ok (.iload_n 1, 1) := by decide +kernel
theorem dX8_meets_51 : decode cX8_meets 51 = .ok (.if_icmp .ne 69, 3) := by decide +kernel
theorem dX8_meets_54 : decode cX8_meets 54 = .ok (.aload_n 0, 1) := by decide +kernel
theorem dX8_meets_55 : decode cX8_meets 55 = .ok (.sipush 607, 3) := by decide +kernel
theorem dX8_meets_58 : decode cX8_meets 58 = .ok (.aload_n 0, 1) := by decide +kernel
theorem dX8_meets_59 : decode cX8_meets 59 = .ok (.getfield 24, 3) := by decide +kernel
theorem dX8_meets_62 : decode cX8_meets 62 = .ok (.iload_n 2, 1) := by decide +kernel
theorem dX8_meets_63 : decode cX8_meets 63 = .ok (.iaload, 1) := by decide +kernel
theorem dX8_meets_64 : decode cX8_meets 64 = .ok (.invokevirtual 211, 3) := by decide +kernel
theorem dX8_meets_67 : decode cX8_meets 67 = .ok (.ifCond .ge 5, 3) := by decide +kernel
theorem dX8_meets_70 : decode cX8_meets 70 = .ok (.iload_n 2, 1) := by decide +kernel
theorem dX8_meets_71 : decode cX8_meets 71 = .ok (.ireturn, 1) := by decide +kernel
theorem dX8_meets_72 : decode cX8_meets 72 = .ok (.iconst 0, 1) := by decide +kernel
theorem dX8_meets_73 : decode cX8_meets 73 = .ok (.istore_n 3, 1) := by decide +kernel
theorem dX8_meets_74 : decode cX8_meets 74 = .ok (.iload_n 3, 1) := by decide +kernel
theorem dX8_meets_75 : decode cX8_meets 75 = .ok (.iconst 5, 1) := by decide +kernel
theorem dX8_meets_76 : decode cX8_meets 76 = .ok (.if_icmp .ge 24, 3) := by decide +kernel
theorem dX8_meets_79 : decode cX8_meets 79 = .ok (.aload_n 0, 1) := by decide +kernel
theorem dX8_meets_80 : decode cX8_meets 80 = .ok (.sipush 607, 3) := by decide +kernel
theorem dX8_meets_83 : decode cX8_meets 83 = .ok (.iload_n 3, 1) := by decide +kernel
theorem dX8_meets_84 : decode cX8_meets 84 = .ok (.aload_n 0, 1) := by decide +kernel
theorem dX8_meets_85 : decode cX8_meets 85 = .ok (.getfield 48, 3) := by decide +kernel
theorem dX8_meets_88 : decode cX8_meets 88 = .ok (.iload_n 3, 1) := by decide +kernel
theorem dX8_meets_89 : decode cX8_meets 89 = .ok (.iaload, 1) := by decide +kernel
theorem dX8_meets_90 : decode cX8_meets 90 = .ok (.i2l, 1) := by decide +kernel
theorem dX8_meets_91 : decode cX8_meets 91 = .ok (.invokevirtual 185, 3) := by decide +kernel
theorem dX8_meets_94 : decode cX8_meets 94 = .ok (.iinc 3 1, 3) := by decide +kernel
theorem dX8_meets_97 : decode cX8_meets 97 = .ok (.goto (-23), 3) := by decide +kernel
theorem dX8_meets_100 : decode cX8_meets 100 = .ok (.aload_n 0, 1) := by decide +kernel
theorem dX8_meets_101 : decode cX8_meets 101 = .ok (.aload_n 0, 1) := by decide +kernel
theorem dX8_meets_102 : decode cX8_meets 102 = .ok (.sipush 607, 3) := by decide +kernel
theorem dX8_meets_105 : decode cX8_meets 105 = .ok (.invokevirtual 161, 3) := by decide +kernel
theorem dX8_meets_108 : decode cX8_meets 108 = .ok (.aload_n 0, 1) := by decide +kernel
theorem dX8_meets_109 : decode cX8_meets 109 = .ok (.getfield 7, 3) := by decide +kernel
theorem dX8_meets_112 : decode cX8_meets 112 = .ok (.sipush 1212, 3) := by decide +kernel
theorem dX8_meets_115 : decode cX8_meets 115 = .ok (.laload, 1) := by decide +kernel
theorem dX8_meets_116 : decode cX8_meets 116 = .ok (.lsub, 1) := by decide +kernel
theorem dX8_meets_117 : decode cX8_meets 117 = .ok (.putfield 214, 3) := by decide +kernel
theorem dX8_meets_120 : decode cX8_meets 120 = .ok (.iinc 2 1, 3) := by decide +kernel
theorem dX8_meets_123 : decode cX8_meets 123 = .ok (.goto (-87), 3) := by decide +kernel
theorem dX8_meets_126 : decode cX8_meets 126 = .ok (.iinc 1 1, 3) := by decide +kernel
theorem dX8_meets_129 : decode cX8_meets 129 = .ok (.goto (-109), 3) := by decide +kernel
theorem dX8_meets_132 : decode cX8_meets 132 = .ok (.bipush (-9), 2) := by decide +kernel
theorem dX8_meets_134 : decode cX8_meets 134 = .ok (.ireturn, 1) := by decide +kernel
set_option maxRecDepth 20000 in
theorem ggX8_met_X8_meets : GoodIn wsX8_met wsX8_meets := goodIn_r _ [5, 6, 7, 8, 9, 10, 11, 12, 13, 14, 4, 15, 16, 17, 18, 19, 20, 21, 22, 23, 24, 25, 26, 27, 28, 29, 30, 31, 32, 33, 34, 35, 36, 37, 38, 39, 40, 41, 42, 43, 44, 45, 46, 47, 48, 49, 50, 51, 52, 53, 54, 55, 56, 57, 58, 59, 60, 61, 62, 63, 64, 65, 66, 67, 68, 69, 70, 71, 72, 73, 74, 75, 76, 77, 78, 79, 80, 81, 82, 83, 84, 85, 86, 87, 88] (by decide +kernel) (by decide +kernel)
set_option maxRecDepth 20000 in
theorem gX8_met_X8_meets : GoodIn wsX8_met (wsV RX8 218 RX8 yX8_meets wsX8_meets) := goodIn_app (goodIn_of _ (by decide +kernel)) ggX8_met_X8_meets
theorem dX8_met_0 : decode cX8_met 0 = .ok (.aload_n 0, 1) := by decide +kernel
theorem dX8_met_1 : decode cX8_met 1 = .ok (.invokevirtual 218, 3) := by decide +kernel
theorem dX8_met_4 : decode cX8_met 4 = .ok (.ireturn, 1) := by decide +kernel
set_option maxRecDepth 20000 in
theorem ggX8_left_X8_weighs : GoodIn wsX8_left wsX8_weighs := goodIn_r _ [8, 1, 9, 10, 11, 12, 7, 13, 62, 63, 64, 65, 66, 67, 68, 69, 70, 71, 72, 73, 74, 75, 76, 77, 78, 79, 80, 81, 82, 83, 84, 85, 86, 87, 88, 89] (by decide +kernel) (by decide +kernel)
set_option maxRecDepth 20000 in
theorem gX8_left_X8_weighs : GoodIn wsX8_left (wsV RX8 161 RX8 yX8_weighs wsX8_weighs) := goodIn_app (goodIn_of _ (by decide +kernel)) ggX8_left_X8_weighs
set_option maxRecDepth 20000 in
theorem ggX8_left_X8_meets : GoodIn wsX8_left wsX8_meets := goodIn_r _ [17, 1, 18, 19, 20, 21, 2, 22, 23, 24, 7, 25, 26, 27, 28, 29, 30, 31, 32, 33, 34, 35, 36, 37, 38, 39, 40, 9, 41, 42, 43, 44, 45, 46, 47, 48, 49, 50, 51, 52, 53, 54, 10, 11, 12, 13, 55, 56, 57, 58, 59, 60, 61, 4, 5, 6, 8, 62, 63, 64, 65, 66, 67, 68, 69, 70, 71, 72, 73, 74, 75, 76, 77, 78, 79, 80, 81, 82, 83, 84, 85, 86, 87, 88, 89] (by decide +kernel) (by decide +kernel)
set_option maxRecDepth 20000 in
theorem gX8_left_X8_meets : GoodIn wsX8_left (wsV RX8 218 RX8 yX8_meets wsX8_meets) := goodIn_app (goodIn_of _ (by decide +kernel)) ggX8_left_X8_meets
theorem dX8_left_0 : decode cX8_left 0 = .ok (.aload_n 0, 1) := by decide +kernel
theorem dX8_left_1 : decode cX8_left 1 = .ok (.aload_n 0, 1) := by decide +kernel
theorem dX8_left_2 : decode cX8_left 2 = .ok (.iconst 0, 1) := by decide +kernel
theorem dX8_left_3 : decode cX8_left 3 = .ok (.invokevirtual 161, 3) := by decide +kernel
theorem dX8_left_6 : decode cX8_left 6 = .ok (.aload_n 0, 1) := by decide +kernel
theorem dX8_left_7 : decode cX8_left 7 = .ok (.getfield 7, 3) := by decide +kernel
theorem dX8_left_10 : decode cX8_left 10 = .ok (.sipush 605, 3) := by decide +kernel
theorem dX8_left_13 : decode cX8_left 13 = .ok (.laload, 1) := by decide +kernel
theorem dX8_left_14 : decode cX8_left 14 = .ok (.lsub, 1) := by decide +kernel
theorem dX8_left_15 : decode cX8_left 15 = .ok (.putfield 214, 3) := by decide +kernel
theorem dX8_left_18 : decode cX8_left 18 = .ok (.aload_n 0, 1) := by decide +kernel
theorem dX8_left_19 : decode cX8_left 19 = .ok (.invokevirtual 218, 3) := by decide +kernel
theorem dX8_left_22 : decode cX8_left 22 = .ok (.bipush (-9), 2) := by decide +kernel
theorem dX8_left_24 : decode cX8_left 24 = .ok (.if_icmp .ne 10, 3) := by decide +kernel
theorem dX8_left_27 : decode cX8_left 27 = .ok (.aload_n 0, 1) := by decide +kernel
theorem dX8_left_28 : decode cX8_left 28 = .ok (.getfield 214, 3) := by decide +kernel
theorem dX8_left_31 : decode cX8_left 31 = .ok (.goto 6, 3) := by decide +kernel
theorem dX8_left_34 : decode cX8_left 34 = .ok (.ldc2_w 222, 3) := by decide +kernel
theorem dX8_left_37 : decode cX8_left 37 = .ok (.lreturn, 1) := by decide +kernel
set_option maxRecDepth 20000 in
theorem ggX8_age_X8_in : GoodIn wsX8_age wsX8_in := goodIn_r _ [6] (by decide +kernel) (by decide +kernel)
set_option maxRecDepth 20000 in
theorem gX8_age_X8_in : GoodIn wsX8_age (va_wsS RX8 91 yX8_in wsX8_in) := goodIn_app (goodIn_of _ (by decide +kernel)) ggX8_age_X8_in
theorem dX8_age_0 : decode cX8_age 0 = .ok (.iload_n 1, 1) := by decide +kernel
theorem dX8_age_1 : decode cX8_age 1 = .ok (.i2l, 1) := by decide +kernel
theorem dX8_age_2 : decode cX8_age 2 = .ok (.lconst 1, 1) := by decide +kernel
theorem dX8_age_3 : decode cX8_age 3 = .ok (.ldc2_w 224, 3) := by decide +kernel
theorem dX8_age_6 : decode cX8_age 6 = .ok (.invokestatic 91, 3) := by decide +kernel
theorem dX8_age_9 : decode cX8_age 9 = .ok (.ifCond .ne 5, 3) := by decide +kernel
theorem dX8_age_12 : decode cX8_age 12 = .ok (.iconst (-1), 1) := by decide +kernel
theorem dX8_age_13 : decode cX8_age 13 = .ok (.ireturn, 1) := by decide +kernel
theorem dX8_age_14 : decode cX8_age 14 = .ok (.iconst 0, 1) := by decide +kernel
theorem dX8_age_15 : decode cX8_age 15 = .ok (.istore_n 2, 1) := by decide +kernel
theorem dX8_age_16 : decode cX8_age 16 = .ok (.iconst 0, 1) := by decide +kernel
theorem dX8_age_17 : decode cX8_age 17 = .ok (.istore_n 3, 1) := by decide +kernel
theorem dX8_age_18 : decode cX8_age 18 = .ok (.iload_n 3, 1) := by decide +kernel
theorem dX8_age_19 : decode cX8_age 19 = .ok (.iconst 5, 1) := by decide +kernel
theorem dX8_age_20 : decode cX8_age 20 = .ok (.if_icmp .ge 29, 3) := by decide +kernel
theorem dX8_age_23 : decode cX8_age 23 = .ok (.iload_n 2, 1) := by decide +kernel
theorem dX8_age_24 : decode cX8_age 24 = .ok (.aload_n 0, 1) := by decide +kernel
theorem dX8_age_25 : decode cX8_age 25 = .ok (.getfield 17, 3) := by decide +kernel
theorem dX8_age_28 : decode cX8_age 28 = .ok (.iload_n 3, 1) := by decide +kernel
theorem dX8_age_29 : decode cX8_age 29 = .ok (.iaload, 1) := by decide +kernel
theorem dX8_age_30 : decode cX8_age 30 = .ok (.iload_n 1, 1) := by decide +kernel
theorem dX8_age_31 : decode cX8_age 31 = .ok (.if_icmp .ne 9, 3) := by decide +kernel
theorem dX8_age_34 : decode cX8_age 34 = .ok (.iconst 1, 1) := by decide +kernel
theorem dX8_age_35 : decode cX8_age 35 = .ok (.iload_n 3, 1) := by decide +kernel
theorem dX8_age_36 : decode cX8_age 36 = .ok (.ishl, 1) := by decide +kernel
theorem dX8_age_37 : decode cX8_age 37 = .ok (.goto 4, 3) := by decide +kernel
theorem dX8_age_40 : decode cX8_age 40 = .ok (.iconst 0, 1) := by decide +kernel
theorem dX8_age_41 : decode cX8_age 41 = .ok (.ior, 1) := by decide +kernel
theorem dX8_age_42 : decode cX8_age 42 = .ok (.istore_n 2, 1) := by decide +kernel
theorem dX8_age_43 : decode cX8_age 43 = .ok (.iinc 3 1, 3) := by decide +kernel
theorem dX8_age_46 : decode cX8_age 46 = .ok (.goto (-28), 3) := by decide +kernel
theorem dX8_age_49 : decode cX8_age 49 = .ok (.iload_n 2, 1) := by decide +kernel
theorem dX8_age_50 : decode cX8_age 50 = .ok (.ireturn, 1) := by decide +kernel
set_option maxRecDepth 20000 in
theorem ggX8_first_X8_areMany : GoodIn wsX8_first wsX8_areMany := goodIn_r _ [7, 8, 9, 10, 6, 11, 12, 13, 14, 15] (by decide +kernel) (by decide +kernel)
set_option maxRecDepth 20000 in
theorem gX8_first_X8_areMany : GoodIn wsX8_first (wsV RX8 182 RX8 yX8_areMany wsX8_areMany) := goodIn_app (goodIn_of _ (by decide +kernel)) ggX8_first_X8_areMany
set_option maxRecDepth 20000 in
theorem ggX8_first_X8_begins : GoodIn wsX8_first wsX8_begins := goodIn_r _ [19, 1, 40, 41, 42, 43, 44, 45, 46, 47, 48, 49, 50, 51, 52, 53, 54, 55, 56, 57, 58, 59, 60, 61, 62, 63, 64, 65, 66, 67] (by decide +kernel) (by decide +kernel)
set_option maxRecDepth 20000 in
theorem gX8_first_X8_begins : GoodIn wsX8_first (wsV RX8 85 RX8 yX8_begins wsX8_begins) := goodIn_app (goodIn_of _ (by decide +kernel)) ggX8_first_X8_begins
set_option maxRecDepth 20000 in
theorem ggX8_first_X8_manyOf : GoodIn wsX8_first wsX8_manyOf := goodIn_r _ [23, 1, 40, 41, 42, 43, 44, 45, 46, 47, 48, 49, 50, 51, 52, 53, 54, 55, 56, 57, 58, 59, 60, 61, 62, 63, 64, 65, 66, 67] (by decide +kernel) (by decide +kernel)
set_option maxRecDepth 20000 in
theorem gX8_first_X8_manyOf : GoodIn wsX8_first (wsV RX8 145 RX8 yX8_manyOf wsX8_manyOf) := goodIn_app (goodIn_of _ (by decide +kernel)) ggX8_first_X8_manyOf
set_option maxRecDepth 20000 in
theorem ggX8_first_X8_goes : GoodIn wsX8_first wsX8_goes := goodIn_r _ [27, 1, 28, 29, 30, 31, 6, 32, 33, 34, 35, 36, 37, 38, 39, 40, 41, 42, 43, 44, 45, 46, 47, 48, 49, 50, 51, 52, 53, 54, 55, 56, 57, 58, 59, 60, 61, 62, 63, 64, 65, 66, 67] (by decide +kernel) (by decide +kernel)
set_option maxRecDepth 20000 in
theorem gX8_first_X8_goes : GoodIn wsX8_first (wsV RX8 177 RX8 yX8_goes wsX8_goes) := goodIn_app (goodIn_of _ (by decide +kernel)) ggX8_first_X8_goes
theorem dX8_first_0 : decode cX8_first 0 = .ok (.aload_n 0, 1) := by decide +kernel
theorem dX8_first_1 : decode cX8_first 1 = .ok (.iload_n 1, 1) := by decide +kernel
theorem dX8_first_2 : decode cX8_first 2 = .ok (.iload_n 2, 1) := by decide +kernel
theorem dX8_first_3 : decode cX8_first 3 = .ok (.invokevirtual 182, 3) := by decide +kernel
theorem dX8_first_6 : decode cX8_first 6 = .ok (.ifCond .ne 5, 3) := by decide +kernel
theorem dX8_first_9 : decode cX8_first 9 = .ok (.iconst (-1), 1) := by decide +kernel
theorem dX8_first_10 : decode cX8_first 10 = .ok (.ireturn, 1) := by decide +kernel
theorem dX8_first_11 : decode cX8_first 11 = .ok (.aload_n 0, 1) := by decide +kernel
theorem dX8_first_12 : decode cX8_first 12 = .ok (.sipush 607, 3) := by decide +kernel
theorem dX8_first_15 : decode cX8_first 15 = .ok (.invokevirtual 85, 3) := by decide +kernel
theorem dX8_first_18 : decode cX8_first 18 = .ok (.aload_n 0, 1) := by decide +kernel
theorem dX8_first_19 : decode cX8_first 19 = .ok (.sipush 607, 3) := by decide +kernel
theorem dX8_first_22 : decode cX8_first 22 = .ok (.iload_n 1, 1) := by decide +kernel
theorem dX8_first_23 : decode cX8_first 23 = .ok (.invokevirtual 145, 3) := by decide +kernel
theorem dX8_first_26 : decode cX8_first 26 = .ok (.iload_n 2, 1) := by decide +kernel
theorem dX8_first_27 : decode cX8_first 27 = .ok (.i2l, 1) := by decide +kernel
theorem dX8_first_28 : decode cX8_first 28 = .ok (.lcmp, 1) := by decide +kernel
theorem dX8_first_29 : decode cX8_first 29 = .ok (.ifCond .ge 32, 3) := by decide +kernel
theorem dX8_first_32 : decode cX8_first 32 = .ok (.aload_n 0, 1) := by decide +kernel
theorem dX8_first_33 : decode cX8_first 33 = .ok (.getfield 7, 3) := by decide +kernel
theorem dX8_first_36 : decode cX8_first 36 = .ok (.sipush 1213, 3) := by decide +kernel
theorem dX8_first_39 : decode cX8_first 39 = .ok (.laload, 1) := by decide +kernel
theorem dX8_first_40 : decode cX8_first 40 = .ok (.ldc2_w 170, 3) := by decide +kernel
theorem dX8_first_43 : decode cX8_first 43 = .ok (.lcmp, 1) := by decide +kernel
theorem dX8_first_44 : decode cX8_first 44 = .ok (.ifCond .ne 6, 3) := by decide +kernel
theorem dX8_first_47 : decode cX8_first 47 = .ok (.bipush (-9), 2) := by decide +kernel
theorem dX8_first_49 : decode cX8_first 49 = .ok (.ireturn, 1) := by decide +kernel
theorem dX8_first_50 : decode cX8_first 50 = .ok (.aload_n 0, 1) := by decide +kernel
theorem dX8_first_51 : decode cX8_first 51 = .ok (.sipush 607, 3) := by decide +kernel
theorem dX8_first_54 : decode cX8_first 54 = .ok (.invokevirtual 177, 3) := by decide +kernel
theorem dX8_first_57 : decode cX8_first 57 = .ok (.pop2, 1) := by decide +kernel
theorem dX8_first_58 : decode cX8_first 58 = .ok (.goto (-40), 3) := by decide +kernel
theorem dX8_first_61 : decode cX8_first 61 = .ok (.aload_n 0, 1) := by decide +kernel
theorem dX8_first_62 : decode cX8_first 62 = .ok (.getfield 7, 3) := by decide +kernel
theorem dX8_first_65 : decode cX8_first 65 = .ok (.sipush 1213, 3) := by decide +kernel
theorem dX8_first_68 : decode cX8_first 68 = .ok (.laload, 1) := by decide +kernel
theorem dX8_first_69 : decode cX8_first 69 = .ok (.l2i, 1) := by decide +kernel
theorem dX8_first_70 : decode cX8_first 70 = .ok (.ireturn, 1) := by decide +kernel
set_option maxRecDepth 20000 in
theorem ggX8_lay_X8_isOrder : GoodIn wsX8_lay wsX8_isOrder := goodIn_r _ [8, 9, 10, 11, 7, 12] (by decide +kernel) (by decide +kernel)
set_option maxRecDepth 20000 in
theorem gX8_lay_X8_isOrder : GoodIn wsX8_lay (va_wsS RX8 149 yX8_isOrder wsX8_isOrder) := goodIn_app (goodIn_of _ (by decide +kernel)) ggX8_lay_X8_isOrder
set_option maxRecDepth 20000 in
theorem ggX8_lay_X8_in : GoodIn wsX8_lay wsX8_in := goodIn_r _ [12] (by decide +kernel) (by decide +kernel)
set_option maxRecDepth 20000 in
theorem gX8_lay_X8_in : GoodIn wsX8_lay (va_wsS RX8 91 yX8_in wsX8_in) := goodIn_app (goodIn_of _ (by decide +kernel)) ggX8_lay_X8_in
theorem dX8_lay_0 : decode cX8_lay 0 = .ok (.iload_n 1, 1) := by decide +kernel
theorem dX8_lay_1 : decode cX8_lay 1 = .ok (.invokestatic 149, 3) := by decide +kernel
theorem dX8_lay_4 : decode cX8_lay 4 = .ok (.ifCond .eq 15, 3) := by decide +kernel
theorem dX8_lay_7 : decode cX8_lay 7 = .ok (.iload_n 2, 1) := by decide +kernel
theorem dX8_lay_8 : decode cX8_lay 8 = .ok (.i2l, 1) := by decide +kernel
theorem dX8_lay_9 : decode cX8_lay 9 = .ok (.lconst 0, 1) := by decide +kernel
theorem dX8_lay_10 : decode cX8_lay 10 = .ok (.ldc2_w 180, 3) := by decide +kernel
theorem dX8_lay_13 : decode cX8_lay 13 = .ok (.invokestatic 91, 3) := by decide +kernel
theorem dX8_lay_16 : decode cX8_lay 16 = .ok (.ifCond .ne 5, 3) := by decide +kernel
theorem dX8_lay_19 : decode cX8_lay 19 = .ok (.iconst (-1), 1) := by decide +kernel
theorem dX8_lay_20 : decode cX8_lay 20 = .ok (.ireturn, 1) := by decide +kernel
theorem dX8_lay_21 : decode cX8_lay 21 = .ok (.aload_n 0, 1) := by decide +kernel
theorem dX8_lay_22 : decode cX8_lay 22 = .ok (.getfield 79, 3) := by decide +kernel
theorem dX8_lay_25 : decode cX8_lay 25 = .ok (.iconst 5, 1) := by decide +kernel
theorem dX8_lay_26 : decode cX8_lay 26 = .ok (.if_icmp .ne 6, 3) := by decide +kernel
theorem dX8_lay_29 : decode cX8_lay 29 = .ok (.bipush (-3), 2) := by decide +kernel
theorem dX8_lay_31 : decode cX8_lay 31 = .ok (.ireturn, 1) := by decide +kernel
theorem dX8_lay_32 : decode cX8_lay 32 = .ok (.aload_n 0, 1) := by decide +kernel
theorem dX8_lay_33 : decode cX8_lay 33 = .ok (.getfield 27, 3) := by decide +kernel
theorem dX8_lay_36 : decode cX8_lay 36 = .ok (.aload_n 0, 1) := by decide +kernel
theorem dX8_lay_37 : decode cX8_lay 37 = .ok (.getfield 79, 3) := by decide +kernel
theorem dX8_lay_40 : decode cX8_lay 40 = .ok (.iload_n 1, 1) := by decide +kernel
theorem dX8_lay_41 : decode cX8_lay 41 = .ok (.iastore, 1) := by decide +kernel
theorem dX8_lay_42 : decode cX8_lay 42 = .ok (.aload_n 0, 1) := by decide +kernel
theorem dX8_lay_43 : decode cX8_lay 43 = .ok (.getfield 30, 3) := by decide +kernel
theorem dX8_lay_46 : decode cX8_lay 46 = .ok (.aload_n 0, 1) := by decide +kernel
theorem dX8_lay_47 : decode cX8_lay 47 = .ok (.getfield 79, 3) := by decide +kernel
theorem dX8_lay_50 : decode cX8_lay 50 = .ok (.iload_n 2, 1) := by decide +kernel
theorem dX8_lay_51 : decode cX8_lay 51 = .ok (.iastore, 1) := by decide +kernel
theorem dX8_lay_52 : decode cX8_lay 52 = .ok (.aload_n 0, 1) := by decide +kernel
theorem dX8_lay_53 : decode cX8_lay 53 = .ok (.dup, 1) := by decide +kernel
theorem dX8_lay_54 : decode cX8_lay 54 = .ok (.getfield 79, 3) := by decide +kernel
theorem dX8_lay_57 : decode cX8_lay 57 = .ok (.iconst 1, 1) := by decide +kernel
theorem dX8_lay_58 : decode cX8_lay 58 = .ok (.iadd, 1) := by decide +kernel
theorem dX8_lay_59 : decode cX8_lay 59 = .ok (.putfield 79, 3) := by decide +kernel
theorem dX8_lay_62 : decode cX8_lay 62 = .ok (.aload_n 0, 1) := by decide +kernel
theorem dX8_lay_63 : decode cX8_lay 63 = .ok (.getfield 79, 3) := by decide +kernel
theorem dX8_lay_66 : decode cX8_lay 66 = .ok (.ireturn, 1) := by decide +kernel
theorem dX8_forget_0 : decode cX8_forget 0 = .ok (.aload_n 0, 1) := by decide +kernel
theorem dX8_forget_1 : decode cX8_forget 1 = .ok (.getfield 79, 3) := by decide +kernel
theorem dX8_forget_4 : decode cX8_forget 4 = .ok (.istore_n 1, 1) := by decide +kernel
theorem dX8_forget_5 : decode cX8_forget 5 = .ok (.aload_n 0, 1) := by decide +kernel
theorem dX8_forget_6 : decode cX8_forget 6 = .ok (.iconst 0, 1) := by decide +kernel
theorem dX8_forget_7 : decode cX8_forget 7 = .ok (.putfield 79, 3) := by decide +kernel
theorem dX8_forget_10 : decode cX8_forget 10 = .ok (.iload_n 1, 1) := by decide +kernel
theorem dX8_forget_11 : decode cX8_forget 11 = .ok (.ireturn, 1) := by decide +kernel
set_option maxRecDepth 20000 in
theorem ggX8_isSo_X8_manyOf : GoodIn wsX8_isSo wsX8_manyOf := goodIn_r _ [8, 9, 10, 11, 12, 13, 14, 15, 16, 17, 18, 19, 20, 21, 22, 23, 24, 25, 26, 27, 28, 29, 30, 31, 32, 33, 34, 35, 36, 37] (by decide +kernel) (by decide +kernel)
set_option maxRecDepth 20000 in
theorem gX8_isSo_X8_manyOf : GoodIn wsX8_isSo (wsV RX8 145 RX8 yX8_manyOf wsX8_manyOf) := goodIn_app (goodIn_of _ (by decide +kernel)) ggX8_isSo_X8_manyOf
theorem dX8_isSo_0 : decode cX8_isSo 0 = .ok (.iconst 1, 1) := by decide +kernel
theorem dX8_isSo_1 : decode cX8_isSo 1 = .ok (.istore_n 1, 1) := by decide +kernel
theorem dX8_isSo_2 : decode cX8_isSo 2 = .ok (.iconst 0, 1) := by decide +kernel
theorem dX8_isSo_3 : decode cX8_isSo 3 = .ok (.istore_n 2, 1) := by decide +kernel
theorem dX8_isSo_4 : decode cX8_isSo 4 = .ok (.iload_n 2, 1) := by decide +kernel
theorem dX8_isSo_5 : decode cX8_isSo 5 = .ok (.aload_n 0, 1) := by decide +kernel
theorem dX8_isSo_6 : decode cX8_isSo 6 = .ok (.getfield 79, 3) := by decide +kernel
theorem dX8_isSo_9 : decode cX8_isSo 9 = .ok (.if_icmp .ge 43, 3) := by decide +kernel
theorem dX8_isSo_12 : decode cX8_isSo 12 = .ok (.iload_n 1, 1) := by decide +kernel
theorem dX8_isSo_13 : decode cX8_isSo 13 = .ok (.ifCond .eq 31, 3) := by decide +kernel
theorem dX8_isSo_16 : decode cX8_isSo 16 = .ok (.aload_n 0, 1) := by decide +kernel
theorem dX8_isSo_17 : decode cX8_isSo 17 = .ok (.sipush 607, 3) := by decide +kernel
theorem dX8_isSo_20 : decode cX8_isSo 20 = .ok (.aload_n 0, 1) := by decide +kernel
theorem dX8_isSo_21 : decode cX8_isSo 21 = .ok (.getfield 27, 3) := by decide +kernel
theorem dX8_isSo_24 : decode cX8_isSo 24 = .ok (.iload_n 2, 1) := by decide +kernel
theorem dX8_isSo_25 : decode cX8_isSo 25 = .ok (.iaload, 1) := by decide +kernel
theorem dX8_isSo_26 : decode cX8_isSo 26 = .ok (.invokevirtual 145, 3) := by decide +kernel
theorem dX8_isSo_29 : decode cX8_isSo 29 = .ok (.aload_n 0, 1) := by decide +kernel
theorem dX8_isSo_30 : decode cX8_isSo 30 = .ok (.getfield 30, 3) := by decide +kernel
theorem dX8_isSo_33 : decode cX8_isSo 33 = .ok (.iload_n 2, 1) := by decide +kernel
theorem dX8_isSo_34 : decode cX8_isSo 34 = .ok (.iaload, 1) := by decide +kernel
theorem dX8_isSo_35 : decode cX8_isSo 35 = .ok (.i2l, 1) := by decide +kernel
theorem dX8_isSo_36 : decode cX8_isSo 36 = .ok (.lcmp, 1) := by decide +kernel
theorem dX8_isSo_37 : decode cX8_isSo 37 = .ok (.ifCond .ne 7, 3) := by decide +kernel
theorem dX8_isSo_40 : decode cX8_isSo 40 = .ok (.iconst 1, 1) := by decide +kernel
theorem dX8_isSo_41 : decode cX8_isSo 41 = .ok (.goto 4, 3) := by decide +kernel
theorem dX8_isSo_44 : decode cX8_isSo 44 = .ok (.iconst 0, 1) := by decide +kernel
theorem dX8_isSo_45 : decode cX8_isSo 45 = .ok (.istore_n 1, 1) := by decide +kernel
theorem dX8_isSo_46 : decode cX8_isSo 46 = .ok (.iinc 2 1, 3) := by decide +kernel
theorem dX8_isSo_49 : decode cX8_isSo 49 = .ok (.goto (-45), 3) := by decide +kernel
theorem dX8_isSo_52 : decode cX8_isSo 52 = .ok (.iload_n 1, 1) := by decide +kernel
theorem dX8_isSo_53 : decode cX8_isSo 53 = .ok (.ireturn, 1) := by decide +kernel
set_option maxRecDepth 20000 in
theorem ggX8_mayBe_X8_in : GoodIn wsX8_mayBe wsX8_in := goodIn_r _ [5] (by decide +kernel) (by decide +kernel)
set_option maxRecDepth 20000 in
theorem gX8_mayBe_X8_in : GoodIn wsX8_mayBe (va_wsS RX8 91 yX8_in wsX8_in) := goodIn_app (goodIn_of _ (by decide +kernel)) ggX8_mayBe_X8_in
set_option maxRecDepth 20000 in
theorem ggX8_mayBe_X8_begins : GoodIn wsX8_mayBe wsX8_begins := goodIn_r _ [9, 10, 38, 39, 40, 41, 42, 43, 44, 45, 46, 47, 48, 49, 50, 51, 52, 53, 54, 55, 56, 57, 58, 59, 60, 61, 62, 63, 64, 65] (by decide +kernel) (by decide +kernel)
set_option maxRecDepth 20000 in
theorem gX8_mayBe_X8_begins : GoodIn wsX8_mayBe (wsV RX8 85 RX8 yX8_begins wsX8_begins) := goodIn_app (goodIn_of _ (by decide +kernel)) ggX8_mayBe_X8_begins
set_option maxRecDepth 20000 in
theorem ggX8_mayBe_X8_isSo : GoodIn wsX8_mayBe wsX8_isSo := goodIn_r _ [14, 15, 16, 17, 18, 19, 20, 4, 21, 10, 38, 39, 40, 41, 42, 43, 44, 45, 46, 47, 48, 49, 50, 51, 52, 53, 54, 55, 56, 57, 58, 59, 60, 61, 62, 63, 64, 65] (by decide +kernel) (by decide +kernel)
set_option maxRecDepth 20000 in
theorem gX8_mayBe_X8_isSo : GoodIn wsX8_mayBe (wsV RX8 228 RX8 yX8_isSo wsX8_isSo) := goodIn_app (goodIn_of _ (by decide +kernel)) ggX8_mayBe_X8_isSo
set_option maxRecDepth 20000 in
theorem ggX8_mayBe_X8_goes : GoodIn wsX8_mayBe wsX8_goes := goodIn_r _ [25, 10, 26, 27, 28, 29, 4, 30, 31, 32, 33, 34, 35, 36, 37, 38, 39, 40, 41, 42, 43, 44, 45, 46, 47, 48, 49, 50, 51, 52, 53, 54, 55, 56, 57, 58, 59, 60, 61, 62, 63, 64, 65] (by decide +kernel) (by decide +kernel)
set_option maxRecDepth 20000 in
theorem gX8_mayBe_X8_goes : GoodIn wsX8_mayBe (wsV RX8 177 RX8 yX8_goes wsX8_goes) := goodIn_app (goodIn_of _ (by decide +kernel)) ggX8_mayBe_X8_goes
theorem dX8_mayBe_0 : decode cX8_mayBe 0 = .ok (.iload_n 1, 1) := by decide +kernel
theorem dX8_mayBe_1 : decode cX8_mayBe 1 = .ok (.i2l, 1) := by decide +kernel
theorem dX8_mayBe_2 : decode cX8_mayBe 2 = .ok (.lconst 0, 1) := by decide +kernel
theorem dX8_mayBe_3 : decode cX8_mayBe 3 = .ok (.ldc2_w 226, 3) := by decide +kernel
theorem dX8_mayBe_6 : decode cX8_mayBe 6 = .ok (.invokestatic 91, 3) := by decide +kernel
theorem dX8_mayBe_9 : decode cX8_mayBe 9 = .ok (.ifCond .ne 5, 3) := by decide +kernel
theorem dX8_mayBe_12 : decode cX8_mayBe 12 = .ok (.iconst (-1), 1) := by decide +kernel
theorem dX8_mayBe_13 : decode cX8_mayBe 13 = .ok (.ireturn, 1) := by decide +kernel
theorem dX8_mayBe_14 : decode cX8_mayBe 14 = .ok (.aload_n 0, 1) := by decide +kernel
theorem dX8_mayBe_15 : decode cX8_mayBe 15 = .ok (.sipush 607, 3) := by decide +kernel
theorem dX8_mayBe_18 : decode cX8_mayBe 18 = .ok (.invokevirtual 85, 3) := by decide +kernel
theorem dX8_mayBe_21 : decode cX8_mayBe 21 = .ok (.iconst 0, 1) := by decide +kernel
theorem dX8_mayBe_22 : decode cX8_mayBe 22 = .ok (.istore_n 2, 1) := by decide +kernel
theorem dX8_mayBe_23 : decode cX8_mayBe 23 = .ok (.bipush (-9), 2) := by decide +kernel
theorem dX8_mayBe_25 : decode cX8_mayBe 25 = .ok (.istore_n 3, 1) := by decide +kernel
theorem dX8_mayBe_26 : decode cX8_mayBe 26 = .ok (.bipush (-9), 2) := by decide +kernel
theorem dX8_mayBe_28 : decode cX8_mayBe 28 = .ok (.istore 4, 2) := by decide +kernel
theorem dX8_mayBe_30 : decode cX8_mayBe 30 = .ok (.iconst 0, 1) := by decide +kernel
theorem dX8_mayBe_31 : decode cX8_mayBe 31 = .ok (.istore 5, 2) := by decide +kernel
theorem dX8_mayBe_33 : decode cX8_mayBe 33 = .ok (.iload 5, 2) := by decide +kernel
theorem dX8_mayBe_35 : decode cX8_mayBe 35 = .ok (.bipush 120, 2) := by decide +kernel
theorem dX8_mayBe_37 : decode cX8_mayBe 37 = .ok (.if_icmp .gt 49, 3) := by decide +kernel
theorem dX8_mayBe_40 : decode cX8_mayBe 40 = .ok (.aload_n 0, 1) := by decide +kernel
theorem dX8_mayBe_41 : decode cX8_mayBe 41 = .ok (.invokevirtual 228, 3) := by decide +kernel
theorem dX8_mayBe_44 : decode cX8_mayBe 44 = .ok (.ifCond .eq 21, 3) := by decide +kernel
theorem dX8_mayBe_47 : decode cX8_mayBe 47 = .ok (.iload_n 2, 1) := by decide +kernel
theorem dX8_mayBe_48 : decode cX8_mayBe 48 = .ok (.ifCond .ne 8, 3) := by decide +kernel
theorem dX8_mayBe_51 : decode cX8_mayBe 51 = .ok (.iload 5, 2) := by decide +kernel
theorem dX8_mayBe_53 : decode cX8_mayBe 53 = .ok (.goto 4, 3) := by decide +kernel
theorem dX8_mayBe_56 : decode cX8_mayBe 56 = .ok (.iload_n 3, 1) := by decide +kernel
theorem dX8_mayBe_57 : decode cX8_mayBe 57 = .ok (.istore_n 3, 1) := by decide +kernel
theorem dX8_mayBe_58 : decode cX8_mayBe 58 = .ok (.iload 5, 2) := by decide +kernel
theorem dX8_mayBe_60 : decode cX8_mayBe 60 = .ok (.istore 4, 2) := by decide +kernel
theorem dX8_mayBe_62 : decode cX8_mayBe 62 = .ok (.iinc 2 1, 3) := by decide +kernel
theorem dX8_mayBe_65 : decode cX8_mayBe 65 = .ok (.iload 5, 2) := by decide +kernel
theorem dX8_mayBe_67 : decode cX8_mayBe 67 = .ok (.bipush 120, 2) := by decide +kernel
theorem dX8_mayBe_69 : decode cX8_mayBe 69 = .ok (.if_icmp .ge 11, 3) := by decide +kernel
theorem dX8_mayBe_72 : decode cX8_mayBe 72 = .ok (.aload_n 0, 1) := by decide +kernel
theorem dX8_mayBe_73 : decode cX8_mayBe 73 = .ok (.sipush 607, 3) := by decide +kernel
theorem dX8_mayBe_76 : decode cX8_mayBe 76 = .ok (.invokevirtual 177, 3) := by decide +kernel
theorem dX8_mayBe_79 : decode cX8_mayBe 79 = .ok (.pop2, 1) := by decide +kernel
theorem dX8_mayBe_80 : decode cX8_mayBe 80 = .ok (.iinc 5 1, 3) := by decide +kernel
theorem dX8_mayBe_83 : decode cX8_mayBe 83 = .ok (.goto (-50), 3) := by decide +kernel
theorem dX8_mayBe_86 : decode cX8_mayBe 86 = .ok (.iload_n 1, 1) := by decide +kernel
theorem dX8_mayBe_87 : decode cX8_mayBe 87 = .ok (.ifCond .ne 7, 3) := by decide +kernel
theorem dX8_mayBe_90 : decode cX8_mayBe 90 = .ok (.iload_n 2, 1) := by decide +kernel
theorem dX8_mayBe_91 : decode cX8_mayBe 91 = .ok (.goto 14, 3) := by decide +kernel
theorem dX8_mayBe_94 : decode cX8_mayBe 94 = .ok (.iload_n 1, 1) := by decide +kernel
theorem dX8_mayBe_95 : decode cX8_mayBe 95 = .ok (.iconst 1, 1) := by decide +kernel
theorem dX8_mayBe_96 : decode cX8_mayBe 96 = .ok (.if_icmp .ne 7, 3) := by decide +kernel
theorem dX8_mayBe_99 : decode cX8_mayBe 99 = .ok (.iload_n 3, 1) := by decide +kernel
theorem dX8_mayBe_100 : decode cX8_mayBe 100 = .ok (.goto 5, 3) := by decide +kernel
theorem dX8_mayBe_103 : decode cX8_mayBe 103 = .ok (.iload 4, 2) := by decide +kernel
theorem dX8_mayBe_105 : decode cX8_mayBe 105 = .ok (.ireturn, 1) := by decide +kernel
set_option maxRecDepth 20000 in
theorem ggX8_smelt_X8_isToCome : GoodIn wsX8_smelt wsX8_isToCome := goodIn_r _ [6, 7, 8, 9, 10, 5, 11, 48, 49, 50, 51, 52, 53, 54, 55, 56, 57, 58, 59, 60, 61, 62, 63, 64, 65, 66, 67, 68, 69, 70, 71, 72, 73, 74, 75] (by decide +kernel) (by decide +kernel)
set_option maxRecDepth 20000 in
theorem gX8_smelt_X8_isToCome : GoodIn wsX8_smelt (wsV RX8 189 RX8 yX8_isToCome wsX8_isToCome) := goodIn_app (goodIn_of _ (by decide +kernel)) ggX8_smelt_X8_isToCome
set_option maxRecDepth 20000 in
theorem ggX8_smelt_X8_in : GoodIn wsX8_smelt wsX8_in := goodIn_r _ [11] (by decide +kernel) (by decide +kernel)
set_option maxRecDepth 20000 in
theorem gX8_smelt_X8_in : GoodIn wsX8_smelt (va_wsS RX8 91 yX8_in wsX8_in) := goodIn_app (goodIn_of _ (by decide +kernel)) ggX8_smelt_X8_in
set_option maxRecDepth 20000 in
theorem ggX8_smelt_X8_copy : GoodIn wsX8_smelt wsX8_copy := goodIn_r _ [15, 7, 48, 49, 50, 51, 52, 53, 54, 55, 56, 57, 58, 59, 60, 61, 62, 63, 64, 65, 66, 67, 68, 69, 70, 71, 72, 73, 74, 75] (by decide +kernel) (by decide +kernel)
set_option maxRecDepth 20000 in
theorem gX8_smelt_X8_copy : GoodIn wsX8_smelt (wsV RX8 166 RX8 yX8_copy wsX8_copy) := goodIn_app (goodIn_of _ (by decide +kernel)) ggX8_smelt_X8_copy
set_option maxRecDepth 20000 in
theorem ggX8_smelt_X8_goesTill : GoodIn wsX8_smelt wsX8_goesTill := goodIn_r _ [19, 7, 20, 21, 22, 5, 23, 24, 25, 26, 27, 28, 29, 30, 31, 32, 33, 34, 35, 48, 49, 50, 51, 52, 53, 54, 55, 56, 57, 58, 59, 60, 61, 62, 63, 64, 65, 66, 67, 68, 69, 70, 71, 72, 73, 74, 75] (by decide +kernel) (by decide +kernel)
set_option maxRecDepth 20000 in
theorem gX8_smelt_X8_goesTill : GoodIn wsX8_smelt (wsV RX8 192 RX8 yX8_goesTill wsX8_goesTill) := goodIn_app (goodIn_of _ (by decide +kernel)) ggX8_smelt_X8_goesTill
set_option maxRecDepth 20000 in
theorem ggX8_smelt_X8_weighs : GoodIn wsX8_smelt wsX8_weighs := goodIn_r _ [39, 7, 35, 40, 41, 42, 5, 43, 48, 49, 50, 51, 52, 53, 54, 55, 56, 57, 58, 59, 60, 61, 62, 63, 64, 65, 66, 67, 68, 69, 70, 71, 72, 73, 74, 75] (by decide +kernel) (by decide +kernel)
set_option maxRecDepth 20000 in
theorem gX8_smelt_X8_weighs : GoodIn wsX8_smelt (wsV RX8 161 RX8 yX8_weighs wsX8_weighs) := goodIn_app (goodIn_of _ (by decide +kernel)) ggX8_smelt_X8_weighs
set_option maxRecDepth 20000 in
theorem ggX8_smelt_X8_manyOf : GoodIn wsX8_smelt wsX8_manyOf := goodIn_r _ [43, 7, 48, 49, 50, 51, 52, 53, 54, 55, 56, 57, 58, 59, 60, 61, 62, 63, 64, 65, 66, 67, 68, 69, 70, 71, 72, 73, 74, 75] (by decide +kernel) (by decide +kernel)
set_option maxRecDepth 20000 in
theorem gX8_smelt_X8_manyOf : GoodIn wsX8_smelt (wsV RX8 145 RX8 yX8_manyOf wsX8_manyOf) := goodIn_app (goodIn_of _ (by decide +kernel)) ggX8_smelt_X8_manyOf
set_option maxRecDepth 20000 in
theorem ggX8_smelt_X8_takesAway : GoodIn wsX8_smelt wsX8_takesAway := goodIn_r _ [47, 7, 48, 49, 50, 51, 52, 53, 54, 55, 56, 57, 58, 59, 60, 61, 62, 63, 64, 65, 66, 67, 68, 69, 70, 71, 72, 73, 74, 75] (by decide +kernel) (by decide +kernel)
set_option maxRecDepth 20000 in
theorem gX8_smelt_X8_takesAway : GoodIn wsX8_smelt (wsV RX8 185 RX8 yX8_takesAway wsX8_takesAway) := goodIn_app (goodIn_of _ (by decide +kernel)) ggX8_smelt_X8_takesAway
theorem dX8_smelt_0 : decode cX8_smelt 0 = .ok (.aload_n 0, 1) := by decide +kernel
theorem dX8_smelt_1 : decode cX8_smelt 1 = .ok (.iload_n 1, 1) := by decide +kernel
theorem dX8_smelt_2 : decode cX8_smelt 2 = .ok (.invokevirtual 189, 3) := by decide +kernel
theorem dX8_smelt_5 : decode cX8_smelt 5 = .ok (.ifCond .eq 15, 3) := by decide +kernel
theorem dX8_smelt_8 : decode cX8_smelt 8 = .ok (.iload_n 2, 1) := by decide +kernel
theorem dX8_smelt_9 : decode cX8_smelt 9 = .ok (.i2l, 1) := by decide +kernel
theorem dX8_smelt_10 : decode cX8_smelt 10 = .ok (.lconst 1, 1) := by decide +kernel
theorem dX8_smelt_11 : decode cX8_smelt 11 = .ok (.ldc2_w 195, 3) := by decide +kernel
theorem dX8_smelt_14 : decode cX8_smelt 14 = .ok (.invokestatic 91, 3) := by decide +kernel
theorem dX8_smelt_17 : decode cX8_smelt 17 = .ok (.ifCond .ne 5, 3) := by decide +kernel
theorem dX8_smelt_20 : decode cX8_smelt 20 = .ok (.iconst (-1), 1) := by decide +kernel
theorem dX8_smelt_21 : decode cX8_smelt 21 = .ok (.ireturn, 1) := by decide +kernel
theorem dX8_smelt_22 : decode cX8_smelt 22 = .ok (.aload_n 0, 1) := by decide +kernel
theorem dX8_smelt_23 : decode cX8_smelt 23 = .ok (.iconst 0, 1) := by decide +kernel
theorem dX8_smelt_24 : decode cX8_smelt 24 = .ok (.sipush 607, 3) := by decide +kernel
theorem dX8_smelt_27 : decode cX8_smelt 27 = .ok (.invokevirtual 166, 3) := by decide +kernel
theorem dX8_smelt_30 : decode cX8_smelt 30 = .ok (.aload_n 0, 1) := by decide +kernel
theorem dX8_smelt_31 : decode cX8_smelt 31 = .ok (.sipush 607, 3) := by decide +kernel
theorem dX8_smelt_34 : decode cX8_smelt 34 = .ok (.iload_n 1, 1) := by decide +kernel
theorem dX8_smelt_35 : decode cX8_smelt 35 = .ok (.invokevirtual 192, 3) := by decide +kernel
theorem dX8_smelt_38 : decode cX8_smelt 38 = .ok (.aload_n 0, 1) := by decide +kernel
theorem dX8_smelt_39 : decode cX8_smelt 39 = .ok (.sipush 607, 3) := by decide +kernel
theorem dX8_smelt_42 : decode cX8_smelt 42 = .ok (.invokevirtual 161, 3) := by decide +kernel
theorem dX8_smelt_45 : decode cX8_smelt 45 = .ok (.iload_n 2, 1) := by decide +kernel
theorem dX8_smelt_46 : decode cX8_smelt 46 = .ok (.i2l, 1) := by decide +kernel
theorem dX8_smelt_47 : decode cX8_smelt 47 = .ok (.lcmp, 1) := by decide +kernel
theorem dX8_smelt_48 : decode cX8_smelt 48 = .ok (.ifCond .gt 5, 3) := by decide +kernel
theorem dX8_smelt_51 : decode cX8_smelt 51 = .ok (.iconst 5, 1) := by decide +kernel
theorem dX8_smelt_52 : decode cX8_smelt 52 = .ok (.ireturn, 1) := by decide +kernel
theorem dX8_smelt_53 : decode cX8_smelt 53 = .ok (.iconst 0, 1) := by decide +kernel
theorem dX8_smelt_54 : decode cX8_smelt 54 = .ok (.istore_n 3, 1) := by decide +kernel
theorem dX8_smelt_55 : decode cX8_smelt 55 = .ok (.iload_n 3, 1) := by decide +kernel
theorem dX8_smelt_56 : decode cX8_smelt 56 = .ok (.iconst 5, 1) := by decide +kernel
theorem dX8_smelt_57 : decode cX8_smelt 57 = .ok (.if_icmp .ge 56, 3) := by decide +kernel
theorem dX8_smelt_60 : decode cX8_smelt 60 = .ok (.aload_n 0, 1) := by decide +kernel
theorem dX8_smelt_61 : decode cX8_smelt 61 = .ok (.iconst 0, 1) := by decide +kernel
theorem dX8_smelt_62 : decode cX8_smelt 62 = .ok (.sipush 607, 3) := by decide +kernel
theorem dX8_smelt_65 : decode cX8_smelt 65 = .ok (.invokevirtual 166, 3) := by decide +kernel
theorem dX8_smelt_68 : decode cX8_smelt 68 = .ok (.aload_n 0, 1) := by decide +kernel
theorem dX8_smelt_69 : decode cX8_smelt 69 = .ok (.sipush 607, 3) := by decide +kernel
theorem dX8_smelt_72 : decode cX8_smelt 72 = .ok (.iload_n 3, 1) := by decide +kernel
theorem dX8_smelt_73 : decode cX8_smelt 73 = .ok (.aload_n 0, 1) := by decide +kernel
theorem dX8_smelt_74 : decode cX8_smelt 74 = .ok (.sipush 607, 3) := by decide +kernel
theorem dX8_smelt_77 : decode cX8_smelt 77 = .ok (.iload_n 3, 1) := by decide +kernel
theorem dX8_smelt_78 : decode cX8_smelt 78 = .ok (.invokevirtual 145, 3) := by decide +kernel
theorem dX8_smelt_81 : decode cX8_smelt 81 = .ok (.invokevirtual 185, 3) := by decide +kernel
theorem dX8_smelt_84 : decode cX8_smelt 84 = .ok (.aload_n 0, 1) := by decide +kernel
theorem dX8_smelt_85 : decode cX8_smelt 85 = .ok (.sipush 607, 3) := by decide +kernel
theorem dX8_smelt_88 : decode cX8_smelt 88 = .ok (.iload_n 1, 1) := by decide +kernel
theorem dX8_smelt_89 : decode cX8_smelt 89 = .ok (.invokevirtual 192, 3) := by decide +kernel
theorem dX8_smelt_92 : decode cX8_smelt 92 = .ok (.aload_n 0, 1) := by decide +kernel
theorem dX8_smelt_93 : decode cX8_smelt 93 = .ok (.sipush 607, 3) := by decide +kernel
theorem dX8_smelt_96 : decode cX8_smelt 96 = .ok (.invokevirtual 161, 3) := by decide +kernel
theorem dX8_smelt_99 : decode cX8_smelt 99 = .ok (.iload_n 2, 1) := by decide +kernel
theorem dX8_smelt_100 : decode cX8_smelt 100 = .ok (.i2l, 1) := by decide +kernel
theorem dX8_smelt_101 : decode cX8_smelt 101 = .ok (.lcmp, 1) := by decide +kernel
theorem dX8_smelt_102 : decode cX8_smelt 102 = .ok (.ifCond .gt 5, 3) := by decide +kernel
theorem dX8_smelt_105 : decode cX8_smelt 105 = .ok (.iload_n 3, 1) := by decide +kernel
theorem dX8_smelt_106 : decode cX8_smelt 106 = .ok (.ireturn, 1) := by decide +kernel
theorem dX8_smelt_107 : decode cX8_smelt 107 = .ok (.iinc 3 1, 3) := by decide +kernel
theorem dX8_smelt_110 : decode cX8_smelt 110 = .ok (.goto (-55), 3) := by decide +kernel
theorem dX8_smelt_113 : decode cX8_smelt 113 = .ok (.bipush (-9), 2) := by decide +kernel
theorem dX8_smelt_115 : decode cX8_smelt 115 = .ok (.ireturn, 1) := by decide +kernel
set_option maxRecDepth 20000 in
theorem ggX8_odds_X8_isOrder : GoodIn wsX8_odds wsX8_isOrder := goodIn_r _ [5, 6, 7, 8, 4, 9] (by decide +kernel) (by decide +kernel)
set_option maxRecDepth 20000 in
theorem gX8_odds_X8_isOrder : GoodIn wsX8_odds (va_wsS RX8 149 yX8_isOrder wsX8_isOrder) := goodIn_app (goodIn_of _ (by decide +kernel)) ggX8_odds_X8_isOrder
set_option maxRecDepth 20000 in
theorem ggX8_odds_X8_in : GoodIn wsX8_odds wsX8_in := goodIn_r _ [9] (by decide +kernel) (by decide +kernel)
set_option maxRecDepth 20000 in
theorem gX8_odds_X8_in : GoodIn wsX8_odds (va_wsS RX8 91 yX8_in wsX8_in) := goodIn_app (goodIn_of _ (by decide +kernel)) ggX8_odds_X8_in
set_option maxRecDepth 20000 in
theorem ggX8_odds_X8_manyOf : GoodIn wsX8_odds wsX8_manyOf := goodIn_r _ [13, 14, 19, 20, 21, 22, 23, 24, 25, 26, 27, 28, 29, 30, 31, 32, 33, 34, 35, 36, 37, 38, 39, 40, 41, 42, 43, 44, 45, 46] (by decide +kernel) (by decide +kernel)
set_option maxRecDepth 20000 in
theorem gX8_odds_X8_manyOf : GoodIn wsX8_odds (wsV RX8 145 RX8 yX8_manyOf wsX8_manyOf) := goodIn_app (goodIn_of _ (by decide +kernel)) ggX8_odds_X8_manyOf
set_option maxRecDepth 20000 in
theorem ggX8_odds_X8_allOf : GoodIn wsX8_odds wsX8_allOf := goodIn_r _ [18, 10, 11, 12, 4, 13, 14, 19, 20, 21, 22, 23, 24, 25, 26, 27, 28, 29, 30, 31, 32, 33, 34, 35, 36, 37, 38, 39, 40, 41, 42, 43, 44, 45, 46] (by decide +kernel) (by decide +kernel)
set_option maxRecDepth 20000 in
theorem gX8_odds_X8_allOf : GoodIn wsX8_odds (wsV RX8 157 RX8 yX8_allOf wsX8_allOf) := goodIn_app (goodIn_of _ (by decide +kernel)) ggX8_odds_X8_allOf
theorem dX8_odds_0 : decode cX8_odds 0 = .ok (.iload_n 1, 1) := by decide +kernel
theorem dX8_odds_1 : decode cX8_odds 1 = .ok (.invokestatic 149, 3) := by decide +kernel
theorem dX8_odds_4 : decode cX8_odds 4 = .ok (.ifCond .eq 13, 3) := by decide +kernel
theorem dX8_odds_7 : decode cX8_odds 7 = .ok (.iload_n 2, 1) := by decide +kernel
theorem dX8_odds_8 : decode cX8_odds 8 = .ok (.i2l, 1) := by decide +kernel
theorem dX8_odds_9 : decode cX8_odds 9 = .ok (.lconst 0, 1) := by decide +kernel
theorem dX8_odds_10 : decode cX8_odds 10 = .ok (.lconst 1, 1) := by decide +kernel
theorem dX8_odds_11 : decode cX8_odds 11 = .ok (.invokestatic 91, 3) := by decide +kernel
theorem dX8_odds_14 : decode cX8_odds 14 = .ok (.ifCond .ne 7, 3) := by decide +kernel
theorem dX8_odds_17 : decode cX8_odds 17 = .ok (.ldc2_w 164, 3) := by decide +kernel
theorem dX8_odds_20 : decode cX8_odds 20 = .ok (.lreturn, 1) := by decide +kernel
theorem dX8_odds_21 : decode cX8_odds 21 = .ok (.aload_n 0, 1) := by decide +kernel
theorem dX8_odds_22 : decode cX8_odds 22 = .ok (.iconst 0, 1) := by decide +kernel
theorem dX8_odds_23 : decode cX8_odds 23 = .ok (.iload_n 1, 1) := by decide +kernel
theorem dX8_odds_24 : decode cX8_odds 24 = .ok (.invokevirtual 145, 3) := by decide +kernel
theorem dX8_odds_27 : decode cX8_odds 27 = .ok (.lstore_n 3, 1) := by decide +kernel
theorem dX8_odds_28 : decode cX8_odds 28 = .ok (.aload_n 0, 1) := by decide +kernel
theorem dX8_odds_29 : decode cX8_odds 29 = .ok (.iconst 0, 1) := by decide +kernel
theorem dX8_odds_30 : decode cX8_odds 30 = .ok (.invokevirtual 157, 3) := by decide +kernel
theorem dX8_odds_33 : decode cX8_odds 33 = .ok (.lstore 5, 2) := by decide +kernel
theorem dX8_odds_35 : decode cX8_odds 35 = .ok (.lload 5, 2) := by decide +kernel
theorem dX8_odds_37 : decode cX8_odds 37 = .ok (.lconst 0, 1) := by decide +kernel
theorem dX8_odds_38 : decode cX8_odds 38 = .ok (.lcmp, 1) := by decide +kernel
theorem dX8_odds_39 : decode cX8_odds 39 = .ok (.ifCond .ne 7, 3) := by decide +kernel
theorem dX8_odds_42 : decode cX8_odds 42 = .ok (.lconst 1, 1) := by decide +kernel
theorem dX8_odds_43 : decode cX8_odds 43 = .ok (.goto 5, 3) := by decide +kernel
theorem dX8_odds_46 : decode cX8_odds 46 = .ok (.lload 5, 2) := by decide +kernel
theorem dX8_odds_48 : decode cX8_odds 48 = .ok (.lstore 5, 2) := by decide +kernel
theorem dX8_odds_50 : decode cX8_odds 50 = .ok (.lload_n 3, 1) := by decide +kernel
theorem dX8_odds_51 : decode cX8_odds 51 = .ok (.lstore 7, 2) := by decide +kernel
theorem dX8_odds_53 : decode cX8_odds 53 = .ok (.lload 5, 2) := by decide +kernel
theorem dX8_odds_55 : decode cX8_odds 55 = .ok (.lstore 9, 2) := by decide +kernel
theorem dX8_odds_57 : decode cX8_odds 57 = .ok (.lload 9, 2) := by decide +kernel
theorem dX8_odds_59 : decode cX8_odds 59 = .ok (.lconst 0, 1) := by decide +kernel
theorem dX8_odds_60 : decode cX8_odds 60 = .ok (.lcmp, 1) := by decide +kernel
theorem dX8_odds_61 : decode cX8_odds 61 = .ok (.ifCond .eq 21, 3) := by decide +kernel
theorem dX8_odds_64 : decode cX8_odds 64 = .ok (.lload 7, 2) := by decide +kernel
theorem dX8_odds_66 : decode cX8_odds 66 = .ok (.lload 9, 2) := by decide +kernel
theorem dX8_odds_68 : decode cX8_odds 68 = .ok (.lrem, 1) := by decide +kernel
theorem dX8_odds_69 : decode cX8_odds 69 = .ok (.lstore 11, 2) := by decide +kernel
theorem dX8_odds_71 : decode cX8_odds 71 = .ok (.lload 9, 2) := by decide +kernel
theorem dX8_odds_73 : decode cX8_odds 73 = .ok (.lstore 7, 2) := by decide +kernel
theorem dX8_odds_75 : decode cX8_odds 75 = .ok (.lload 11, 2) := by decide +kernel
theorem dX8_odds_77 : decode cX8_odds 77 = .ok (.lstore 9, 2) := by decide +kernel
theorem dX8_odds_79 : decode cX8_odds 79 = .ok (.goto (-22), 3) := by decide +kernel
theorem dX8_odds_82 : decode cX8_odds 82 = .ok (.iload_n 2, 1) := by decide +kernel
theorem dX8_odds_83 : decode cX8_odds 83 = .ok (.ifCond .ne 10, 3) := by decide +kernel
theorem dX8_odds_86 : decode cX8_odds 86 = .ok (.lload_n 3, 1) := by decide +kernel
theorem dX8_odds_87 : decode cX8_odds 87 = .ok (.lload 7, 2) := by decide +kernel
theorem dX8_odds_89 : decode cX8_odds 89 = .ok (.ldiv, 1) := by decide +kernel
theorem dX8_odds_90 : decode cX8_odds 90 = .ok (.goto 8, 3) := by decide +kernel
theorem dX8_odds_93 : decode cX8_odds 93 = .ok (.lload 5, 2) := by decide +kernel
theorem dX8_odds_95 : decode cX8_odds 95 = .ok (.lload 7, 2) := by decide +kernel
theorem dX8_odds_97 : decode cX8_odds 97 = .ok (.ldiv, 1) := by decide +kernel
theorem dX8_odds_98 : decode cX8_odds 98 = .ok (.lreturn, 1) := by decide +kernel
set_option maxRecDepth 20000 in
theorem ggX8_barley_X8_in : GoodIn wsX8_barley wsX8_in := goodIn_r _ [8] (by decide +kernel) (by decide +kernel)
set_option maxRecDepth 20000 in
theorem gX8_barley_X8_in : GoodIn wsX8_barley (va_wsS RX8 91 yX8_in wsX8_in) := goodIn_app (goodIn_of _ (by decide +kernel)) ggX8_barley_X8_in
set_option maxRecDepth 20000 in
theorem ggX8_barley_X8_weighs : GoodIn wsX8_barley wsX8_weighs := goodIn_r _ [12, 13, 14, 15, 16, 17, 7, 18, 19, 20, 21, 22, 23, 24, 25, 26, 27, 28, 29, 30, 31, 32, 33, 34, 35, 36, 37, 38, 39, 40, 41, 42, 43, 44, 45, 46] (by decide +kernel) (by decide +kernel)
set_option maxRecDepth 20000 in
theorem gX8_barley_X8_weighs : GoodIn wsX8_barley (wsV RX8 161 RX8 yX8_weighs wsX8_weighs) := goodIn_app (goodIn_of _ (by decide +kernel)) ggX8_barley_X8_weighs
theorem dX8_barley_0 : decode cX8_barley 0 = .ok (.iload_n 1, 1) := by decide +kernel
theorem dX8_barley_1 : decode cX8_barley 1 = .ok (.i2l, 1) := by decide +kernel
theorem dX8_barley_2 : decode cX8_barley 2 = .ok (.lconst 1, 1) := by decide +kernel
theorem dX8_barley_3 : decode cX8_barley 3 = .ok (.ldc2_w 231, 3) := by decide +kernel
theorem dX8_barley_6 : decode cX8_barley 6 = .ok (.invokestatic 91, 3) := by decide +kernel
theorem dX8_barley_9 : decode cX8_barley 9 = .ok (.ifCond .eq 15, 3) := by decide +kernel
theorem dX8_barley_12 : decode cX8_barley 12 = .ok (.iload_n 2, 1) := by decide +kernel
theorem dX8_barley_13 : decode cX8_barley 13 = .ok (.i2l, 1) := by decide +kernel
theorem dX8_barley_14 : decode cX8_barley 14 = .ok (.lconst 0, 1) := by decide +kernel
theorem dX8_barley_15 : decode cX8_barley 15 = .ok (.ldc2_w 180, 3) := by decide +kernel
theorem dX8_barley_18 : decode cX8_barley 18 = .ok (.invokestatic 91, 3) := by decide +kernel
theorem dX8_barley_21 : decode cX8_barley 21 = .ok (.ifCond .ne 7, 3) := by decide +kernel
theorem dX8_barley_24 : decode cX8_barley 24 = .ok (.ldc2_w 164, 3) := by decide +kernel
theorem dX8_barley_27 : decode cX8_barley 27 = .ok (.lreturn, 1) := by decide +kernel
theorem dX8_barley_28 : decode cX8_barley 28 = .ok (.aload_n 0, 1) := by decide +kernel
theorem dX8_barley_29 : decode cX8_barley 29 = .ok (.iconst 0, 1) := by decide +kernel
theorem dX8_barley_30 : decode cX8_barley 30 = .ok (.invokevirtual 161, 3) := by decide +kernel
theorem dX8_barley_33 : decode cX8_barley 33 = .ok (.lstore_n 3, 1) := by decide +kernel
theorem dX8_barley_34 : decode cX8_barley 34 = .ok (.lload_n 3, 1) := by decide +kernel
theorem dX8_barley_35 : decode cX8_barley 35 = .ok (.lconst 0, 1) := by decide +kernel
theorem dX8_barley_36 : decode cX8_barley 36 = .ok (.lcmp, 1) := by decide +kernel
theorem dX8_barley_37 : decode cX8_barley 37 = .ok (.ifCond .ne 9, 3) := by decide +kernel
theorem dX8_barley_40 : decode cX8_barley 40 = .ok (.ldc2_w 222, 3) := by decide +kernel
theorem dX8_barley_43 : decode cX8_barley 43 = .ok (.goto 10, 3) := by decide +kernel
theorem dX8_barley_46 : decode cX8_barley 46 = .ok (.iload_n 1, 1) := by decide +kernel
theorem dX8_barley_47 : decode cX8_barley 47 = .ok (.i2l, 1) := by decide +kernel
theorem dX8_barley_48 : decode cX8_barley 48 = .ok (.iload_n 2, 1) := by decide +kernel
theorem dX8_barley_49 : decode cX8_barley 49 = .ok (.i2l, 1) := by decide +kernel
theorem dX8_barley_50 : decode cX8_barley 50 = .ok (.lmul, 1) := by decide +kernel
theorem dX8_barley_51 : decode cX8_barley 51 = .ok (.lload_n 3, 1) := by decide +kernel
theorem dX8_barley_52 : decode cX8_barley 52 = .ok (.ldiv, 1) := by decide +kernel
theorem dX8_barley_53 : decode cX8_barley 53 = .ok (.lreturn, 1) := by decide +kernel
theorem dX8_bareRate_0 : decode cX8_bareRate 0 = .ok (.aload_n 0, 1) := by decide +kernel
theorem dX8_bareRate_1 : decode cX8_bareRate 1 = .ok (.dup, 1) := by decide +kernel
theorem dX8_bareRate_2 : decode cX8_bareRate 2 = .ok (.getfield 233, 3) := by decide +kernel
theorem dX8_bareRate_5 : decode cX8_bareRate 5 = .ok (.lconst 1, 1) := by decide +kernel
theorem dX8_bareRate_6 : decode cX8_bareRate 6 = .ok (.ladd, 1) := by decide +kernel
theorem dX8_bareRate_7 : decode cX8_bareRate 7 = .ok (.putfield 233, 3) := by decide +kernel
theorem dX8_bareRate_10 : decode cX8_bareRate 10 = .ok (.aload_n 0, 1) := by decide +kernel
theorem dX8_bareRate_11 : decode cX8_bareRate 11 = .ok (.getfield 17, 3) := by decide +kernel
theorem dX8_bareRate_14 : decode cX8_bareRate 14 = .ok (.iload_n 1, 1) := by decide +kernel
theorem dX8_bareRate_15 : decode cX8_bareRate 15 = .ok (.iaload, 1) := by decide +kernel
theorem dX8_bareRate_16 : decode cX8_bareRate 16 = .ok (.ireturn, 1) := by decide +kernel
set_option maxRecDepth 20000 in
theorem ggX8_brokenRate_X8_bareRate : GoodIn wsX8_brokenRate wsX8_bareRate := goodIn_r _ [8, 1, 9, 10, 11, 12, 13, 14, 15, 16, 17, 18, 19, 20, 21, 22, 23, 24, 25, 26, 27, 28, 29, 30, 31, 32, 33, 34, 35, 36, 37] (by decide +kernel) (by decide +kernel)
set_option maxRecDepth 20000 in
theorem gX8_brokenRate_X8_bareRate : GoodIn wsX8_brokenRate (wsV RX8 238 RX8 yX8_bareRate wsX8_bareRate) := goodIn_app (goodIn_of _ (by decide +kernel)) ggX8_brokenRate_X8_bareRate
theorem dX8_brokenRate_0 : decode cX8_brokenRate 0 = .ok (.aload_n 0, 1) := by decide +kernel
theorem dX8_brokenRate_1 : decode cX8_brokenRate 1 = .ok (.dup, 1) := by decide +kernel
theorem dX8_brokenRate_2 : decode cX8_brokenRate 2 = .ok (.getfield 233, 3) := by decide +kernel
theorem dX8_brokenRate_5 : decode cX8_brokenRate 5 = .ok (.ldc2_w 236, 3) := by decide +kernel
theorem dX8_brokenRate_8 : decode cX8_brokenRate 8 = .ok (.ladd, 1) := by decide +kernel
theorem dX8_brokenRate_9 : decode cX8_brokenRate 9 = .ok (.putfield 233, 3) := by decide +kernel
theorem dX8_brokenRate_12 : decode cX8_brokenRate 12 = .ok (.aload_n 0, 1) := by decide +kernel
theorem dX8_brokenRate_13 : decode cX8_brokenRate 13 = .ok (.iload_n 1, 1) := by decide +kernel
theorem dX8_brokenRate_14 : decode cX8_brokenRate 14 = .ok (.invokevirtual 238, 3) := by decide +kernel
theorem dX8_brokenRate_17 : decode cX8_brokenRate 17 = .ok (.aload_n 0, 1) := by decide +kernel
theorem dX8_brokenRate_18 : decode cX8_brokenRate 18 = .ok (.getfield 67, 3) := by decide +kernel
theorem dX8_brokenRate_21 : decode cX8_brokenRate 21 = .ok (.iadd, 1) := by decide +kernel
theorem dX8_brokenRate_22 : decode cX8_brokenRate 22 = .ok (.ireturn, 1) := by decide +kernel
set_option maxRecDepth 20000 in
theorem ggX8_barrenRate_X8_bareRate : GoodIn wsX8_barrenRate wsX8_bareRate := goodIn_r _ [7, 1, 8, 15, 16, 17, 18, 19, 20, 21, 22, 23, 24, 25, 26, 27, 28, 29, 30, 31, 32, 33, 34, 35, 36, 37, 38, 39, 40, 41, 42] (by decide +kernel) (by decide +kernel)
set_option maxRecDepth 20000 in
theorem gX8_barrenRate_X8_bareRate : GoodIn wsX8_barrenRate (wsV RX8 238 RX8 yX8_bareRate wsX8_bareRate) := goodIn_app (goodIn_of _ (by decide +kernel)) ggX8_barrenRate_X8_bareRate
set_option maxRecDepth 20000 in
theorem ggX8_barrenRate_X8_eachOf : GoodIn wsX8_barrenRate wsX8_eachOf := goodIn_r _ [12, 13, 14, 15, 16, 17, 18, 19, 20, 21, 22, 23, 24, 25, 26, 27, 28, 29, 30, 31, 32, 33, 34, 35, 36, 37, 38, 39, 40, 41, 42] (by decide +kernel) (by decide +kernel)
set_option maxRecDepth 20000 in
theorem gX8_barrenRate_X8_eachOf : GoodIn wsX8_barrenRate (wsV RX8 138 RX8 yX8_eachOf wsX8_eachOf) := goodIn_app (goodIn_of _ (by decide +kernel)) ggX8_barrenRate_X8_eachOf
theorem dX8_barrenRate_0 : decode cX8_barrenRate 0 = .ok (.aload_n 0, 1) := by decide +kernel
theorem dX8_barrenRate_1 : decode cX8_barrenRate 1 = .ok (.dup, 1) := by decide +kernel
theorem dX8_barrenRate_2 : decode cX8_barrenRate 2 = .ok (.getfield 233, 3) := by decide +kernel
theorem dX8_barrenRate_5 : decode cX8_barrenRate 5 = .ok (.ldc2_w 241, 3) := by decide +kernel
theorem dX8_barrenRate_8 : decode cX8_barrenRate 8 = .ok (.ladd, 1) := by decide +kernel
theorem dX8_barrenRate_9 : decode cX8_barrenRate 9 = .ok (.putfield 233, 3) := by decide +kernel
theorem dX8_barrenRate_12 : decode cX8_barrenRate 12 = .ok (.aload_n 0, 1) := by decide +kernel
theorem dX8_barrenRate_13 : decode cX8_barrenRate 13 = .ok (.iload_n 1, 1) := by decide +kernel
theorem dX8_barrenRate_14 : decode cX8_barrenRate 14 = .ok (.invokevirtual 238, 3) := by decide +kernel
theorem dX8_barrenRate_17 : decode cX8_barrenRate 17 = .ok (.aload_n 0, 1) := by decide +kernel
theorem dX8_barrenRate_18 : decode cX8_barrenRate 18 = .ok (.iload_n 1, 1) := by decide +kernel
theorem dX8_barrenRate_19 : decode cX8_barrenRate 19 = .ok (.invokevirtual 138, 3) := by decide +kernel
theorem dX8_barrenRate_22 : decode cX8_barrenRate 22 = .ok (.isub, 1) := by decide +kernel
theorem dX8_barrenRate_23 : decode cX8_barrenRate 23 = .ok (.ireturn, 1) := by decide +kernel
set_option maxRecDepth 20000 in
theorem ggX8_rate_X8_in : GoodIn wsX8_rate wsX8_in := goodIn_r _ [11] (by decide +kernel) (by decide +kernel)
set_option maxRecDepth 20000 in
theorem gX8_rate_X8_in : GoodIn wsX8_rate (va_wsS RX8 91 yX8_in wsX8_in) := goodIn_app (goodIn_of _ (by decide +kernel)) ggX8_rate_X8_in
set_option maxRecDepth 20000 in
theorem ggX8_rate_X8_isOrder : GoodIn wsX8_rate wsX8_isOrder := goodIn_r _ [14, 15, 8, 9, 10, 11] (by decide +kernel) (by decide +kernel)
set_option maxRecDepth 20000 in
theorem gX8_rate_X8_isOrder : GoodIn wsX8_rate (va_wsS RX8 149 yX8_isOrder wsX8_isOrder) := goodIn_app (goodIn_of _ (by decide +kernel)) ggX8_rate_X8_isOrder
set_option maxRecDepth 20000 in
theorem ggX8_rate_X8_brokenRate : GoodIn wsX8_rate wsX8_brokenRate := goodIn_r _ [19, 3, 20, 21, 22, 23, 24, 10, 25, 26, 38, 39, 40, 41, 42, 43, 44, 45, 46, 47, 48, 49, 50, 51, 52, 53, 54, 55, 56, 57, 58, 59, 60, 61, 62, 63, 64, 65] (by decide +kernel) (by decide +kernel)
set_option maxRecDepth 20000 in
theorem gX8_rate_X8_brokenRate : GoodIn wsX8_rate (wsV RX8 246 RX8 yX8_brokenRate wsX8_brokenRate) := goodIn_app (goodIn_of _ (by decide +kernel)) ggX8_rate_X8_brokenRate
set_option maxRecDepth 20000 in
theorem ggX8_rate_X8_barrenRate : GoodIn wsX8_rate wsX8_barrenRate := goodIn_r _ [30, 3, 31, 22, 23, 24, 10, 25, 26, 32, 33, 34, 35, 36, 37, 38, 39, 40, 41, 42, 43, 44, 45, 46, 47, 48, 49, 50, 51, 52, 53, 54, 55, 56, 57, 58, 59, 60, 61, 62, 63, 64, 65] (by decide +kernel) (by decide +kernel)
set_option maxRecDepth 20000 in
theorem gX8_rate_X8_barrenRate : GoodIn wsX8_rate (wsV RX8 249 RX8 yX8_barrenRate wsX8_barrenRate) := goodIn_app (goodIn_of _ (by decide +kernel)) ggX8_rate_X8_barrenRate
set_option maxRecDepth 20000 in
theorem ggX8_rate_X8_bareRate : GoodIn wsX8_rate wsX8_bareRate := goodIn_r _ [25, 3, 26, 38, 39, 40, 41, 42, 43, 44, 45, 46, 47, 48, 49, 50, 51, 52, 53, 54, 55, 56, 57, 58, 59, 60, 61, 62, 63, 64, 65] (by decide +kernel) (by decide +kernel)
set_option maxRecDepth 20000 in
theorem gX8_rate_X8_bareRate : GoodIn wsX8_rate (wsV RX8 238 RX8 yX8_bareRate wsX8_bareRate) := goodIn_app (goodIn_of _ (by decide +kernel)) ggX8_rate_X8_bareRate
theorem dX8_rate_0 : decode cX8_rate 0 = .ok (.iload_n 1, 1) := by decide +kernel
theorem dX8_rate_1 : decode cX8_rate 1 = .ok (.i2l, 1) := by decide +kernel
theorem dX8_rate_2 : decode cX8_rate 2 = .ok (.lconst 0, 1) := by decide +kernel
theorem dX8_rate_3 : decode cX8_rate 3 = .ok (.ldc2_w 243, 3) := by decide +kernel
theorem dX8_rate_6 : decode cX8_rate 6 = .ok (.invokestatic 91, 3) := by decide +kernel
theorem dX8_rate_9 : decode cX8_rate 9 = .ok (.ifCond .eq 10, 3) := by decide +kernel
theorem dX8_rate_12 : decode cX8_rate 12 = .ok (.iload_n 2, 1) := by decide +kernel
theorem dX8_rate_13 : decode cX8_rate 13 = .ok (.invokestatic 149, 3) := by decide +kernel
theorem dX8_rate_16 : decode cX8_rate 16 = .ok (.ifCond .ne 6, 3) := by decide +kernel
theorem dX8_rate_19 : decode cX8_rate 19 = .ok (.ldc 245, 2) := by decide +kernel
theorem dX8_rate_21 : decode cX8_rate 21 = .ok (.ireturn, 1) := by decide +kernel
theorem dX8_rate_22 : decode cX8_rate 22 = .ok (.iload_n 1, 1) := by decide +kernel
theorem dX8_rate_23 : decode cX8_rate 23 = .ok (.tableswitch 113 1 5 #[33, 39, 45, 65, 85], 33) := by decide +kernel
theorem dX8_rate_56 : decode cX8_rate 56 = .ok (.aload_n 0, 1) := by decide +kernel
theorem dX8_rate_57 : decode cX8_rate 57 = .ok (.iload_n 2, 1) := by decide +kernel
theorem dX8_rate_58 : decode cX8_rate 58 = .ok (.invokevirtual 246, 3) := by decide +kernel
theorem dX8_rate_61 : decode cX8_rate 61 = .ok (.ireturn, 1) := by decide +kernel
theorem dX8_rate_62 : decode cX8_rate 62 = .ok (.aload_n 0, 1) := by decide +kernel
theorem dX8_rate_63 : decode cX8_rate 63 = .ok (.iload_n 2, 1) := by decide +kernel
theorem dX8_rate_64 : decode cX8_rate 64 = .ok (.invokevirtual 249, 3) := by decide +kernel
theorem dX8_rate_67 : decode cX8_rate 67 = .ok (.ireturn, 1) := by decide +kernel
theorem dX8_rate_68 : decode cX8_rate 68 = .ok (.aload_n 0, 1) := by decide +kernel
theorem dX8_rate_69 : decode cX8_rate 69 = .ok (.dup, 1) := by decide +kernel
theorem dX8_rate_70 : decode cX8_rate 70 = .ok (.getfield 233, 3) := by decide +kernel
theorem dX8_rate_73 : decode cX8_rate 73 = .ok (.ldc2_w 231, 3) := by decide +kernel
theorem dX8_rate_76 : decode cX8_rate 76 = .ok (.ladd, 1) := by decide +kernel
theorem dX8_rate_77 : decode cX8_rate 77 = .ok (.putfield 233, 3) := by decide +kernel
theorem dX8_rate_80 : decode cX8_rate 80 = .ok (.iconst 2, 1) := by decide +kernel
theorem dX8_rate_81 : decode cX8_rate 81 = .ok (.aload_n 0, 1) := by decide +kernel
theorem dX8_rate_82 : decode cX8_rate 82 = .ok (.iload_n 2, 1) := by decide +kernel
theorem dX8_rate_83 : decode cX8_rate 83 = .ok (.invokevirtual 246, 3) := by decide +kernel
theorem dX8_rate_86 : decode cX8_rate 86 = .ok (.imul, 1) := by decide +kernel
theorem dX8_rate_87 : decode cX8_rate 87 = .ok (.ireturn, 1) := by decide +kernel
theorem dX8_rate_88 : decode cX8_rate 88 = .ok (.aload_n 0, 1) := by decide +kernel
theorem dX8_rate_89 : decode cX8_rate 89 = .ok (.dup, 1) := by decide +kernel
theorem dX8_rate_90 : decode cX8_rate 90 = .ok (.getfield 233, 3) := by decide +kernel
theorem dX8_rate_93 : decode cX8_rate 93 = .ok (.ldc2_w 252, 3) := by decide +kernel
theorem dX8_rate_96 : decode cX8_rate 96 = .ok (.ladd, 1) := by decide +kernel
theorem dX8_rate_97 : decode cX8_rate 97 = .ok (.putfield 233, 3) := by decide +kernel
theorem dX8_rate_100 : decode cX8_rate 100 = .ok (.aload_n 0, 1) := by decide +kernel
theorem dX8_rate_101 : decode cX8_rate 101 = .ok (.iload_n 2, 1) := by decide +kernel
theorem dX8_rate_102 : decode cX8_rate 102 = .ok (.invokevirtual 249, 3) := by decide +kernel
theorem dX8_rate_105 : decode cX8_rate 105 = .ok (.iload_n 2, 1) := by decide +kernel
theorem dX8_rate_106 : decode cX8_rate 106 = .ok (.iadd, 1) := by decide +kernel
theorem dX8_rate_107 : decode cX8_rate 107 = .ok (.ireturn, 1) := by decide +kernel
theorem dX8_rate_108 : decode cX8_rate 108 = .ok (.aload_n 0, 1) := by decide +kernel
theorem dX8_rate_109 : decode cX8_rate 109 = .ok (.dup, 1) := by decide +kernel
theorem dX8_rate_110 : decode cX8_rate 110 = .ok (.getfield 233, 3) := by decide +kernel
theorem dX8_rate_113 : decode cX8_rate 113 = .ok (.ldc2_w 254, 3) := by decide +kernel
theorem dX8_rate_116 : decode cX8_rate 116 = .ok (.ladd, 1) := by decide +kernel
theorem dX8_rate_117 : decode cX8_rate 117 = .ok (.putfield 233, 3) := by decide +kernel
theorem dX8_rate_120 : decode cX8_rate 120 = .ok (.aload_n 0, 1) := by decide +kernel
theorem dX8_rate_121 : decode cX8_rate 121 = .ok (.iload_n 2, 1) := by decide +kernel
theorem dX8_rate_122 : decode cX8_rate 122 = .ok (.invokevirtual 238, 3) := by decide +kernel
theorem dX8_rate_125 : decode cX8_rate 125 = .ok (.aload_n 0, 1) := by decide +kernel
theorem dX8_rate_126 : decode cX8_rate 126 = .ok (.getfield 7, 3) := by decide +kernel
theorem dX8_rate_129 : decode cX8_rate 129 = .ok (.sipush 606, 3) := by decide +kernel
theorem dX8_rate_132 : decode cX8_rate 132 = .ok (.laload, 1) := by decide +kernel
theorem dX8_rate_133 : decode cX8_rate 133 = .ok (.l2i, 1) := by decide +kernel
theorem dX8_rate_134 : decode cX8_rate 134 = .ok (.iadd, 1) := by decide +kernel
theorem dX8_rate_135 : decode cX8_rate 135 = .ok (.ireturn, 1) := by decide +kernel
theorem dX8_rate_136 : decode cX8_rate 136 = .ok (.aload_n 0, 1) := by decide +kernel
theorem dX8_rate_137 : decode cX8_rate 137 = .ok (.iload_n 2, 1) := by decide +kernel
theorem dX8_rate_138 : decode cX8_rate 138 = .ok (.invokevirtual 238, 3) := by decide +kernel
theorem dX8_rate_141 : decode cX8_rate 141 = .ok (.ireturn, 1) := by decide +kernel
set_option maxRecDepth 20000 in
theorem ggX8_keep_X8_in : GoodIn wsX8_keep wsX8_in := goodIn_r _ [6] (by decide +kernel) (by decide +kernel)
set_option maxRecDepth 20000 in
theorem gX8_keep_X8_in : GoodIn wsX8_keep (va_wsS RX8 91 yX8_in wsX8_in) := goodIn_app (goodIn_of _ (by decide +kernel)) ggX8_keep_X8_in
set_option maxRecDepth 20000 in
theorem ggX8_keep_X8_copy : GoodIn wsX8_keep wsX8_copy := goodIn_r _ [10, 2, 11, 12, 13, 14, 15, 16, 17, 18, 19, 20, 21, 22, 23, 24, 25, 26, 27, 28, 29, 30, 31, 32, 33, 34, 35, 36, 37, 38] (by decide +kernel) (by decide +kernel)
set_option maxRecDepth 20000 in
theorem gX8_keep_X8_copy : GoodIn wsX8_keep (wsV RX8 166 RX8 yX8_copy wsX8_copy) := goodIn_app (goodIn_of _ (by decide +kernel)) ggX8_keep_X8_copy
theorem dX8_keep_0 : decode cX8_keep 0 = .ok (.iload_n 1, 1) := by decide +kernel
theorem dX8_keep_1 : decode cX8_keep 1 = .ok (.i2l, 1) := by decide +kernel
theorem dX8_keep_2 : decode cX8_keep 2 = .ok (.lconst 0, 1) := by decide +kernel
theorem dX8_keep_3 : decode cX8_keep 3 = .ok (.lconst 1, 1) := by decide +kernel
theorem dX8_keep_4 : decode cX8_keep 4 = .ok (.invokestatic 91, 3) := by decide +kernel
theorem dX8_keep_7 : decode cX8_keep 7 = .ok (.ifCond .ne 5, 3) := by decide +kernel
theorem dX8_keep_10 : decode cX8_keep 10 = .ok (.iconst (-1), 1) := by decide +kernel
theorem dX8_keep_11 : decode cX8_keep 11 = .ok (.ireturn, 1) := by decide +kernel
theorem dX8_keep_12 : decode cX8_keep 12 = .ok (.aload_n 0, 1) := by decide +kernel
theorem dX8_keep_13 : decode cX8_keep 13 = .ok (.iconst 0, 1) := by decide +kernel
theorem dX8_keep_14 : decode cX8_keep 14 = .ok (.sipush 1214, 3) := by decide +kernel
theorem dX8_keep_17 : decode cX8_keep 17 = .ok (.sipush 607, 3) := by decide +kernel
theorem dX8_keep_20 : decode cX8_keep 20 = .ok (.iload_n 1, 1) := by decide +kernel
theorem dX8_keep_21 : decode cX8_keep 21 = .ok (.imul, 1) := by decide +kernel
theorem dX8_keep_22 : decode cX8_keep 22 = .ok (.iadd, 1) := by decide +kernel
theorem dX8_keep_23 : decode cX8_keep 23 = .ok (.invokevirtual 166, 3) := by decide +kernel
theorem dX8_keep_26 : decode cX8_keep 26 = .ok (.aload_n 0, 1) := by decide +kernel
theorem dX8_keep_27 : decode cX8_keep 27 = .ok (.getfield 13, 3) := by decide +kernel
theorem dX8_keep_30 : decode cX8_keep 30 = .ok (.iload_n 1, 1) := by decide +kernel
theorem dX8_keep_31 : decode cX8_keep 31 = .ok (.iconst 1, 1) := by decide +kernel
theorem dX8_keep_32 : decode cX8_keep 32 = .ok (.bastore, 1) := by decide +kernel
theorem dX8_keep_33 : decode cX8_keep 33 = .ok (.aload_n 0, 1) := by decide +kernel
theorem dX8_keep_34 : decode cX8_keep 34 = .ok (.getfield 7, 3) := by decide +kernel
theorem dX8_keep_37 : decode cX8_keep 37 = .ok (.sipush 606, 3) := by decide +kernel
theorem dX8_keep_40 : decode cX8_keep 40 = .ok (.laload, 1) := by decide +kernel
theorem dX8_keep_41 : decode cX8_keep 41 = .ok (.l2i, 1) := by decide +kernel
theorem dX8_keep_42 : decode cX8_keep 42 = .ok (.ireturn, 1) := by decide +kernel
set_option maxRecDepth 20000 in
theorem ggX8_back_X8_in : GoodIn wsX8_back wsX8_in := goodIn_r _ [7] (by decide +kernel) (by decide +kernel)
set_option maxRecDepth 20000 in
theorem gX8_back_X8_in : GoodIn wsX8_back (va_wsS RX8 91 yX8_in wsX8_in) := goodIn_app (goodIn_of _ (by decide +kernel)) ggX8_back_X8_in
set_option maxRecDepth 20000 in
theorem ggX8_back_X8_copy : GoodIn wsX8_back wsX8_copy := goodIn_r _ [11, 3, 12, 13, 14, 15, 16, 17, 18, 19, 20, 21, 22, 23, 24, 25, 26, 27, 28, 29, 30, 31, 32, 33, 34, 35, 36, 37, 38, 39] (by decide +kernel) (by decide +kernel)
set_option maxRecDepth 20000 in
theorem gX8_back_X8_copy : GoodIn wsX8_back (wsV RX8 166 RX8 yX8_copy wsX8_copy) := goodIn_app (goodIn_of _ (by decide +kernel)) ggX8_back_X8_copy
theorem dX8_back_0 : decode cX8_back 0 = .ok (.iload_n 1, 1) := by decide +kernel
theorem dX8_back_1 : decode cX8_back 1 = .ok (.i2l, 1) := by decide +kernel
theorem dX8_back_2 : decode cX8_back 2 = .ok (.lconst 0, 1) := by decide +kernel
theorem dX8_back_3 : decode cX8_back 3 = .ok (.lconst 1, 1) := by decide +kernel
theorem dX8_back_4 : decode cX8_back 4 = .ok (.invokestatic 91, 3) := by decide +kernel
theorem dX8_back_7 : decode cX8_back 7 = .ok (.ifCond .ne 5, 3) := by decide +kernel
theorem dX8_back_10 : decode cX8_back 10 = .ok (.iconst (-1), 1) := by decide +kernel
theorem dX8_back_11 : decode cX8_back 11 = .ok (.ireturn, 1) := by decide +kernel
theorem dX8_back_12 : decode cX8_back 12 = .ok (.aload_n 0, 1) := by decide +kernel
theorem dX8_back_13 : decode cX8_back 13 = .ok (.getfield 13, 3) := by decide +kernel
theorem dX8_back_16 : decode cX8_back 16 = .ok (.iload_n 1, 1) := by decide +kernel
theorem dX8_back_17 : decode cX8_back 17 = .ok (.baload, 1) := by decide +kernel
theorem dX8_back_18 : decode cX8_back 18 = .ok (.ifCond .ne 6, 3) := by decide +kernel
theorem dX8_back_21 : decode cX8_back 21 = .ok (.bipush (-2), 2) := by decide +kernel
theorem dX8_back_23 : decode cX8_back 23 = .ok (.ireturn, 1) := by decide +kernel
theorem dX8_back_24 : decode cX8_back 24 = .ok (.aload_n 0, 1) := by decide +kernel
theorem dX8_back_25 : decode cX8_back 25 = .ok (.sipush 1214, 3) := by decide +kernel
theorem dX8_back_28 : decode cX8_back 28 = .ok (.sipush 607, 3) := by decide +kernel
theorem dX8_back_31 : decode cX8_back 31 = .ok (.iload_n 1, 1) := by decide +kernel
theorem dX8_back_32 : decode cX8_back 32 = .ok (.imul, 1) := by decide +kernel
theorem dX8_back_33 : decode cX8_back 33 = .ok (.iadd, 1) := by decide +kernel
theorem dX8_back_34 : decode cX8_back 34 = .ok (.iconst 0, 1) := by decide +kernel
theorem dX8_back_35 : decode cX8_back 35 = .ok (.invokevirtual 166, 3) := by decide +kernel
theorem dX8_back_38 : decode cX8_back 38 = .ok (.aload_n 0, 1) := by decide +kernel
theorem dX8_back_39 : decode cX8_back 39 = .ok (.iconst 0, 1) := by decide +kernel
theorem dX8_back_40 : decode cX8_back 40 = .ok (.putfield 82, 3) := by decide +kernel
theorem dX8_back_43 : decode cX8_back 43 = .ok (.aload_n 0, 1) := by decide +kernel
theorem dX8_back_44 : decode cX8_back 44 = .ok (.getfield 7, 3) := by decide +kernel
theorem dX8_back_47 : decode cX8_back 47 = .ok (.sipush 606, 3) := by decide +kernel
theorem dX8_back_50 : decode cX8_back 50 = .ok (.laload, 1) := by decide +kernel
theorem dX8_back_51 : decode cX8_back 51 = .ok (.l2i, 1) := by decide +kernel
theorem dX8_back_52 : decode cX8_back 52 = .ok (.ireturn, 1) := by decide +kernel
theorem dX8_count_0 : decode cX8_count 0 = .ok (.iload_n 1, 1) := by decide +kernel
theorem dX8_count_1 : decode cX8_count 1 = .ok (.tableswitch 60 0 4 #[35, 40, 45, 50, 55], 35) := by decide +kernel
theorem dX8_count_36 : decode cX8_count 36 = .ok (.aload_n 0, 1) := by decide +kernel
theorem dX8_count_37 : decode cX8_count 37 = .ok (.getfield 67, 3) := by decide +kernel
theorem dX8_count_40 : decode cX8_count 40 = .ok (.ireturn, 1) := by decide +kernel
theorem dX8_count_41 : decode cX8_count 41 = .ok (.aload_n 0, 1) := by decide +kernel
theorem dX8_count_42 : decode cX8_count 42 = .ok (.getfield 73, 3) := by decide +kernel
theorem dX8_count_45 : decode cX8_count 45 = .ok (.ireturn, 1) := by decide +kernel
theorem dX8_count_46 : decode cX8_count 46 = .ok (.aload_n 0, 1) := by decide +kernel
theorem dX8_count_47 : decode cX8_count 47 = .ok (.getfield 76, 3) := by decide +kernel
theorem dX8_count_50 : decode cX8_count 50 = .ok (.ireturn, 1) := by decide +kernel
theorem dX8_count_51 : decode cX8_count 51 = .ok (.aload_n 0, 1) := by decide +kernel
theorem dX8_count_52 : decode cX8_count 52 = .ok (.getfield 79, 3) := by decide +kernel
theorem dX8_count_55 : decode cX8_count 55 = .ok (.ireturn, 1) := by decide +kernel
theorem dX8_count_56 : decode cX8_count 56 = .ok (.aload_n 0, 1) := by decide +kernel
theorem dX8_count_57 : decode cX8_count 57 = .ok (.getfield 95, 3) := by decide +kernel
theorem dX8_count_60 : decode cX8_count 60 = .ok (.ireturn, 1) := by decide +kernel
theorem dX8_count_61 : decode cX8_count 61 = .ok (.iconst (-1), 1) := by decide +kernel
theorem dX8_count_62 : decode cX8_count 62 = .ok (.ireturn, 1) := by decide +kernel
theorem dX8_trace_0 : decode cX8_trace 0 = .ok (.aload_n 0, 1) := by decide +kernel
theorem dX8_trace_1 : decode cX8_trace 1 = .ok (.getfield 233, 3) := by decide +kernel
theorem dX8_trace_4 : decode cX8_trace 4 = .ok (.lreturn, 1) := by decide +kernel
theorem dJ9_max_7cf53_0 : decode cJ9_max_7cf53 0 = .ok (.iload_n 0, 1) := by decide +kernel
theorem dJ9_max_7cf53_1 : decode cJ9_max_7cf53 1 = .ok (.iload_n 1, 1) := by decide +kernel
theorem dJ9_max_7cf53_2 : decode cJ9_max_7cf53 2 = .ok (.if_icmp .lt 7, 3) := by decide +kernel
theorem dJ9_max_7cf53_5 : decode cJ9_max_7cf53 5 = .ok (.iload_n 0, 1) := by decide +kernel
theorem dJ9_max_7cf53_6 : decode cJ9_max_7cf53 6 = .ok (.goto 4, 3) := by decide +kernel
theorem dJ9_max_7cf53_9 : decode cJ9_max_7cf53 9 = .ok (.iload_n 1, 1) := by decide +kernel
theorem dJ9_max_7cf53_10 : decode cJ9_max_7cf53 10 = .ok (.ireturn, 1) := by decide +kernel
theorem dJ9_min_7cf53_0 : decode cJ9_min_7cf53 0 = .ok (.iload_n 0, 1) := by decide +kernel
theorem dJ9_min_7cf53_1 : decode cJ9_min_7cf53 1 = .ok (.iload_n 1, 1) := by decide +kernel
theorem dJ9_min_7cf53_2 : decode cJ9_min_7cf53 2 = .ok (.if_icmp .gt 7, 3) := by decide +kernel
theorem dJ9_min_7cf53_5 : decode cJ9_min_7cf53 5 = .ok (.iload_n 0, 1) := by decide +kernel
theorem dJ9_min_7cf53_6 : decode cJ9_min_7cf53 6 = .ok (.goto 4, 3) := by decide +kernel
theorem dJ9_min_7cf53_9 : decode cJ9_min_7cf53 9 = .ok (.iload_n 1, 1) := by decide +kernel
theorem dJ9_min_7cf53_10 : decode cJ9_min_7cf53 10 = .ok (.ireturn, 1) := by decide +kernel
theorem dJ9_min_f86c9_0 : decode cJ9_min_f86c9 0 = .ok (.lload_n 0, 1) := by decide +kernel
theorem dJ9_min_f86c9_1 : decode cJ9_min_f86c9 1 = .ok (.lload_n 2, 1) := by decide +kernel
theorem dJ9_min_f86c9_2 : decode cJ9_min_f86c9 2 = .ok (.lcmp, 1) := by decide +kernel
theorem dJ9_min_f86c9_3 : decode cJ9_min_f86c9 3 = .ok (.ifCond .gt 7, 3) := by decide +kernel
theorem dJ9_min_f86c9_6 : decode cJ9_min_f86c9 6 = .ok (.lload_n 0, 1) := by decide +kernel
theorem dJ9_min_f86c9_7 : decode cJ9_min_f86c9 7 = .ok (.goto 4, 3) := by decide +kernel
theorem dJ9_min_f86c9_10 : decode cJ9_min_f86c9 10 = .ok (.lload_n 2, 1) := by decide +kernel
theorem dJ9_min_f86c9_11 : decode cJ9_min_f86c9 11 = .ok (.lreturn, 1) := by decide +kernel
theorem dJ7_rangeCheck_23922_0 : decode cJ7_rangeCheck_23922 0 = .ok (.iload_n 1, 1) := by decide +kernel
theorem dJ7_rangeCheck_23922_1 : decode cJ7_rangeCheck_23922 1 = .ok (.iload_n 2, 1) := by decide +kernel
theorem dJ7_rangeCheck_23922_2 : decode cJ7_rangeCheck_23922 2 = .ok (.if_icmp .le 44, 3) := by decide +kernel
theorem dJ7_rangeCheck_23922_5 : decode cJ7_rangeCheck_23922 5 = .ok (.new 43, 3) := by decide +kernel
theorem dJ7_rangeCheck_23922_8 : decode cJ7_rangeCheck_23922 8 = .ok (.dup, 1) := by decide +kernel
theorem dJ7_rangeCheck_23922_9 : decode cJ7_rangeCheck_23922 9 = .ok (.new 45, 3) := by decide +kernel
theorem dJ7_rangeCheck_23922_12 : decode cJ7_rangeCheck_23922 12 = .ok (.dup, 1) := by decide +kernel
theorem dJ7_rangeCheck_23922_13 : decode cJ7_rangeCheck_23922 13 = .ok (.invokespecial 47, 3) := by decide +kernel
theorem dJ7_rangeCheck_23922_16 : decode cJ7_rangeCheck_23922 16 = .ok (.ldc 48, 2) := by decide +kernel
theorem dJ7_rangeCheck_23922_18 : decode cJ7_rangeCheck_23922 18 = .ok (.invokevirtual 50, 3) := by decide +kernel
theorem dJ7_rangeCheck_23922_21 : decode cJ7_rangeCheck_23922 21 = .ok (.iload_n 1, 1) := by decide +kernel
theorem dJ7_rangeCheck_23922_22 : decode cJ7_rangeCheck_23922 22 = .ok (.invokevirtual 54, 3) := by decide +kernel
theorem dJ7_rangeCheck_23922_25 : decode cJ7_rangeCheck_23922 25 = .ok (.ldc 57, 2) := by decide +kernel
theorem dJ7_rangeCheck_23922_27 : decode cJ7_rangeCheck_23922 27 = .ok (.invokevirtual 50, 3) := by decide +kernel
theorem dJ7_rangeCheck_23922_30 : decode cJ7_rangeCheck_23922 30 = .ok (.iload_n 2, 1) := by decide +kernel
theorem dJ7_rangeCheck_23922_31 : decode cJ7_rangeCheck_23922 31 = .ok (.invokevirtual 54, 3) := by decide +kernel
theorem dJ7_rangeCheck_23922_34 : decode cJ7_rangeCheck_23922 34 = .ok (.ldc 59, 2) := by decide +kernel
theorem dJ7_rangeCheck_23922_36 : decode cJ7_rangeCheck_23922 36 = .ok (.invokevirtual 50, 3) := by decide +kernel
theorem dJ7_rangeCheck_23922_39 : decode cJ7_rangeCheck_23922 39 = .ok (.invokevirtual 61, 3) := by decide +kernel
theorem dJ7_rangeCheck_23922_42 : decode cJ7_rangeCheck_23922 42 = .ok (.invokespecial 65, 3) := by decide +kernel
theorem dJ7_rangeCheck_23922_45 : decode cJ7_rangeCheck_23922 45 = .ok (.athrow, 1) := by decide +kernel
theorem dJ7_rangeCheck_23922_46 : decode cJ7_rangeCheck_23922 46 = .ok (.iload_n 1, 1) := by decide +kernel
theorem dJ7_rangeCheck_23922_47 : decode cJ7_rangeCheck_23922 47 = .ok (.ifCond .ge 12, 3) := by decide +kernel
theorem dJ7_rangeCheck_23922_50 : decode cJ7_rangeCheck_23922 50 = .ok (.new 68, 3) := by decide +kernel
theorem dJ7_rangeCheck_23922_53 : decode cJ7_rangeCheck_23922 53 = .ok (.dup, 1) := by decide +kernel
theorem dJ7_rangeCheck_23922_54 : decode cJ7_rangeCheck_23922 54 = .ok (.iload_n 1, 1) := by decide +kernel
theorem dJ7_rangeCheck_23922_55 : decode cJ7_rangeCheck_23922 55 = .ok (.invokespecial 70, 3) := by decide +kernel
theorem dJ7_rangeCheck_23922_58 : decode cJ7_rangeCheck_23922 58 = .ok (.athrow, 1) := by decide +kernel
theorem dJ7_rangeCheck_23922_59 : decode cJ7_rangeCheck_23922 59 = .ok (.iload_n 2, 1) := by decide +kernel
theorem dJ7_rangeCheck_23922_60 : decode cJ7_rangeCheck_23922 60 = .ok (.iload_n 0, 1) := by decide +kernel
theorem dJ7_rangeCheck_23922_61 : decode cJ7_rangeCheck_23922 61 = .ok (.if_icmp .le 12, 3) := by decide +kernel
theorem dJ7_rangeCheck_23922_64 : decode cJ7_rangeCheck_23922 64 = .ok (.new 68, 3) := by decide +kernel
theorem dJ7_rangeCheck_23922_67 : decode cJ7_rangeCheck_23922 67 = .ok (.dup, 1) := by decide +kernel
theorem dJ7_rangeCheck_23922_68 : decode cJ7_rangeCheck_23922 68 = .ok (.iload_n 2, 1) := by decide +kernel
theorem dJ7_rangeCheck_23922_69 : decode cJ7_rangeCheck_23922 69 = .ok (.invokespecial 70, 3) := by decide +kernel
theorem dJ7_rangeCheck_23922_72 : decode cJ7_rangeCheck_23922 72 = .ok (.athrow, 1) := by decide +kernel
theorem dJ7_rangeCheck_23922_73 : decode cJ7_rangeCheck_23922 73 = .ok (.return_, 1) := by decide +kernel
theorem dJ7_fill_d0a16_0 : decode cJ7_fill_d0a16 0 = .ok (.iconst 0, 1) := by decide +kernel
theorem dJ7_fill_d0a16_1 : decode cJ7_fill_d0a16 1 = .ok (.istore_n 3, 1) := by decide +kernel
theorem dJ7_fill_d0a16_2 : decode cJ7_fill_d0a16 2 = .ok (.aload_n 0, 1) := by decide +kernel
theorem dJ7_fill_d0a16_3 : decode cJ7_fill_d0a16 3 = .ok (.arraylength, 1) := by decide +kernel
theorem dJ7_fill_d0a16_4 : decode cJ7_fill_d0a16 4 = .ok (.istore 4, 2) := by decide +kernel
theorem dJ7_fill_d0a16_6 : decode cJ7_fill_d0a16 6 = .ok (.iload_n 3, 1) := by decide +kernel
theorem dJ7_fill_d0a16_7 : decode cJ7_fill_d0a16 7 = .ok (.iload 4, 2) := by decide +kernel
theorem dJ7_fill_d0a16_9 : decode cJ7_fill_d0a16 9 = .ok (.if_icmp .ge 13, 3) := by decide +kernel
theorem dJ7_fill_d0a16_12 : decode cJ7_fill_d0a16 12 = .ok (.aload_n 0, 1) := by decide +kernel
theorem dJ7_fill_d0a16_13 : decode cJ7_fill_d0a16 13 = .ok (.iload_n 3, 1) := by decide +kernel
theorem dJ7_fill_d0a16_14 : decode cJ7_fill_d0a16 14 = .ok (.lload_n 1, 1) := by decide +kernel
theorem dJ7_fill_d0a16_15 : decode cJ7_fill_d0a16 15 = .ok (.lastore, 1) := by decide +kernel
theorem dJ7_fill_d0a16_16 : decode cJ7_fill_d0a16 16 = .ok (.iinc 3 1, 3) := by decide +kernel
theorem dJ7_fill_d0a16_19 : decode cJ7_fill_d0a16 19 = .ok (.goto (-13), 3) := by decide +kernel
theorem dJ7_fill_d0a16_22 : decode cJ7_fill_d0a16 22 = .ok (.return_, 1) := by decide +kernel
set_option maxRecDepth 20000 in
theorem ggJ7_fill_bad5a_J7_rangeCheck_23922 : GoodIn wsJ7_fill_bad5a wsJ7_rangeCheck_23922 := goodIn_r _ [4] (by decide +kernel) (by decide +kernel)
set_option maxRecDepth 20000 in
theorem gJ7_fill_bad5a_J7_rangeCheck_23922 : GoodIn wsJ7_fill_bad5a (va_wsS RJ7 13 yJ7_rangeCheck_23922 wsJ7_rangeCheck_23922) := goodIn_app (goodIn_of _ (by decide +kernel)) ggJ7_fill_bad5a_J7_rangeCheck_23922
theorem dJ7_fill_bad5a_0 : decode cJ7_fill_bad5a 0 = .ok (.aload_n 0, 1) := by decide +kernel
theorem dJ7_fill_bad5a_1 : decode cJ7_fill_bad5a 1 = .ok (.arraylength, 1) := by decide +kernel
theorem dJ7_fill_bad5a_2 : decode cJ7_fill_bad5a 2 = .ok (.iload_n 1, 1) := by decide +kernel
theorem dJ7_fill_bad5a_3 : decode cJ7_fill_bad5a 3 = .ok (.iload_n 2, 1) := by decide +kernel
theorem dJ7_fill_bad5a_4 : decode cJ7_fill_bad5a 4 = .ok (.invokestatic 13, 3) := by decide +kernel
theorem dJ7_fill_bad5a_7 : decode cJ7_fill_bad5a 7 = .ok (.iload_n 1, 1) := by decide +kernel
theorem dJ7_fill_bad5a_8 : decode cJ7_fill_bad5a 8 = .ok (.istore 5, 2) := by decide +kernel
theorem dJ7_fill_bad5a_10 : decode cJ7_fill_bad5a 10 = .ok (.iload 5, 2) := by decide +kernel
theorem dJ7_fill_bad5a_12 : decode cJ7_fill_bad5a 12 = .ok (.iload_n 2, 1) := by decide +kernel
theorem dJ7_fill_bad5a_13 : decode cJ7_fill_bad5a 13 = .ok (.if_icmp .ge 14, 3) := by decide +kernel
theorem dJ7_fill_bad5a_16 : decode cJ7_fill_bad5a 16 = .ok (.aload_n 0, 1) := by decide +kernel
theorem dJ7_fill_bad5a_17 : decode cJ7_fill_bad5a 17 = .ok (.iload 5, 2) := by decide +kernel
theorem dJ7_fill_bad5a_19 : decode cJ7_fill_bad5a 19 = .ok (.lload_n 3, 1) := by decide +kernel
theorem dJ7_fill_bad5a_20 : decode cJ7_fill_bad5a 20 = .ok (.lastore, 1) := by decide +kernel
theorem dJ7_fill_bad5a_21 : decode cJ7_fill_bad5a 21 = .ok (.iinc 5 1, 3) := by decide +kernel
theorem dJ7_fill_bad5a_24 : decode cJ7_fill_bad5a 24 = .ok (.goto (-14), 3) := by decide +kernel
theorem dJ7_fill_bad5a_27 : decode cJ7_fill_bad5a 27 = .ok (.return_, 1) := by decide +kernel
