theorem dX6_weightWithLump_0 : decode cX6_weightWithLump 0 = .ok (.aload_n 0, 1) := by decide +kernel
theorem dX6_weightWithLump_1 : decode cX6_weightWithLump 1 = .ok (.aload_n 1, 1) := by decide +kernel
theorem dX6_weightWithLump_2 : decode cX6_weightWithLump 2 = .ok (.invokevirtual 72, 3) := by decide +kernel
theorem dX6_weightWithLump_5 : decode cX6_weightWithLump 5 = .ok (.aload_n 0, 1) := by decide +kernel
theorem dX6_weightWithLump_6 : decode cX6_weightWithLump 6 = .ok (.getfield 28, 3) := by decide +kernel
theorem dX6_weightWithLump_9 : decode cX6_weightWithLump 9 = .ok (.ladd, 1) := by decide +kernel
theorem dX6_weightWithLump_10 : decode cX6_weightWithLump 10 = .ok (.lreturn, 1) := by decide +kernel
theorem dX6_greatestAge_0 : decode cX6_greatestAge 0 = .ok (.iconst 0, 1) := by decide +kernel
theorem dX6_greatestAge_1 : decode cX6_greatestAge 1 = .ok (.istore_n 2, 1) := by decide +kernel
theorem dX6_greatestAge_2 : decode cX6_greatestAge 2 = .ok (.iload_n 2, 1) := by decide +kernel
theorem dX6_greatestAge_3 : decode cX6_greatestAge 3 = .ok (.aload_n 0, 1) := by decide +kernel
theorem dX6_greatestAge_4 : decode cX6_greatestAge 4 = .ok (.getfield 24, 3) := by decide +kernel
theorem dX6_greatestAge_7 : decode cX6_greatestAge 7 = .ok (.if_icmp .gt 32, 3) := by decide +kernel
theorem dX6_greatestAge_10 : decode cX6_greatestAge 10 = .ok (.aload_n 0, 1) := by decide +kernel
theorem dX6_greatestAge_11 : decode cX6_greatestAge 11 = .ok (.getfield 9, 3) := by decide +kernel
theorem dX6_greatestAge_14 : decode cX6_greatestAge 14 = .ok (.iload_n 1, 1) := by decide +kernel
theorem dX6_greatestAge_15 : decode cX6_greatestAge 15 = .ok (.bipush 121, 2) := by decide +kernel
theorem dX6_greatestAge_17 : decode cX6_greatestAge 17 = .ok (.imul, 1) := by decide +kernel
theorem dX6_greatestAge_18 : decode cX6_greatestAge 18 = .ok (.iload_n 2, 1) := by decide +kernel
theorem dX6_greatestAge_19 : decode cX6_greatestAge 19 = .ok (.iadd, 1) := by decide +kernel
theorem dX6_greatestAge_20 : decode cX6_greatestAge 20 = .ok (.laload, 1) := by decide +kernel
theorem dX6_greatestAge_21 : decode cX6_greatestAge 21 = .ok (.lconst 0, 1) := by decide +kernel
theorem dX6_greatestAge_22 : decode cX6_greatestAge 22 = .ok (.lcmp, 1) := by decide +kernel
theorem dX6_greatestAge_23 : decode cX6_greatestAge 23 = .ok (.ifCond .le 10, 3) := by decide +kernel
theorem dX6_greatestAge_26 : decode cX6_greatestAge 26 = .ok (.aload_n 0, 1) := by decide +kernel
theorem dX6_greatestAge_27 : decode cX6_greatestAge 27 = .ok (.getfield 24, 3) := by decide +kernel
theorem dX6_greatestAge_30 : decode cX6_greatestAge 30 = .ok (.iload_n 2, 1) := by decide +kernel
theorem dX6_greatestAge_31 : decode cX6_greatestAge 31 = .ok (.isub, 1) := by decide +kernel
theorem dX6_greatestAge_32 : decode cX6_greatestAge 32 = .ok (.ireturn, 1) := by decide +kernel
theorem dX6_greatestAge_33 : decode cX6_greatestAge 33 = .ok (.iinc 2 1, 3) := by decide +kernel
theorem dX6_greatestAge_36 : decode cX6_greatestAge 36 = .ok (.goto (-34), 3) := by decide +kernel
theorem dX6_greatestAge_39 : decode cX6_greatestAge 39 = .ok (.bipush (-9), 2) := by decide +kernel
theorem dX6_greatestAge_41 : decode cX6_greatestAge 41 = .ok (.ireturn, 1) := by decide +kernel
theorem dX6_takeOldest_0 : decode cX6_takeOldest 0 = .ok (.lload_n 2, 1) := by decide +kernel
theorem dX6_takeOldest_1 : decode cX6_takeOldest 1 = .ok (.lstore 4, 2) := by decide +kernel
theorem dX6_takeOldest_3 : decode cX6_takeOldest 3 = .ok (.iconst 0, 1) := by decide +kernel
theorem dX6_takeOldest_4 : decode cX6_takeOldest 4 = .ok (.istore 6, 2) := by decide +kernel
theorem dX6_takeOldest_6 : decode cX6_takeOldest 6 = .ok (.iload 6, 2) := by decide +kernel
theorem dX6_takeOldest_8 : decode cX6_takeOldest 8 = .ok (.aload_n 0, 1) := by decide +kernel
theorem dX6_takeOldest_9 : decode cX6_takeOldest 9 = .ok (.getfield 24, 3) := by decide +kernel
theorem dX6_takeOldest_12 : decode cX6_takeOldest 12 = .ok (.if_icmp .gt 59, 3) := by decide +kernel
theorem dX6_takeOldest_15 : decode cX6_takeOldest 15 = .ok (.lload 4, 2) := by decide +kernel
theorem dX6_takeOldest_17 : decode cX6_takeOldest 17 = .ok (.lconst 0, 1) := by decide +kernel
theorem dX6_takeOldest_18 : decode cX6_takeOldest 18 = .ok (.lcmp, 1) := by decide +kernel
theorem dX6_takeOldest_19 : decode cX6_takeOldest 19 = .ok (.ifCond .le 52, 3) := by decide +kernel
theorem dX6_takeOldest_22 : decode cX6_takeOldest 22 = .ok (.lload 4, 2) := by decide +kernel
theorem dX6_takeOldest_24 : decode cX6_takeOldest 24 = .ok (.aload_n 0, 1) := by decide +kernel
theorem dX6_takeOldest_25 : decode cX6_takeOldest 25 = .ok (.getfield 9, 3) := by decide +kernel
theorem dX6_takeOldest_28 : decode cX6_takeOldest 28 = .ok (.iload_n 1, 1) := by decide +kernel
theorem dX6_takeOldest_29 : decode cX6_takeOldest 29 = .ok (.bipush 121, 2) := by decide +kernel
theorem dX6_takeOldest_31 : decode cX6_takeOldest 31 = .ok (.imul, 1) := by decide +kernel
theorem dX6_takeOldest_32 : decode cX6_takeOldest 32 = .ok (.iload 6, 2) := by decide +kernel
theorem dX6_takeOldest_34 : decode cX6_takeOldest 34 = .ok (.iadd, 1) := by decide +kernel
theorem dX6_takeOldest_35 : decode cX6_takeOldest 35 = .ok (.laload, 1) := by decide +kernel
theorem dX6_takeOldest_36 : decode cX6_takeOldest 36 = .ok (.invokestatic 75, 3) := by decide +kernel
theorem dX6_takeOldest_39 : decode cX6_takeOldest 39 = .ok (.lstore 7, 2) := by decide +kernel
theorem dX6_takeOldest_41 : decode cX6_takeOldest 41 = .ok (.aload_n 0, 1) := by decide +kernel
theorem dX6_takeOldest_42 : decode cX6_takeOldest 42 = .ok (.getfield 9, 3) := by decide +kernel
theorem dX6_takeOldest_45 : decode cX6_takeOldest 45 = .ok (.iload_n 1, 1) := by decide +kernel
theorem dX6_takeOldest_46 : decode cX6_takeOldest 46 = .ok (.bipush 121, 2) := by decide +kernel
theorem dX6_takeOldest_48 : decode cX6_takeOldest 48 = .ok (.imul, 1) := by decide +kernel
theorem dX6_takeOldest_49 : decode cX6_takeOldest 49 = .ok (.iload 6, 2) := by decide +kernel
theorem dX6_takeOldest_51 : decode cX6_takeOldest 51 = .ok (.iadd, 1) := by decide +kernel
theorem dX6_takeOldest_52 : decode cX6_takeOldest 52 = .ok (.dup2, 1) := by decide +kernel
theorem dX6_takeOldest_53 : decode cX6_takeOldest 53 = .ok (.laload, 1) := by decide +kernel
theorem dX6_takeOldest_54 : decode cX6_takeOldest 54 = .ok (.lload 7, 2) := by decide +kernel
theorem dX6_takeOldest_56 : decode cX6_takeOldest 56 = .ok (.lsub, 1) := by decide +kernel
theorem dX6_takeOldest_57 : decode cX6_takeOldest 57 = .ok (.lastore, 1) := by decide +kernel
theorem dX6_takeOldest_58 : decode cX6_takeOldest 58 = .ok (.lload 4, 2) := by decide +kernel
theorem dX6_takeOldest_60 : decode cX6_takeOldest 60 = .ok (.lload 7, 2) := by decide +kernel
theorem dX6_takeOldest_62 : decode cX6_takeOldest 62 = .ok (.lsub, 1) := by decide +kernel
theorem dX6_takeOldest_63 : decode cX6_takeOldest 63 = .ok (.lstore 4, 2) := by decide +kernel
theorem dX6_takeOldest_65 : decode cX6_takeOldest 65 = .ok (.iinc 6 1, 3) := by decide +kernel
theorem dX6_takeOldest_68 : decode cX6_takeOldest 68 = .ok (.goto (-62), 3) := by decide +kernel
theorem dX6_takeOldest_71 : decode cX6_takeOldest 71 = .ok (.return_, 1) := by decide +kernel
set_option maxRecDepth 20000 in
theorem ggX6_takeAll_J7_fill_bad5a : GoodIn wsX6_takeAll wsJ7_fill_bad5a := goodIn_r _ [5, 6, 7, 4, 8] (by decide +kernel) (by decide +kernel)
set_option maxRecDepth 20000 in
theorem gX6_takeAll_J7_fill_bad5a : GoodIn wsX6_takeAll (va_wsS RX6 79 yJ7_fill_bad5a wsJ7_fill_bad5a) := goodIn_app (goodIn_of _ (by decide +kernel)) ggX6_takeAll_J7_fill_bad5a
theorem dX6_takeAll_0 : decode cX6_takeAll 0 = .ok (.aload_n 0, 1) := by decide +kernel
theorem dX6_takeAll_1 : decode cX6_takeAll 1 = .ok (.getfield 9, 3) := by decide +kernel
theorem dX6_takeAll_4 : decode cX6_takeAll 4 = .ok (.iload_n 1, 1) := by decide +kernel
theorem dX6_takeAll_5 : decode cX6_takeAll 5 = .ok (.bipush 121, 2) := by decide +kernel
theorem dX6_takeAll_7 : decode cX6_takeAll 7 = .ok (.imul, 1) := by decide +kernel
theorem dX6_takeAll_8 : decode cX6_takeAll 8 = .ok (.iload_n 1, 1) := by decide +kernel
theorem dX6_takeAll_9 : decode cX6_takeAll 9 = .ok (.iconst 1, 1) := by decide +kernel
theorem dX6_takeAll_10 : decode cX6_takeAll 10 = .ok (.iadd, 1) := by decide +kernel
theorem dX6_takeAll_11 : decode cX6_takeAll 11 = .ok (.bipush 121, 2) := by decide +kernel
theorem dX6_takeAll_13 : decode cX6_takeAll 13 = .ok (.imul, 1) := by decide +kernel
theorem dX6_takeAll_14 : decode cX6_takeAll 14 = .ok (.lconst 0, 1) := by decide +kernel
theorem dX6_takeAll_15 : decode cX6_takeAll 15 = .ok (.invokestatic 79, 3) := by decide +kernel
theorem dX6_takeAll_18 : decode cX6_takeAll 18 = .ok (.return_, 1) := by decide +kernel
set_option maxRecDepth 20000 in
theorem ggX7_init_X5_init : GoodIn wsX7_init wsX5_init := goodIn_r _ [38, 39, 2, 3, 40, 41, 42, 43, 44, 105, 106, 107, 108, 109, 110, 111, 112, 113, 114] (by decide +kernel) (by decide +kernel)
set_option maxRecDepth 20000 in
theorem gX7_init_X5_init_n11 : GoodIn wsX7_init (wsX5_init) := ggX7_init_X5_init
set_option maxRecDepth 20000 in
theorem ggX7_init_X6_init : GoodIn wsX7_init wsX6_init := goodIn_r _ [47, 48, 2, 3, 49, 50, 51, 52, 53, 10, 54, 55, 56, 57, 58, 59, 60, 126, 127, 128] (by decide +kernel) (by decide +kernel)
set_option maxRecDepth 20000 in
theorem gX7_init_X6_init : GoodIn wsX7_init (wsX6_init) := ggX7_init_X6_init
set_option maxRecDepth 20000 in
theorem ggX7_init_X3_init : GoodIn wsX7_init wsX3_init := goodIn_r _ [63, 64, 2, 3, 65, 66, 9, 10, 67, 46, 47, 48, 49, 50, 51, 52, 53, 54, 55, 56, 57, 58, 59, 60, 129, 130, 131, 126, 127, 128] (by decide +kernel) (by decide +kernel)
set_option maxRecDepth 20000 in
theorem gX7_init_X3_init : GoodIn wsX7_init (wsX3_init) := ggX7_init_X3_init
set_option maxRecDepth 20000 in
theorem ggX7_init_X0_init : GoodIn wsX7_init wsX0_init := goodIn_r _ [69, 70, 2, 3, 40, 71, 72, 132, 133, 134] (by decide +kernel) (by decide +kernel)
set_option maxRecDepth 20000 in
theorem gX7_init_X0_init_n43 : GoodIn wsX7_init (wsX0_init) := ggX7_init_X0_init
set_option maxRecDepth 20000 in
theorem ggX7_init_X4_init : GoodIn wsX7_init wsX4_init := goodIn_r _ [74, 75, 2, 3, 76, 40, 77, 78, 135, 136, 137] (by decide +kernel) (by decide +kernel)
set_option maxRecDepth 20000 in
theorem gX7_init_X4_init_n50 : GoodIn wsX7_init (wsX4_init) := ggX7_init_X4_init
set_option maxRecDepth 20000 in
theorem ggX7_init_X1_init : GoodIn wsX7_init wsX1_init := goodIn_r _ [80, 81, 2, 3] (by decide +kernel) (by decide +kernel)
set_option maxRecDepth 20000 in
theorem gX7_init_X1_init_n57 : GoodIn wsX7_init (wsX1_init) := ggX7_init_X1_init
set_option maxRecDepth 20000 in
theorem ggX7_init_X2_init : GoodIn wsX7_init wsX2_init := goodIn_r _ [84, 85, 2, 3, 40, 86, 87, 88, 89, 90, 91, 92, 34, 93, 94, 95, 96, 97, 98, 99, 100, 101, 102, 103, 104, 139, 140, 141, 142, 143, 144, 145, 146, 147, 148, 149] (by decide +kernel) (by decide +kernel)
set_option maxRecDepth 20000 in
theorem gX7_init_X2_init : GoodIn wsX7_init (wsX2_init) := ggX7_init_X2_init
theorem dX7_init_0 : decode cX7_init 0 = .ok (.aload_n 0, 1) := by decide +kernel
theorem dX7_init_1 : decode cX7_init 1 = .ok (.invokespecial 3, 3) := by decide +kernel
theorem dX7_init_4 : decode cX7_init 4 = .ok (.aload_n 0, 1) := by decide +kernel
theorem dX7_init_5 : decode cX7_init 5 = .ok (.new 9, 3) := by decide +kernel
theorem dX7_init_8 : decode cX7_init 8 = .ok (.dup, 1) := by decide +kernel
theorem dX7_init_9 : decode cX7_init 9 = .ok (.invokespecial 11, 3) := by decide +kernel
theorem dX7_init_12 : decode cX7_init 12 = .ok (.putfield 12, 3) := by decide +kernel
theorem dX7_init_15 : decode cX7_init 15 = .ok (.aload_n 0, 1) := by decide +kernel
theorem dX7_init_16 : decode cX7_init 16 = .ok (.new 16, 3) := by decide +kernel
theorem dX7_init_19 : decode cX7_init 19 = .ok (.dup, 1) := by decide +kernel
theorem dX7_init_20 : decode cX7_init 20 = .ok (.invokespecial 18, 3) := by decide +kernel
theorem dX7_init_23 : decode cX7_init 23 = .ok (.putfield 19, 3) := by decide +kernel
theorem dX7_init_26 : decode cX7_init 26 = .ok (.aload_n 0, 1) := by decide +kernel
theorem dX7_init_27 : decode cX7_init 27 = .ok (.new 16, 3) := by decide +kernel
theorem dX7_init_30 : decode cX7_init 30 = .ok (.dup, 1) := by decide +kernel
theorem dX7_init_31 : decode cX7_init 31 = .ok (.invokespecial 18, 3) := by decide +kernel
theorem dX7_init_34 : decode cX7_init 34 = .ok (.putfield 23, 3) := by decide +kernel
theorem dX7_init_37 : decode cX7_init 37 = .ok (.aload_n 0, 1) := by decide +kernel
theorem dX7_init_38 : decode cX7_init 38 = .ok (.new 26, 3) := by decide +kernel
theorem dX7_init_41 : decode cX7_init 41 = .ok (.dup, 1) := by decide +kernel
theorem dX7_init_42 : decode cX7_init 42 = .ok (.invokespecial 28, 3) := by decide +kernel
theorem dX7_init_45 : decode cX7_init 45 = .ok (.putfield 29, 3) := by decide +kernel
theorem dX7_init_48 : decode cX7_init 48 = .ok (.aload_n 0, 1) := by decide +kernel
theorem dX7_init_49 : decode cX7_init 49 = .ok (.iconst 2, 1) := by decide +kernel
theorem dX7_init_50 : decode cX7_init 50 = .ok (.anewarray 16, 3) := by decide +kernel
theorem dX7_init_53 : decode cX7_init 53 = .ok (.putfield 33, 3) := by decide +kernel
theorem dX7_init_56 : decode cX7_init 56 = .ok (.iconst 0, 1) := by decide +kernel
theorem dX7_init_57 : decode cX7_init 57 = .ok (.istore_n 1, 1) := by decide +kernel
theorem dX7_init_58 : decode cX7_init 58 = .ok (.iload_n 1, 1) := by decide +kernel
theorem dX7_init_59 : decode cX7_init 59 = .ok (.iconst 2, 1) := by decide +kernel
theorem dX7_init_60 : decode cX7_init 60 = .ok (.if_icmp .ge 22, 3) := by decide +kernel
theorem dX7_init_63 : decode cX7_init 63 = .ok (.aload_n 0, 1) := by decide +kernel
theorem dX7_init_64 : decode cX7_init 64 = .ok (.getfield 33, 3) := by decide +kernel
theorem dX7_init_67 : decode cX7_init 67 = .ok (.iload_n 1, 1) := by decide +kernel
theorem dX7_init_68 : decode cX7_init 68 = .ok (.new 16, 3) := by decide +kernel
theorem dX7_init_71 : decode cX7_init 71 = .ok (.dup, 1) := by decide +kernel
theorem dX7_init_72 : decode cX7_init 72 = .ok (.invokespecial 18, 3) := by decide +kernel
theorem dX7_init_75 : decode cX7_init 75 = .ok (.aastore, 1) := by decide +kernel
theorem dX7_init_76 : decode cX7_init 76 = .ok (.iinc 1 1, 3) := by decide +kernel
theorem dX7_init_79 : decode cX7_init 79 = .ok (.goto (-21), 3) := by decide +kernel
theorem dX7_init_82 : decode cX7_init 82 = .ok (.aload_n 0, 1) := by decide +kernel
theorem dX7_init_83 : decode cX7_init 83 = .ok (.iconst 2, 1) := by decide +kernel
theorem dX7_init_84 : decode cX7_init 84 = .ok (.newarray .boolean, 2) := by decide +kernel
theorem dX7_init_86 : decode cX7_init 86 = .ok (.putfield 37, 3) := by decide +kernel
theorem dX7_init_89 : decode cX7_init 89 = .ok (.aload_n 0, 1) := by decide +kernel
theorem dX7_init_90 : decode cX7_init 90 = .ok (.new 41, 3) := by decide +kernel
theorem dX7_init_93 : decode cX7_init 93 = .ok (.dup, 1) := by decide +kernel
theorem dX7_init_94 : decode cX7_init 94 = .ok (.invokespecial 43, 3) := by decide +kernel
theorem dX7_init_97 : decode cX7_init 97 = .ok (.putfield 44, 3) := by decide +kernel
theorem dX7_init_100 : decode cX7_init 100 = .ok (.aload_n 0, 1) := by decide +kernel
theorem dX7_init_101 : decode cX7_init 101 = .ok (.new 48, 3) := by decide +kernel
theorem dX7_init_104 : decode cX7_init 104 = .ok (.dup, 1) := by decide +kernel
theorem dX7_init_105 : decode cX7_init 105 = .ok (.invokespecial 50, 3) := by decide +kernel
theorem dX7_init_108 : decode cX7_init 108 = .ok (.putfield 51, 3) := by decide +kernel
theorem dX7_init_111 : decode cX7_init 111 = .ok (.aload_n 0, 1) := by decide +kernel
theorem dX7_init_112 : decode cX7_init 112 = .ok (.new 55, 3) := by decide +kernel
theorem dX7_init_115 : decode cX7_init 115 = .ok (.dup, 1) := by decide +kernel
theorem dX7_init_116 : decode cX7_init 116 = .ok (.invokespecial 57, 3) := by decide +kernel
theorem dX7_init_119 : decode cX7_init 119 = .ok (.putfield 58, 3) := by decide +kernel
theorem dX7_init_122 : decode cX7_init 122 = .ok (.aload_n 0, 1) := by decide +kernel
theorem dX7_init_123 : decode cX7_init 123 = .ok (.new 62, 3) := by decide +kernel
theorem dX7_init_126 : decode cX7_init 126 = .ok (.dup, 1) := by decide +kernel
theorem dX7_init_127 : decode cX7_init 127 = .ok (.invokespecial 64, 3) := by decide +kernel
theorem dX7_init_130 : decode cX7_init 130 = .ok (.putfield 65, 3) := by decide +kernel
theorem dX7_init_133 : decode cX7_init 133 = .ok (.aload_n 0, 1) := by decide +kernel
theorem dX7_init_134 : decode cX7_init 134 = .ok (.new 62, 3) := by decide +kernel
theorem dX7_init_137 : decode cX7_init 137 = .ok (.dup, 1) := by decide +kernel
theorem dX7_init_138 : decode cX7_init 138 = .ok (.invokespecial 64, 3) := by decide +kernel
theorem dX7_init_141 : decode cX7_init 141 = .ok (.putfield 69, 3) := by decide +kernel
theorem dX7_init_144 : decode cX7_init 144 = .ok (.return_, 1) := by decide +kernel
set_option maxRecDepth 20000 in
theorem ggX7_type_X7_isOutside : GoodIn wsX7_type wsX7_isOutside := goodIn_r _ [5] (by decide +kernel) (by decide +kernel)
set_option maxRecDepth 20000 in
theorem gX7_type_X7_isOutside : GoodIn wsX7_type (va_wsS RX7 72 yX7_isOutside wsX7_isOutside) := goodIn_app (goodIn_of _ (by decide +kernel)) ggX7_type_X7_isOutside
set_option maxRecDepth 20000 in
theorem ggX7_type_X5_add : GoodIn wsX7_type wsX5_add := goodIn_r _ [10, 11, 12, 28, 29, 30, 31, 32, 33, 34, 35, 36, 37] (by decide +kernel) (by decide +kernel)
set_option maxRecDepth 20000 in
theorem gX7_type_X5_add : GoodIn wsX7_type (wsV RX7 76 RX5 yX5_add wsX5_add) := goodIn_app (goodIn_of _ (by decide +kernel)) ggX7_type_X5_add
set_option maxRecDepth 20000 in
theorem ggX7_type_X5_letters : GoodIn wsX7_type wsX5_letters := goodIn_r _ [16, 11, 28, 29, 30, 31, 32, 33, 34, 35, 36, 37] (by decide +kernel) (by decide +kernel)
set_option maxRecDepth 20000 in
theorem gX7_type_X5_letters : GoodIn wsX7_type (wsV RX7 80 RX5 yX5_letters wsX5_letters) := goodIn_app (goodIn_of _ (by decide +kernel)) ggX7_type_X5_letters
theorem dX7_type_0 : decode cX7_type 0 = .ok (.iload_n 1, 1) := by decide +kernel
theorem dX7_type_1 : decode cX7_type 1 = .ok (.iconst 0, 1) := by decide +kernel
theorem dX7_type_2 : decode cX7_type 2 = .ok (.sipush 255, 3) := by decide +kernel
theorem dX7_type_5 : decode cX7_type 5 = .ok (.invokestatic 72, 3) := by decide +kernel
theorem dX7_type_8 : decode cX7_type 8 = .ok (.ifCond .eq 5, 3) := by decide +kernel
theorem dX7_type_11 : decode cX7_type 11 = .ok (.iconst (-1), 1) := by decide +kernel
theorem dX7_type_12 : decode cX7_type 12 = .ok (.ireturn, 1) := by decide +kernel
theorem dX7_type_13 : decode cX7_type 13 = .ok (.aload_n 0, 1) := by decide +kernel
theorem dX7_type_14 : decode cX7_type 14 = .ok (.getfield 12, 3) := by decide +kernel
theorem dX7_type_17 : decode cX7_type 17 = .ok (.iload_n 1, 1) := by decide +kernel
theorem dX7_type_18 : decode cX7_type 18 = .ok (.invokevirtual 76, 3) := by decide +kernel
theorem dX7_type_21 : decode cX7_type 21 = .ok (.ifCond .eq 13, 3) := by decide +kernel
theorem dX7_type_24 : decode cX7_type 24 = .ok (.aload_n 0, 1) := by decide +kernel
theorem dX7_type_25 : decode cX7_type 25 = .ok (.getfield 12, 3) := by decide +kernel
theorem dX7_type_28 : decode cX7_type 28 = .ok (.invokevirtual 80, 3) := by decide +kernel
theorem dX7_type_31 : decode cX7_type 31 = .ok (.goto 5, 3) := by decide +kernel
theorem dX7_type_34 : decode cX7_type 34 = .ok (.bipush (-3), 2) := by decide +kernel
theorem dX7_type_36 : decode cX7_type 36 = .ok (.ireturn, 1) := by decide +kernel
set_option maxRecDepth 20000 in
theorem ggX7_clear_X5_wipe : GoodIn wsX7_clear wsX5_wipe := goodIn_r _ [6, 7, 19, 20, 21, 22, 23, 24, 25, 26, 27, 28] (by decide +kernel) (by decide +kernel)
set_option maxRecDepth 20000 in
theorem gX7_clear_X5_wipe : GoodIn wsX7_clear (wsV RX7 84 RX5 yX5_wipe wsX5_wipe) := goodIn_app (goodIn_of _ (by decide +kernel)) ggX7_clear_X5_wipe
theorem dX7_clear_0 : decode cX7_clear 0 = .ok (.aload_n 0, 1) := by decide +kernel
theorem dX7_clear_1 : decode cX7_clear 1 = .ok (.getfield 12, 3) := by decide +kernel
theorem dX7_clear_4 : decode cX7_clear 4 = .ok (.invokevirtual 84, 3) := by decide +kernel
theorem dX7_clear_7 : decode cX7_clear 7 = .ok (.ireturn, 1) := by decide +kernel
set_option maxRecDepth 20000 in
theorem ggX7_ring_X5_readInto : GoodIn wsX7_ring wsX5_readInto := goodIn_r _ [12, 13, 14, 15, 16, 17, 18, 19, 20, 21, 22, 11, 23, 24, 25, 26, 27, 28, 29, 30, 31, 32, 33, 34, 35, 36, 37, 38, 39, 40, 41, 42, 43, 44, 45, 46, 47, 48, 49, 50, 51, 52, 53, 54, 55, 56, 57, 58, 59, 60, 61, 62, 63, 64, 65, 66, 67, 68, 69, 70, 71, 72, 73, 74, 75, 76, 77, 78, 79, 80, 81, 82, 83, 84, 85, 86, 87, 88, 89, 90, 91, 92, 93, 94, 95, 96, 97, 98, 99, 100, 101, 102, 103, 104, 105, 106, 146, 147, 148, 149, 150, 151, 152, 153, 154, 155, 156, 157, 158, 159, 160, 161, 162, 163, 164, 165, 166] (by decide +kernel) (by decide +kernel)
set_option maxRecDepth 20000 in
theorem gX7_ring_X5_readInto : GoodIn wsX7_ring (wsV RX7 87 RX5 yX5_readInto wsX5_readInto) := goodIn_app (goodIn_of _ (by decide +kernel)) ggX7_ring_X5_readInto
set_option maxRecDepth 20000 in
theorem ggX7_ring_X5_wipe : GoodIn wsX7_ring wsX5_wipe := goodIn_r _ [110, 24, 146, 147, 148, 149, 150, 151, 152, 153, 154, 155] (by decide +kernel) (by decide +kernel)
set_option maxRecDepth 20000 in
theorem gX7_ring_X5_wipe : GoodIn wsX7_ring (wsV RX7 84 RX5 yX5_wipe wsX5_wipe) := goodIn_app (goodIn_of _ (by decide +kernel)) ggX7_ring_X5_wipe
set_option maxRecDepth 20000 in
theorem ggX7_ring_X6_startAnew : GoodIn wsX7_ring wsX6_startAnew := goodIn_r _ [115, 116, 117, 118, 119, 120, 121, 122, 167, 168, 169] (by decide +kernel) (by decide +kernel)
set_option maxRecDepth 20000 in
theorem gX7_ring_X6_startAnew : GoodIn wsX7_ring (wsV RX7 91 RX6 yX6_startAnew wsX6_startAnew) := goodIn_app (goodIn_of _ (by decide +kernel)) ggX7_ring_X6_startAnew
set_option maxRecDepth 20000 in
theorem ggX7_ring_X3_lose : GoodIn wsX7_ring wsX3_lose := goodIn_r _ [127, 128, 170, 171, 172] (by decide +kernel) (by decide +kernel)
set_option maxRecDepth 20000 in
theorem gX7_ring_X3_lose : GoodIn wsX7_ring (wsV RX7 94 RX3 yX3_lose wsX3_lose) := goodIn_app (goodIn_of _ (by decide +kernel)) ggX7_ring_X3_lose
set_option maxRecDepth 20000 in
theorem ggX7_ring_X0_wipe : GoodIn wsX7_ring wsX0_wipe := goodIn_r _ [133, 134, 173, 174, 175] (by decide +kernel) (by decide +kernel)
set_option maxRecDepth 20000 in
theorem gX7_ring_X0_wipe : GoodIn wsX7_ring (wsV RX7 97 RX0 yX0_wipe wsX0_wipe) := goodIn_app (goodIn_of _ (by decide +kernel)) ggX7_ring_X0_wipe
theorem dX7_ring_0 : decode cX7_ring 0 = .ok (.aload_n 0, 1) := by decide +kernel
theorem dX7_ring_1 : decode cX7_ring 1 = .ok (.getfield 12, 3) := by decide +kernel
theorem dX7_ring_4 : decode cX7_ring 4 = .ok (.aload_n 0, 1) := by decide +kernel
theorem dX7_ring_5 : decode cX7_ring 5 = .ok (.getfield 69, 3) := by decide +kernel
theorem dX7_ring_8 : decode cX7_ring 8 = .ok (.invokevirtual 87, 3) := by decide +kernel
theorem dX7_ring_11 : decode cX7_ring 11 = .ok (.istore_n 1, 1) := by decide +kernel
theorem dX7_ring_12 : decode cX7_ring 12 = .ok (.iload_n 1, 1) := by decide +kernel
theorem dX7_ring_13 : decode cX7_ring 13 = .ok (.ifCond .ge 5, 3) := by decide +kernel
theorem dX7_ring_16 : decode cX7_ring 16 = .ok (.iload_n 1, 1) := by decide +kernel
theorem dX7_ring_17 : decode cX7_ring 17 = .ok (.ireturn, 1) := by decide +kernel
theorem dX7_ring_18 : decode cX7_ring 18 = .ok (.aload_n 0, 1) := by decide +kernel
theorem dX7_ring_19 : decode cX7_ring 19 = .ok (.getfield 69, 3) := by decide +kernel
theorem dX7_ring_22 : decode cX7_ring 22 = .ok (.astore_n 2, 1) := by decide +kernel
theorem dX7_ring_23 : decode cX7_ring 23 = .ok (.aload_n 0, 1) := by decide +kernel
theorem dX7_ring_24 : decode cX7_ring 24 = .ok (.aload_n 0, 1) := by decide +kernel
theorem dX7_ring_25 : decode cX7_ring 25 = .ok (.getfield 65, 3) := by decide +kernel
theorem dX7_ring_28 : decode cX7_ring 28 = .ok (.putfield 69, 3) := by decide +kernel
theorem dX7_ring_31 : decode cX7_ring 31 = .ok (.aload_n 0, 1) := by decide +kernel
theorem dX7_ring_32 : decode cX7_ring 32 = .ok (.aload_n 2, 1) := by decide +kernel
theorem dX7_ring_33 : decode cX7_ring 33 = .ok (.putfield 65, 3) := by decide +kernel
theorem dX7_ring_36 : decode cX7_ring 36 = .ok (.aload_n 0, 1) := by decide +kernel
theorem dX7_ring_37 : decode cX7_ring 37 = .ok (.getfield 12, 3) := by decide +kernel
theorem dX7_ring_40 : decode cX7_ring 40 = .ok (.invokevirtual 84, 3) := by decide +kernel
theorem dX7_ring_43 : decode cX7_ring 43 = .ok (.pop, 1) := by decide +kernel
theorem dX7_ring_44 : decode cX7_ring 44 = .ok (.aload_n 0, 1) := by decide +kernel
theorem dX7_ring_45 : decode cX7_ring 45 = .ok (.getfield 19, 3) := by decide +kernel
theorem dX7_ring_48 : decode cX7_ring 48 = .ok (.invokevirtual 91, 3) := by decide +kernel
theorem dX7_ring_51 : decode cX7_ring 51 = .ok (.aload_n 0, 1) := by decide +kernel
theorem dX7_ring_52 : decode cX7_ring 52 = .ok (.getfield 29, 3) := by decide +kernel
theorem dX7_ring_55 : decode cX7_ring 55 = .ok (.invokevirtual 94, 3) := by decide +kernel
theorem dX7_ring_58 : decode cX7_ring 58 = .ok (.aload_n 0, 1) := by decide +kernel
theorem dX7_ring_59 : decode cX7_ring 59 = .ok (.getfield 44, 3) := by decide +kernel
theorem dX7_ring_62 : decode cX7_ring 62 = .ok (.invokevirtual 97, 3) := by decide +kernel
theorem dX7_ring_65 : decode cX7_ring 65 = .ok (.pop, 1) := by decide +kernel
theorem dX7_ring_66 : decode cX7_ring 66 = .ok (.iconst 0, 1) := by decide +kernel
theorem dX7_ring_67 : decode cX7_ring 67 = .ok (.istore_n 3, 1) := by decide +kernel
theorem dX7_ring_68 : decode cX7_ring 68 = .ok (.iload_n 3, 1) := by decide +kernel
theorem dX7_ring_69 : decode cX7_ring 69 = .ok (.iconst 2, 1) := by decide +kernel
theorem dX7_ring_70 : decode cX7_ring 70 = .ok (.if_icmp .ge 16, 3) := by decide +kernel
theorem dX7_ring_73 : decode cX7_ring 73 = .ok (.aload_n 0, 1) := by decide +kernel
theorem dX7_ring_74 : decode cX7_ring 74 = .ok (.getfield 37, 3) := by decide +kernel
theorem dX7_ring_77 : decode cX7_ring 77 = .ok (.iload_n 3, 1) := by decide +kernel
theorem dX7_ring_78 : decode cX7_ring 78 = .ok (.iconst 0, 1) := by decide +kernel
theorem dX7_ring_79 : decode cX7_ring 79 = .ok (.bastore, 1) := by decide +kernel
theorem dX7_ring_80 : decode cX7_ring 80 = .ok (.iinc 3 1, 3) := by decide +kernel
theorem dX7_ring_83 : decode cX7_ring 83 = .ok (.goto (-15), 3) := by decide +kernel
theorem dX7_ring_86 : decode cX7_ring 86 = .ok (.iload_n 1, 1) := by decide +kernel
theorem dX7_ring_87 : decode cX7_ring 87 = .ok (.ireturn, 1) := by decide +kernel
set_option maxRecDepth 20000 in
theorem ggX7_order_X7_isNoOrder : GoodIn wsX7_order wsX7_isNoOrder := goodIn_r _ [8, 9, 10, 7, 11] (by decide +kernel) (by decide +kernel)
set_option maxRecDepth 20000 in
theorem gX7_order_X7_isNoOrder : GoodIn wsX7_order (va_wsS RX7 98 yX7_isNoOrder wsX7_isNoOrder) := goodIn_app (goodIn_of _ (by decide +kernel)) ggX7_order_X7_isNoOrder
set_option maxRecDepth 20000 in
theorem ggX7_order_X2_drips : GoodIn wsX7_order wsX2_drips := goodIn_r _ [16, 17, 36, 37, 38, 39, 40, 41, 42, 43, 44, 45, 46] (by decide +kernel) (by decide +kernel)
set_option maxRecDepth 20000 in
theorem gX7_order_X2_drips : GoodIn wsX7_order (wsV RX7 108 RX2 yX2_drips wsX2_drips) := goodIn_app (goodIn_of _ (by decide +kernel)) ggX7_order_X2_drips
set_option maxRecDepth 20000 in
theorem ggX7_order_X6_greatestAge : GoodIn wsX7_order wsX6_greatestAge := goodIn_r _ [22, 23, 24, 47, 48, 49] (by decide +kernel) (by decide +kernel)
set_option maxRecDepth 20000 in
theorem gX7_order_X6_greatestAge : GoodIn wsX7_order (wsV RX7 111 RX6 yX6_greatestAge wsX6_greatestAge) := goodIn_app (goodIn_of _ (by decide +kernel)) ggX7_order_X6_greatestAge
theorem dX7_order_0 : decode cX7_order 0 = .ok (.iload_n 1, 1) := by decide +kernel
theorem dX7_order_1 : decode cX7_order 1 = .ok (.invokestatic 98, 3) := by decide +kernel
theorem dX7_order_4 : decode cX7_order 4 = .ok (.ifCond .eq 5, 3) := by decide +kernel
theorem dX7_order_7 : decode cX7_order 7 = .ok (.iconst (-1), 1) := by decide +kernel
theorem dX7_order_8 : decode cX7_order 8 = .ok (.ireturn, 1) := by decide +kernel
theorem dX7_order_9 : decode cX7_order 9 = .ok (.iload_n 2, 1) := by decide +kernel
theorem dX7_order_10 : decode cX7_order 10 = .ok (.tableswitch 76 0 3 #[30, 40, 50, 67], 30) := by decide +kernel
theorem dX7_order_40 : decode cX7_order 40 = .ok (.aload_n 0, 1) := by decide +kernel
theorem dX7_order_41 : decode cX7_order 41 = .ok (.getfield 65, 3) := by decide +kernel
theorem dX7_order_44 : decode cX7_order 44 = .ok (.getfield 101, 3) := by decide +kernel
theorem dX7_order_47 : decode cX7_order 47 = .ok (.iload_n 1, 1) := by decide +kernel
theorem dX7_order_48 : decode cX7_order 48 = .ok (.iaload, 1) := by decide +kernel
theorem dX7_order_49 : decode cX7_order 49 = .ok (.ireturn, 1) := by decide +kernel
theorem dX7_order_50 : decode cX7_order 50 = .ok (.aload_n 0, 1) := by decide +kernel
theorem dX7_order_51 : decode cX7_order 51 = .ok (.getfield 65, 3) := by decide +kernel
theorem dX7_order_54 : decode cX7_order 54 = .ok (.getfield 105, 3) := by decide +kernel
theorem dX7_order_57 : decode cX7_order 57 = .ok (.iload_n 1, 1) := by decide +kernel
theorem dX7_order_58 : decode cX7_order 58 = .ok (.iaload, 1) := by decide +kernel
theorem dX7_order_59 : decode cX7_order 59 = .ok (.ireturn, 1) := by decide +kernel
theorem dX7_order_60 : decode cX7_order 60 = .ok (.aload_n 0, 1) := by decide +kernel
theorem dX7_order_61 : decode cX7_order 61 = .ok (.getfield 65, 3) := by decide +kernel
theorem dX7_order_64 : decode cX7_order 64 = .ok (.iload_n 1, 1) := by decide +kernel
theorem dX7_order_65 : decode cX7_order 65 = .ok (.invokevirtual 108, 3) := by decide +kernel
theorem dX7_order_68 : decode cX7_order 68 = .ok (.ifCond .eq 7, 3) := by decide +kernel
theorem dX7_order_71 : decode cX7_order 71 = .ok (.iconst 1, 1) := by decide +kernel
theorem dX7_order_72 : decode cX7_order 72 = .ok (.goto 4, 3) := by decide +kernel
theorem dX7_order_75 : decode cX7_order 75 = .ok (.iconst 0, 1) := by decide +kernel
theorem dX7_order_76 : decode cX7_order 76 = .ok (.ireturn, 1) := by decide +kernel
theorem dX7_order_77 : decode cX7_order 77 = .ok (.aload_n 0, 1) := by decide +kernel
theorem dX7_order_78 : decode cX7_order 78 = .ok (.getfield 19, 3) := by decide +kernel
theorem dX7_order_81 : decode cX7_order 81 = .ok (.iload_n 1, 1) := by decide +kernel
theorem dX7_order_82 : decode cX7_order 82 = .ok (.invokevirtual 111, 3) := by decide +kernel
theorem dX7_order_85 : decode cX7_order 85 = .ok (.ireturn, 1) := by decide +kernel
theorem dX7_order_86 : decode cX7_order 86 = .ok (.iconst (-1), 1) := by decide +kernel
theorem dX7_order_87 : decode cX7_order 87 = .ok (.ireturn, 1) := by decide +kernel
set_option maxRecDepth 20000 in
theorem ggX7_due_X7_isOutside : GoodIn wsX7_due wsX7_isOutside := goodIn_r _ [8] (by decide +kernel) (by decide +kernel)
set_option maxRecDepth 20000 in
theorem gX7_due_X7_isOutside : GoodIn wsX7_due (va_wsS RX7 72 yX7_isOutside wsX7_isOutside) := goodIn_app (goodIn_of _ (by decide +kernel)) ggX7_due_X7_isOutside
theorem dX7_due_0 : decode cX7_due 0 = .ok (.iload_n 1, 1) := by decide +kernel
theorem dX7_due_1 : decode cX7_due 1 = .ok (.iconst 0, 1) := by decide +kernel
theorem dX7_due_2 : decode cX7_due 2 = .ok (.aload_n 0, 1) := by decide +kernel
theorem dX7_due_3 : decode cX7_due 3 = .ok (.getfield 65, 3) := by decide +kernel
theorem dX7_due_6 : decode cX7_due 6 = .ok (.getfield 115, 3) := by decide +kernel
theorem dX7_due_9 : decode cX7_due 9 = .ok (.iconst 1, 1) := by decide +kernel
theorem dX7_due_10 : decode cX7_due 10 = .ok (.isub, 1) := by decide +kernel
theorem dX7_due_11 : decode cX7_due 11 = .ok (.invokestatic 72, 3) := by decide +kernel
theorem dX7_due_14 : decode cX7_due 14 = .ok (.ifCond .eq 5, 3) := by decide +kernel
theorem dX7_due_17 : decode cX7_due 17 = .ok (.iconst (-1), 1) := by decide +kernel
theorem dX7_due_18 : decode cX7_due 18 = .ok (.ireturn, 1) := by decide +kernel
theorem dX7_due_19 : decode cX7_due 19 = .ok (.iload_n 2, 1) := by decide +kernel
theorem dX7_due_20 : decode cX7_due 20 = .ok (.lookupswitch 48 #[(0, 28), (1, 38)], 28) := by decide +kernel
theorem dX7_due_48 : decode cX7_due 48 = .ok (.aload_n 0, 1) := by decide +kernel
theorem dX7_due_49 : decode cX7_due 49 = .ok (.getfield 65, 3) := by decide +kernel
theorem dX7_due_52 : decode cX7_due 52 = .ok (.getfield 119, 3) := by decide +kernel
theorem dX7_due_55 : decode cX7_due 55 = .ok (.iload_n 1, 1) := by decide +kernel
theorem dX7_due_56 : decode cX7_due 56 = .ok (.iaload, 1) := by decide +kernel
theorem dX7_due_57 : decode cX7_due 57 = .ok (.ireturn, 1) := by decide +kernel
theorem dX7_due_58 : decode cX7_due 58 = .ok (.aload_n 0, 1) := by decide +kernel
theorem dX7_due_59 : decode cX7_due 59 = .ok (.getfield 65, 3) := by decide +kernel
theorem dX7_due_62 : decode cX7_due 62 = .ok (.getfield 122, 3) := by decide +kernel
theorem dX7_due_65 : decode cX7_due 65 = .ok (.iload_n 1, 1) := by decide +kernel
theorem dX7_due_66 : decode cX7_due 66 = .ok (.iaload, 1) := by decide +kernel
theorem dX7_due_67 : decode cX7_due 67 = .ok (.ireturn, 1) := by decide +kernel
theorem dX7_due_68 : decode cX7_due 68 = .ok (.iconst (-1), 1) := by decide +kernel
theorem dX7_due_69 : decode cX7_due 69 = .ok (.ireturn, 1) := by decide +kernel
set_option maxRecDepth 20000 in
theorem ggX7_now_X6_total : GoodIn wsX7_now wsX6_total := goodIn_r _ [12, 13, 14, 15, 11, 16, 17, 18, 40, 41, 42] (by decide +kernel) (by decide +kernel)
set_option maxRecDepth 20000 in
theorem gX7_now_X6_total : GoodIn wsX7_now (wsV RX7 132 RX6 yX6_total wsX6_total) := goodIn_app (goodIn_of _ (by decide +kernel)) ggX7_now_X6_total
set_option maxRecDepth 20000 in
theorem ggX7_now_X6_weightWithLump : GoodIn wsX7_now wsX6_weightWithLump := goodIn_r _ [22, 23, 24, 25, 26, 11, 27, 28, 13, 14, 15, 16, 17, 18, 40, 41, 42, 46, 47, 48, 49, 50, 51, 52, 53, 54, 55, 56] (by decide +kernel) (by decide +kernel)
set_option maxRecDepth 20000 in
theorem gX7_now_X6_weightWithLump : GoodIn wsX7_now (wsV RX7 136 RX6 yX6_weightWithLump wsX6_weightWithLump) := goodIn_app (goodIn_of _ (by decide +kernel)) ggX7_now_X6_weightWithLump
theorem dX7_now_0 : decode cX7_now 0 = .ok (.iload_n 1, 1) := by decide +kernel
theorem dX7_now_1 : decode cX7_now 1 = .ok (.tableswitch 81 0 4 #[35, 44, 52, 60, 72], 35) := by decide +kernel
theorem dX7_now_36 : decode cX7_now 36 = .ok (.aload_n 0, 1) := by decide +kernel
theorem dX7_now_37 : decode cX7_now 37 = .ok (.getfield 19, 3) := by decide +kernel
theorem dX7_now_40 : decode cX7_now 40 = .ok (.getfield 125, 3) := by decide +kernel
theorem dX7_now_43 : decode cX7_now 43 = .ok (.i2l, 1) := by decide +kernel
theorem dX7_now_44 : decode cX7_now 44 = .ok (.lreturn, 1) := by decide +kernel
theorem dX7_now_45 : decode cX7_now 45 = .ok (.aload_n 0, 1) := by decide +kernel
theorem dX7_now_46 : decode cX7_now 46 = .ok (.getfield 19, 3) := by decide +kernel
theorem dX7_now_49 : decode cX7_now 49 = .ok (.getfield 128, 3) := by decide +kernel
theorem dX7_now_52 : decode cX7_now 52 = .ok (.lreturn, 1) := by decide +kernel
theorem dX7_now_53 : decode cX7_now 53 = .ok (.aload_n 0, 1) := by decide +kernel
theorem dX7_now_54 : decode cX7_now 54 = .ok (.getfield 19, 3) := by decide +kernel
theorem dX7_now_57 : decode cX7_now 57 = .ok (.invokevirtual 132, 3) := by decide +kernel
theorem dX7_now_60 : decode cX7_now 60 = .ok (.lreturn, 1) := by decide +kernel
theorem dX7_now_61 : decode cX7_now 61 = .ok (.aload_n 0, 1) := by decide +kernel
theorem dX7_now_62 : decode cX7_now 62 = .ok (.getfield 19, 3) := by decide +kernel
theorem dX7_now_65 : decode cX7_now 65 = .ok (.aload_n 0, 1) := by decide +kernel
theorem dX7_now_66 : decode cX7_now 66 = .ok (.getfield 65, 3) := by decide +kernel
theorem dX7_now_69 : decode cX7_now 69 = .ok (.invokevirtual 136, 3) := by decide +kernel
theorem dX7_now_72 : decode cX7_now 72 = .ok (.lreturn, 1) := by decide +kernel
theorem dX7_now_73 : decode cX7_now 73 = .ok (.aload_n 0, 1) := by decide +kernel
theorem dX7_now_74 : decode cX7_now 74 = .ok (.getfield 29, 3) := by decide +kernel
theorem dX7_now_77 : decode cX7_now 77 = .ok (.getfield 140, 3) := by decide +kernel
theorem dX7_now_80 : decode cX7_now 80 = .ok (.i2l, 1) := by decide +kernel
theorem dX7_now_81 : decode cX7_now 81 = .ok (.lreturn, 1) := by decide +kernel
theorem dX7_now_82 : decode cX7_now 82 = .ok (.ldc2_w 143, 3) := by decide +kernel
theorem dX7_now_85 : decode cX7_now 85 = .ok (.lreturn, 1) := by decide +kernel
set_option maxRecDepth 20000 in
theorem ggX7_night_X3_remember : GoodIn wsX7_night wsX3_remember := goodIn_r _ [10, 11, 12, 13, 14, 15, 16, 17, 18, 19, 20, 21, 22, 23, 24, 25, 26, 27, 28, 29, 63, 64, 65, 60, 61, 62] (by decide +kernel) (by decide +kernel)
set_option maxRecDepth 20000 in
theorem gX7_night_X3_remember : GoodIn wsX7_night (wsV RX7 147 RX3 yX3_remember wsX3_remember) := goodIn_app (goodIn_of _ (by decide +kernel)) ggX7_night_X3_remember
set_option maxRecDepth 20000 in
theorem ggX7_night_X6_passNight : GoodIn wsX7_night wsX6_passNight := goodIn_r _ [33, 28, 34, 23, 35, 36, 37, 38, 39, 40, 41, 42, 43, 44, 21, 45, 46, 47, 16, 48, 60, 61, 62, 66, 67, 68, 69, 70, 71, 72, 73, 74, 75, 76] (by decide +kernel) (by decide +kernel)
set_option maxRecDepth 20000 in
theorem gX7_night_X6_passNight : GoodIn wsX7_night (wsV RX7 151 RX6 yX6_passNight wsX6_passNight) := goodIn_app (goodIn_of _ (by decide +kernel)) ggX7_night_X6_passNight
theorem dX7_night_0 : decode cX7_night 0 = .ok (.aload_n 0, 1) := by decide +kernel
theorem dX7_night_1 : decode cX7_night 1 = .ok (.getfield 19, 3) := by decide +kernel
theorem dX7_night_4 : decode cX7_night 4 = .ok (.getfield 125, 3) := by decide +kernel
theorem dX7_night_7 : decode cX7_night 7 = .ok (.bipush 120, 2) := by decide +kernel
theorem dX7_night_9 : decode cX7_night 9 = .ok (.if_icmp .lt 7, 3) := by decide +kernel
theorem dX7_night_12 : decode cX7_night 12 = .ok (.ldc2_w 145, 3) := by decide +kernel
theorem dX7_night_15 : decode cX7_night 15 = .ok (.lreturn, 1) := by decide +kernel
theorem dX7_night_16 : decode cX7_night 16 = .ok (.aload_n 0, 1) := by decide +kernel
theorem dX7_night_17 : decode cX7_night 17 = .ok (.getfield 29, 3) := by decide +kernel
theorem dX7_night_20 : decode cX7_night 20 = .ok (.aload_n 0, 1) := by decide +kernel
theorem dX7_night_21 : decode cX7_night 21 = .ok (.getfield 19, 3) := by decide +kernel
theorem dX7_night_24 : decode cX7_night 24 = .ok (.invokevirtual 147, 3) := by decide +kernel
theorem dX7_night_27 : decode cX7_night 27 = .ok (.aload_n 0, 1) := by decide +kernel
theorem dX7_night_28 : decode cX7_night 28 = .ok (.getfield 19, 3) := by decide +kernel
theorem dX7_night_31 : decode cX7_night 31 = .ok (.aload_n 0, 1) := by decide +kernel
theorem dX7_night_32 : decode cX7_night 32 = .ok (.getfield 65, 3) := by decide +kernel
theorem dX7_night_35 : decode cX7_night 35 = .ok (.invokevirtual 151, 3) := by decide +kernel
theorem dX7_night_38 : decode cX7_night 38 = .ok (.lreturn, 1) := by decide +kernel
set_option maxRecDepth 20000 in
theorem ggX7_swans_X7_isNoOrder : GoodIn wsX7_swans wsX7_isNoOrder := goodIn_r _ [11, 12, 13, 10, 14] (by decide +kernel) (by decide +kernel)
set_option maxRecDepth 20000 in
theorem gX7_swans_X7_isNoOrder : GoodIn wsX7_swans (va_wsS RX7 98 yX7_isNoOrder wsX7_isNoOrder) := goodIn_app (goodIn_of _ (by decide +kernel)) ggX7_swans_X7_isNoOrder
set_option maxRecDepth 20000 in
theorem ggX7_swans_X7_isOutside : GoodIn wsX7_swans wsX7_isOutside := goodIn_r _ [14] (by decide +kernel) (by decide +kernel)
set_option maxRecDepth 20000 in
theorem gX7_swans_X7_isOutside : GoodIn wsX7_swans (va_wsS RX7 72 yX7_isOutside wsX7_isOutside) := goodIn_app (goodIn_of _ (by decide +kernel)) ggX7_swans_X7_isOutside
set_option maxRecDepth 20000 in
theorem ggX7_swans_X6_ofOrder : GoodIn wsX7_swans wsX6_ofOrder := goodIn_r _ [19, 20, 21, 72, 73, 74] (by decide +kernel) (by decide +kernel)
set_option maxRecDepth 20000 in
theorem gX7_swans_X6_ofOrder : GoodIn wsX7_swans (wsV RX7 155 RX6 yX6_ofOrder wsX6_ofOrder) := goodIn_app (goodIn_of _ (by decide +kernel)) ggX7_swans_X6_ofOrder
set_option maxRecDepth 20000 in
theorem ggX7_swans_X3_remember : GoodIn wsX7_swans wsX3_remember := goodIn_r _ [26, 27, 28, 29, 30, 31, 32, 33, 34, 35, 36, 18, 37, 21, 38, 39, 40, 41, 20, 42, 75, 76, 77, 72, 73, 74] (by decide +kernel) (by decide +kernel)
set_option maxRecDepth 20000 in
theorem gX7_swans_X3_remember : GoodIn wsX7_swans (wsV RX7 147 RX3 yX3_remember wsX3_remember) := goodIn_app (goodIn_of _ (by decide +kernel)) ggX7_swans_X3_remember
set_option maxRecDepth 20000 in
theorem ggX7_swans_X6_takeOldest : GoodIn wsX7_swans wsX6_takeOldest := goodIn_r _ [46, 20, 21, 47, 48, 32, 49, 72, 73, 74] (by decide +kernel) (by decide +kernel)
set_option maxRecDepth 20000 in
theorem gX7_swans_X6_takeOldest : GoodIn wsX7_swans (wsV RX7 159 RX6 yX6_takeOldest wsX6_takeOldest) := goodIn_app (goodIn_of _ (by decide +kernel)) ggX7_swans_X6_takeOldest
theorem dX7_swans_0 : decode cX7_swans 0 = .ok (.iload_n 1, 1) := by decide +kernel
theorem dX7_swans_1 : decode cX7_swans 1 = .ok (.invokestatic 98, 3) := by decide +kernel
theorem dX7_swans_4 : decode cX7_swans 4 = .ok (.ifCond .ne 13, 3) := by decide +kernel
theorem dX7_swans_7 : decode cX7_swans 7 = .ok (.iload_n 2, 1) := by decide +kernel
theorem dX7_swans_8 : decode cX7_swans 8 = .ok (.iconst 1, 1) := by decide +kernel
theorem dX7_swans_9 : decode cX7_swans 9 = .ok (.ldc 154, 2) := by decide +kernel
theorem dX7_swans_11 : decode cX7_swans 11 = .ok (.invokestatic 72, 3) := by decide +kernel
theorem dX7_swans_14 : decode cX7_swans 14 = .ok (.ifCond .eq 7, 3) := by decide +kernel
theorem dX7_swans_17 : decode cX7_swans 17 = .ok (.ldc2_w 143, 3) := by decide +kernel
theorem dX7_swans_20 : decode cX7_swans 20 = .ok (.lreturn, 1) := by decide +kernel
theorem dX7_swans_21 : decode cX7_swans 21 = .ok (.aload_n 0, 1) := by decide +kernel
theorem dX7_swans_22 : decode cX7_swans 22 = .ok (.getfield 19, 3) := by decide +kernel
theorem dX7_swans_25 : decode cX7_swans 25 = .ok (.iload_n 1, 1) := by decide +kernel
theorem dX7_swans_26 : decode cX7_swans 26 = .ok (.invokevirtual 155, 3) := by decide +kernel
theorem dX7_swans_29 : decode cX7_swans 29 = .ok (.iload_n 2, 1) := by decide +kernel
theorem dX7_swans_30 : decode cX7_swans 30 = .ok (.i2l, 1) := by decide +kernel
theorem dX7_swans_31 : decode cX7_swans 31 = .ok (.lcmp, 1) := by decide +kernel
theorem dX7_swans_32 : decode cX7_swans 32 = .ok (.ifCond .ge 7, 3) := by decide +kernel
theorem dX7_swans_35 : decode cX7_swans 35 = .ok (.ldc2_w 145, 3) := by decide +kernel
theorem dX7_swans_38 : decode cX7_swans 38 = .ok (.lreturn, 1) := by decide +kernel
theorem dX7_swans_39 : decode cX7_swans 39 = .ok (.aload_n 0, 1) := by decide +kernel
theorem dX7_swans_40 : decode cX7_swans 40 = .ok (.getfield 29, 3) := by decide +kernel
theorem dX7_swans_43 : decode cX7_swans 43 = .ok (.aload_n 0, 1) := by decide +kernel
theorem dX7_swans_44 : decode cX7_swans 44 = .ok (.getfield 19, 3) := by decide +kernel
theorem dX7_swans_47 : decode cX7_swans 47 = .ok (.invokevirtual 147, 3) := by decide +kernel
theorem dX7_swans_50 : decode cX7_swans 50 = .ok (.aload_n 0, 1) := by decide +kernel
theorem dX7_swans_51 : decode cX7_swans 51 = .ok (.getfield 19, 3) := by decide +kernel
theorem dX7_swans_54 : decode cX7_swans 54 = .ok (.iload_n 1, 1) := by decide +kernel
theorem dX7_swans_55 : decode cX7_swans 55 = .ok (.iload_n 2, 1) := by decide +kernel
theorem dX7_swans_56 : decode cX7_swans 56 = .ok (.i2l, 1) := by decide +kernel
theorem dX7_swans_57 : decode cX7_swans 57 = .ok (.invokevirtual 159, 3) := by decide +kernel
theorem dX7_swans_60 : decode cX7_swans 60 = .ok (.iload_n 2, 1) := by decide +kernel
theorem dX7_swans_61 : decode cX7_swans 61 = .ok (.i2l, 1) := by decide +kernel
theorem dX7_swans_62 : decode cX7_swans 62 = .ok (.aload_n 0, 1) := by decide +kernel
theorem dX7_swans_63 : decode cX7_swans 63 = .ok (.getfield 65, 3) := by decide +kernel
theorem dX7_swans_66 : decode cX7_swans 66 = .ok (.getfield 101, 3) := by decide +kernel
theorem dX7_swans_69 : decode cX7_swans 69 = .ok (.iload_n 1, 1) := by decide +kernel
theorem dX7_swans_70 : decode cX7_swans 70 = .ok (.iaload, 1) := by decide +kernel
theorem dX7_swans_71 : decode cX7_swans 71 = .ok (.i2l, 1) := by decide +kernel
theorem dX7_swans_72 : decode cX7_swans 72 = .ok (.lmul, 1) := by decide +kernel
theorem dX7_swans_73 : decode cX7_swans 73 = .ok (.lreturn, 1) := by decide +kernel
set_option maxRecDepth 20000 in
theorem ggX7_melts_X7_isNoOrder : GoodIn wsX7_melts wsX7_isNoOrder := goodIn_r _ [12, 13, 14, 11, 15] (by decide +kernel) (by decide +kernel)
set_option maxRecDepth 20000 in
theorem gX7_melts_X7_isNoOrder : GoodIn wsX7_melts (va_wsS RX7 98 yX7_isNoOrder wsX7_isNoOrder) := goodIn_app (goodIn_of _ (by decide +kernel)) ggX7_melts_X7_isNoOrder
set_option maxRecDepth 20000 in
theorem ggX7_melts_X7_isOutside : GoodIn wsX7_melts wsX7_isOutside := goodIn_r _ [15] (by decide +kernel) (by decide +kernel)
set_option maxRecDepth 20000 in
theorem gX7_melts_X7_isOutside : GoodIn wsX7_melts (va_wsS RX7 72 yX7_isOutside wsX7_isOutside) := goodIn_app (goodIn_of _ (by decide +kernel)) ggX7_melts_X7_isOutside
set_option maxRecDepth 20000 in
theorem ggX7_melts_X6_ofOrder : GoodIn wsX7_melts wsX6_ofOrder := goodIn_r _ [20, 21, 22, 62, 63, 64] (by decide +kernel) (by decide +kernel)
set_option maxRecDepth 20000 in
theorem gX7_melts_X6_ofOrder : GoodIn wsX7_melts (wsV RX7 155 RX6 yX6_ofOrder wsX6_ofOrder) := goodIn_app (goodIn_of _ (by decide +kernel)) ggX7_melts_X6_ofOrder
set_option maxRecDepth 20000 in
theorem ggX7_melts_X3_remember : GoodIn wsX7_melts wsX3_remember := goodIn_r _ [27, 28, 29, 30, 31, 32, 33, 34, 35, 36, 37, 19, 38, 22, 39, 40, 41, 42, 21, 43, 76, 77, 78, 62, 63, 64] (by decide +kernel) (by decide +kernel)
set_option maxRecDepth 20000 in
theorem gX7_melts_X3_remember : GoodIn wsX7_melts (wsV RX7 147 RX3 yX3_remember wsX3_remember) := goodIn_app (goodIn_of _ (by decide +kernel)) ggX7_melts_X3_remember
set_option maxRecDepth 20000 in
theorem ggX7_melts_X6_takeOldest : GoodIn wsX7_melts wsX6_takeOldest := goodIn_r _ [47, 21, 22, 48, 49, 33, 50, 62, 63, 64] (by decide +kernel) (by decide +kernel)
set_option maxRecDepth 20000 in
theorem gX7_melts_X6_takeOldest : GoodIn wsX7_melts (wsV RX7 159 RX6 yX6_takeOldest wsX6_takeOldest) := goodIn_app (goodIn_of _ (by decide +kernel)) ggX7_melts_X6_takeOldest
theorem dX7_melts_0 : decode cX7_melts 0 = .ok (.iload_n 1, 1) := by decide +kernel
theorem dX7_melts_1 : decode cX7_melts 1 = .ok (.invokestatic 98, 3) := by decide +kernel
theorem dX7_melts_4 : decode cX7_melts 4 = .ok (.ifCond .ne 13, 3) := by decide +kernel
theorem dX7_melts_7 : decode cX7_melts 7 = .ok (.iload_n 2, 1) := by decide +kernel
theorem dX7_melts_8 : decode cX7_melts 8 = .ok (.iconst 1, 1) := by decide +kernel
theorem dX7_melts_9 : decode cX7_melts 9 = .ok (.ldc 154, 2) := by decide +kernel
theorem dX7_melts_11 : decode cX7_melts 11 = .ok (.invokestatic 72, 3) := by decide +kernel
theorem dX7_melts_14 : decode cX7_melts 14 = .ok (.ifCond .eq 7, 3) := by decide +kernel
theorem dX7_melts_17 : decode cX7_melts 17 = .ok (.ldc2_w 143, 3) := by decide +kernel
theorem dX7_melts_20 : decode cX7_melts 20 = .ok (.lreturn, 1) := by decide +kernel
theorem dX7_melts_21 : decode cX7_melts 21 = .ok (.aload_n 0, 1) := by decide +kernel
theorem dX7_melts_22 : decode cX7_melts 22 = .ok (.getfield 19, 3) := by decide +kernel
theorem dX7_melts_25 : decode cX7_melts 25 = .ok (.iload_n 1, 1) := by decide +kernel
theorem dX7_melts_26 : decode cX7_melts 26 = .ok (.invokevirtual 155, 3) := by decide +kernel
theorem dX7_melts_29 : decode cX7_melts 29 = .ok (.iload_n 2, 1) := by decide +kernel
theorem dX7_melts_30 : decode cX7_melts 30 = .ok (.i2l, 1) := by decide +kernel
theorem dX7_melts_31 : decode cX7_melts 31 = .ok (.lcmp, 1) := by decide +kernel
theorem dX7_melts_32 : decode cX7_melts 32 = .ok (.ifCond .ge 7, 3) := by decide +kernel
theorem dX7_melts_35 : decode cX7_melts 35 = .ok (.ldc2_w 145, 3) := by decide +kernel
theorem dX7_melts_38 : decode cX7_melts 38 = .ok (.lreturn, 1) := by decide +kernel
theorem dX7_melts_39 : decode cX7_melts 39 = .ok (.aload_n 0, 1) := by decide +kernel
theorem dX7_melts_40 : decode cX7_melts 40 = .ok (.getfield 29, 3) := by decide +kernel
theorem dX7_melts_43 : decode cX7_melts 43 = .ok (.aload_n 0, 1) := by decide +kernel
theorem dX7_melts_44 : decode cX7_melts 44 = .ok (.getfield 19, 3) := by decide +kernel
theorem dX7_melts_47 : decode cX7_melts 47 = .ok (.invokevirtual 147, 3) := by decide +kernel
theorem dX7_melts_50 : decode cX7_melts 50 = .ok (.aload_n 0, 1) := by decide +kernel
theorem dX7_melts_51 : decode cX7_melts 51 = .ok (.getfield 19, 3) := by decide +kernel
theorem dX7_melts_54 : decode cX7_melts 54 = .ok (.iload_n 1, 1) := by decide +kernel
theorem dX7_melts_55 : decode cX7_melts 55 = .ok (.iload_n 2, 1) := by decide +kernel
theorem dX7_melts_56 : decode cX7_melts 56 = .ok (.i2l, 1) := by decide +kernel
theorem dX7_melts_57 : decode cX7_melts 57 = .ok (.invokevirtual 159, 3) := by decide +kernel
theorem dX7_melts_60 : decode cX7_melts 60 = .ok (.aload_n 0, 1) := by decide +kernel
theorem dX7_melts_61 : decode cX7_melts 61 = .ok (.getfield 19, 3) := by decide +kernel
theorem dX7_melts_64 : decode cX7_melts 64 = .ok (.dup, 1) := by decide +kernel
theorem dX7_melts_65 : decode cX7_melts 65 = .ok (.getfield 128, 3) := by decide +kernel
theorem dX7_melts_68 : decode cX7_melts 68 = .ok (.iload_n 2, 1) := by decide +kernel
theorem dX7_melts_69 : decode cX7_melts 69 = .ok (.i2l, 1) := by decide +kernel
theorem dX7_melts_70 : decode cX7_melts 70 = .ok (.aload_n 0, 1) := by decide +kernel
theorem dX7_melts_71 : decode cX7_melts 71 = .ok (.getfield 65, 3) := by decide +kernel
theorem dX7_melts_74 : decode cX7_melts 74 = .ok (.getfield 101, 3) := by decide +kernel
theorem dX7_melts_77 : decode cX7_melts 77 = .ok (.iload_n 1, 1) := by decide +kernel
theorem dX7_melts_78 : decode cX7_melts 78 = .ok (.iaload, 1) := by decide +kernel
theorem dX7_melts_79 : decode cX7_melts 79 = .ok (.i2l, 1) := by decide +kernel
theorem dX7_melts_80 : decode cX7_melts 80 = .ok (.lmul, 1) := by decide +kernel
theorem dX7_melts_81 : decode cX7_melts 81 = .ok (.ladd, 1) := by decide +kernel
theorem dX7_melts_82 : decode cX7_melts 82 = .ok (.putfield 128, 3) := by decide +kernel
theorem dX7_melts_85 : decode cX7_melts 85 = .ok (.aload_n 0, 1) := by decide +kernel
theorem dX7_melts_86 : decode cX7_melts 86 = .ok (.getfield 19, 3) := by decide +kernel
theorem dX7_melts_89 : decode cX7_melts 89 = .ok (.getfield 128, 3) := by decide +kernel
theorem dX7_melts_92 : decode cX7_melts 92 = .ok (.lreturn, 1) := by decide +kernel
set_option maxRecDepth 20000 in
theorem ggX7_pays_X7_isOutside : GoodIn wsX7_pays wsX7_isOutside := goodIn_r _ [10] (by decide +kernel) (by decide +kernel)
set_option maxRecDepth 20000 in
theorem gX7_pays_X7_isOutside : GoodIn wsX7_pays (va_wsS RX7 72 yX7_isOutside wsX7_isOutside) := goodIn_app (goodIn_of _ (by decide +kernel)) ggX7_pays_X7_isOutside
set_option maxRecDepth 20000 in
theorem ggX7_pays_X3_remember : GoodIn wsX7_pays wsX3_remember := goodIn_r _ [15, 16, 17, 18, 19, 20, 21, 22, 23, 24, 25, 26, 27, 28, 29, 30, 31, 32, 33, 34, 49, 50, 51, 46, 47, 48] (by decide +kernel) (by decide +kernel)
set_option maxRecDepth 20000 in
theorem gX7_pays_X3_remember : GoodIn wsX7_pays (wsV RX7 147 RX3 yX3_remember wsX3_remember) := goodIn_app (goodIn_of _ (by decide +kernel)) ggX7_pays_X3_remember
theorem dX7_pays_0 : decode cX7_pays 0 = .ok (.iload_n 1, 1) := by decide +kernel
theorem dX7_pays_1 : decode cX7_pays 1 = .ok (.iconst 1, 1) := by decide +kernel
theorem dX7_pays_2 : decode cX7_pays 2 = .ok (.ldc 154, 2) := by decide +kernel
theorem dX7_pays_4 : decode cX7_pays 4 = .ok (.invokestatic 72, 3) := by decide +kernel
theorem dX7_pays_7 : decode cX7_pays 7 = .ok (.ifCond .eq 7, 3) := by decide +kernel
theorem dX7_pays_10 : decode cX7_pays 10 = .ok (.ldc2_w 143, 3) := by decide +kernel
theorem dX7_pays_13 : decode cX7_pays 13 = .ok (.lreturn, 1) := by decide +kernel
theorem dX7_pays_14 : decode cX7_pays 14 = .ok (.aload_n 0, 1) := by decide +kernel
theorem dX7_pays_15 : decode cX7_pays 15 = .ok (.getfield 19, 3) := by decide +kernel
theorem dX7_pays_18 : decode cX7_pays 18 = .ok (.getfield 128, 3) := by decide +kernel
theorem dX7_pays_21 : decode cX7_pays 21 = .ok (.iload_n 1, 1) := by decide +kernel
theorem dX7_pays_22 : decode cX7_pays 22 = .ok (.i2l, 1) := by decide +kernel
theorem dX7_pays_23 : decode cX7_pays 23 = .ok (.lcmp, 1) := by decide +kernel
theorem dX7_pays_24 : decode cX7_pays 24 = .ok (.ifCond .ge 7, 3) := by decide +kernel
theorem dX7_pays_27 : decode cX7_pays 27 = .ok (.ldc2_w 145, 3) := by decide +kernel
theorem dX7_pays_30 : decode cX7_pays 30 = .ok (.lreturn, 1) := by decide +kernel
theorem dX7_pays_31 : decode cX7_pays 31 = .ok (.aload_n 0, 1) := by decide +kernel
theorem dX7_pays_32 : decode cX7_pays 32 = .ok (.getfield 29, 3) := by decide +kernel
theorem dX7_pays_35 : decode cX7_pays 35 = .ok (.aload_n 0, 1) := by decide +kernel
theorem dX7_pays_36 : decode cX7_pays 36 = .ok (.getfield 19, 3) := by decide +kernel
theorem dX7_pays_39 : decode cX7_pays 39 = .ok (.invokevirtual 147, 3) := by decide +kernel
theorem dX7_pays_42 : decode cX7_pays 42 = .ok (.aload_n 0, 1) := by decide +kernel
theorem dX7_pays_43 : decode cX7_pays 43 = .ok (.getfield 19, 3) := by decide +kernel
theorem dX7_pays_46 : decode cX7_pays 46 = .ok (.dup, 1) := by decide +kernel
theorem dX7_pays_47 : decode cX7_pays 47 = .ok (.getfield 128, 3) := by decide +kernel
theorem dX7_pays_50 : decode cX7_pays 50 = .ok (.iload_n 1, 1) := by decide +kernel
theorem dX7_pays_51 : decode cX7_pays 51 = .ok (.i2l, 1) := by decide +kernel
theorem dX7_pays_52 : decode cX7_pays 52 = .ok (.lsub, 1) := by decide +kernel
theorem dX7_pays_53 : decode cX7_pays 53 = .ok (.putfield 128, 3) := by decide +kernel
theorem dX7_pays_56 : decode cX7_pays 56 = .ok (.aload_n 0, 1) := by decide +kernel
theorem dX7_pays_57 : decode cX7_pays 57 = .ok (.getfield 19, 3) := by decide +kernel
theorem dX7_pays_60 : decode cX7_pays 60 = .ok (.getfield 128, 3) := by decide +kernel
theorem dX7_pays_63 : decode cX7_pays 63 = .ok (.lreturn, 1) := by decide +kernel
set_option maxRecDepth 20000 in
theorem ggX7_undo_X3_restore : GoodIn wsX7_undo wsX3_restore := goodIn_r _ [8, 9, 10, 11, 12, 13, 14, 15, 16, 17, 18, 19, 20, 21, 22, 23, 35, 36, 37, 38, 39, 40] (by decide +kernel) (by decide +kernel)
set_option maxRecDepth 20000 in
theorem gX7_undo_X3_restore : GoodIn wsX7_undo (wsV RX7 163 RX3 yX3_restore wsX3_restore) := goodIn_app (goodIn_of _ (by decide +kernel)) ggX7_undo_X3_restore
theorem dX7_undo_0 : decode cX7_undo 0 = .ok (.aload_n 0, 1) := by decide +kernel
theorem dX7_undo_1 : decode cX7_undo 1 = .ok (.getfield 29, 3) := by decide +kernel
theorem dX7_undo_4 : decode cX7_undo 4 = .ok (.aload_n 0, 1) := by decide +kernel
theorem dX7_undo_5 : decode cX7_undo 5 = .ok (.getfield 19, 3) := by decide +kernel
theorem dX7_undo_8 : decode cX7_undo 8 = .ok (.invokevirtual 163, 3) := by decide +kernel
theorem dX7_undo_11 : decode cX7_undo 11 = .ok (.ifCond .eq 13, 3) := by decide +kernel
theorem dX7_undo_14 : decode cX7_undo 14 = .ok (.aload_n 0, 1) := by decide +kernel
theorem dX7_undo_15 : decode cX7_undo 15 = .ok (.getfield 29, 3) := by decide +kernel
theorem dX7_undo_18 : decode cX7_undo 18 = .ok (.getfield 140, 3) := by decide +kernel
theorem dX7_undo_21 : decode cX7_undo 21 = .ok (.goto 5, 3) := by decide +kernel
theorem dX7_undo_24 : decode cX7_undo 24 = .ok (.bipush (-2), 2) := by decide +kernel
theorem dX7_undo_26 : decode cX7_undo 26 = .ok (.ireturn, 1) := by decide +kernel
set_option maxRecDepth 20000 in
theorem ggX7_all_X7_isNotToCome : GoodIn wsX7_all wsX7_isNotToCome := goodIn_r _ [9, 3, 10, 11, 12, 8, 13, 68, 69, 70, 71, 72, 73, 74, 75, 76, 77, 78, 79, 80, 81] (by decide +kernel) (by decide +kernel)
set_option maxRecDepth 20000 in
theorem gX7_all_X7_isNotToCome : GoodIn wsX7_all (wsV RX7 167 RX7 yX7_isNotToCome wsX7_isNotToCome) := goodIn_app (goodIn_of _ (by decide +kernel)) ggX7_all_X7_isNotToCome
set_option maxRecDepth 20000 in
theorem ggX7_all_X7_isOutside : GoodIn wsX7_all wsX7_isOutside := goodIn_r _ [13] (by decide +kernel) (by decide +kernel)
set_option maxRecDepth 20000 in
theorem gX7_all_X7_isOutside : GoodIn wsX7_all (va_wsS RX7 72 yX7_isOutside wsX7_isOutside) := goodIn_app (goodIn_of _ (by decide +kernel)) ggX7_all_X7_isOutside
set_option maxRecDepth 20000 in
theorem ggX7_all_X6_becomeLike : GoodIn wsX7_all wsX6_becomeLike := goodIn_r _ [18, 19, 20, 21, 22, 23, 24, 25, 79, 80, 81] (by decide +kernel) (by decide +kernel)
set_option maxRecDepth 20000 in
theorem gX7_all_X6_becomeLike : GoodIn wsX7_all (wsV RX7 170 RX6 yX6_becomeLike wsX6_becomeLike) := goodIn_app (goodIn_of _ (by decide +kernel)) ggX7_all_X6_becomeLike
set_option maxRecDepth 20000 in
theorem ggX7_all_X6_passTo : GoodIn wsX7_all wsX6_passTo := goodIn_r _ [29, 24, 30, 31, 32, 17, 33, 34, 19, 35, 36, 37, 38, 39, 40, 41, 42, 43, 44, 45, 46, 47, 48, 49, 79, 80, 81, 82, 83, 84, 85, 86, 87, 88, 89, 90, 91, 92] (by decide +kernel) (by decide +kernel)
set_option maxRecDepth 20000 in
theorem gX7_all_X6_passTo : GoodIn wsX7_all (wsV RX7 173 RX6 yX6_passTo wsX6_passTo) := goodIn_app (goodIn_of _ (by decide +kernel)) ggX7_all_X6_passTo
set_option maxRecDepth 20000 in
theorem ggX7_all_X6_weightWithLump : GoodIn wsX7_all wsX6_weightWithLump := goodIn_r _ [53, 25, 54, 55, 56, 17, 57, 58, 59, 60, 61, 62, 24, 19, 79, 80, 81, 82, 83, 84, 85, 86, 87, 88, 89, 90, 91, 92] (by decide +kernel) (by decide +kernel)
set_option maxRecDepth 20000 in
theorem gX7_all_X6_weightWithLump : GoodIn wsX7_all (wsV RX7 136 RX6 yX6_weightWithLump wsX6_weightWithLump) := goodIn_app (goodIn_of _ (by decide +kernel)) ggX7_all_X6_weightWithLump
set_option maxRecDepth 20000 in
theorem ggX7_all_X6_total : GoodIn wsX7_all wsX6_total := goodIn_r _ [66, 59, 60, 61, 17, 62, 24, 19, 79, 80, 81] (by decide +kernel) (by decide +kernel)
set_option maxRecDepth 20000 in
theorem gX7_all_X6_total : GoodIn wsX7_all (wsV RX7 132 RX6 yX6_total wsX6_total) := goodIn_app (goodIn_of _ (by decide +kernel)) ggX7_all_X6_total
set_option maxRecDepth 20000 in
theorem ggX7_all_X6_ofOrder : GoodIn wsX7_all wsX6_ofOrder := goodIn_r _ [62, 24, 19, 79, 80, 81] (by decide +kernel) (by decide +kernel)
set_option maxRecDepth 20000 in
theorem gX7_all_X6_ofOrder : GoodIn wsX7_all (wsV RX7 155 RX6 yX6_ofOrder wsX6_ofOrder) := goodIn_app (goodIn_of _ (by decide +kernel)) ggX7_all_X6_ofOrder
theorem dX7_all_0 : decode cX7_all 0 = .ok (.aload_n 0, 1) := by decide +kernel
theorem dX7_all_1 : decode cX7_all 1 = .ok (.iload_n 1, 1) := by decide +kernel
theorem dX7_all_2 : decode cX7_all 2 = .ok (.invokevirtual 167, 3) := by decide +kernel
theorem dX7_all_5 : decode cX7_all 5 = .ok (.ifCond .ne 13, 3) := by decide +kernel
theorem dX7_all_8 : decode cX7_all 8 = .ok (.iload_n 2, 1) := by decide +kernel
theorem dX7_all_9 : decode cX7_all 9 = .ok (.bipush (-2), 2) := by decide +kernel
theorem dX7_all_11 : decode cX7_all 11 = .ok (.iconst 4, 1) := by decide +kernel
theorem dX7_all_12 : decode cX7_all 12 = .ok (.invokestatic 72, 3) := by decide +kernel
theorem dX7_all_15 : decode cX7_all 15 = .ok (.ifCond .eq 7, 3) := by decide +kernel
theorem dX7_all_18 : decode cX7_all 18 = .ok (.ldc2_w 143, 3) := by decide +kernel
theorem dX7_all_21 : decode cX7_all 21 = .ok (.lreturn, 1) := by decide +kernel
theorem dX7_all_22 : decode cX7_all 22 = .ok (.aload_n 0, 1) := by decide +kernel
theorem dX7_all_23 : decode cX7_all 23 = .ok (.getfield 23, 3) := by decide +kernel
theorem dX7_all_26 : decode cX7_all 26 = .ok (.aload_n 0, 1) := by decide +kernel
theorem dX7_all_27 : decode cX7_all 27 = .ok (.getfield 19, 3) := by decide +kernel
theorem dX7_all_30 : decode cX7_all 30 = .ok (.invokevirtual 170, 3) := by decide +kernel
theorem dX7_all_33 : decode cX7_all 33 = .ok (.aload_n 0, 1) := by decide +kernel
theorem dX7_all_34 : decode cX7_all 34 = .ok (.getfield 23, 3) := by decide +kernel
theorem dX7_all_37 : decode cX7_all 37 = .ok (.iload_n 1, 1) := by decide +kernel
theorem dX7_all_38 : decode cX7_all 38 = .ok (.aload_n 0, 1) := by decide +kernel
theorem dX7_all_39 : decode cX7_all 39 = .ok (.getfield 65, 3) := by decide +kernel
theorem dX7_all_42 : decode cX7_all 42 = .ok (.invokevirtual 173, 3) := by decide +kernel
theorem dX7_all_45 : decode cX7_all 45 = .ok (.iload_n 2, 1) := by decide +kernel
theorem dX7_all_46 : decode cX7_all 46 = .ok (.bipush (-2), 2) := by decide +kernel
theorem dX7_all_48 : decode cX7_all 48 = .ok (.if_icmp .ne 15, 3) := by decide +kernel
theorem dX7_all_51 : decode cX7_all 51 = .ok (.aload_n 0, 1) := by decide +kernel
theorem dX7_all_52 : decode cX7_all 52 = .ok (.getfield 23, 3) := by decide +kernel
theorem dX7_all_55 : decode cX7_all 55 = .ok (.aload_n 0, 1) := by decide +kernel
theorem dX7_all_56 : decode cX7_all 56 = .ok (.getfield 65, 3) := by decide +kernel
theorem dX7_all_59 : decode cX7_all 59 = .ok (.invokevirtual 136, 3) := by decide +kernel
theorem dX7_all_62 : decode cX7_all 62 = .ok (.lreturn, 1) := by decide +kernel
theorem dX7_all_63 : decode cX7_all 63 = .ok (.iload_n 2, 1) := by decide +kernel
theorem dX7_all_64 : decode cX7_all 64 = .ok (.iconst (-1), 1) := by decide +kernel
theorem dX7_all_65 : decode cX7_all 65 = .ok (.if_icmp .ne 13, 3) := by decide +kernel
theorem dX7_all_68 : decode cX7_all 68 = .ok (.aload_n 0, 1) := by decide +kernel
theorem dX7_all_69 : decode cX7_all 69 = .ok (.getfield 23, 3) := by decide +kernel
theorem dX7_all_72 : decode cX7_all 72 = .ok (.invokevirtual 132, 3) := by decide +kernel
theorem dX7_all_75 : decode cX7_all 75 = .ok (.goto 11, 3) := by decide +kernel
theorem dX7_all_78 : decode cX7_all 78 = .ok (.aload_n 0, 1) := by decide +kernel
theorem dX7_all_79 : decode cX7_all 79 = .ok (.getfield 23, 3) := by decide +kernel
theorem dX7_all_82 : decode cX7_all 82 = .ok (.iload_n 2, 1) := by decide +kernel
theorem dX7_all_83 : decode cX7_all 83 = .ok (.invokevirtual 155, 3) := by decide +kernel
theorem dX7_all_86 : decode cX7_all 86 = .ok (.lreturn, 1) := by decide +kernel
set_option maxRecDepth 20000 in
theorem ggX7_above_X7_isOutside : GoodIn wsX7_above wsX7_isOutside := goodIn_r _ [9] (by decide +kernel) (by decide +kernel)
set_option maxRecDepth 20000 in
theorem gX7_above_X7_isOutside : GoodIn wsX7_above (va_wsS RX7 72 yX7_isOutside wsX7_isOutside) := goodIn_app (goodIn_of _ (by decide +kernel)) ggX7_above_X7_isOutside
set_option maxRecDepth 20000 in
theorem ggX7_above_X6_becomeLike : GoodIn wsX7_above wsX6_becomeLike := goodIn_r _ [14, 15, 16, 17, 18, 19, 20, 21, 70, 71, 72] (by decide +kernel) (by decide +kernel)
set_option maxRecDepth 20000 in
theorem gX7_above_X6_becomeLike : GoodIn wsX7_above (wsV RX7 170 RX6 yX6_becomeLike wsX6_becomeLike) := goodIn_app (goodIn_of _ (by decide +kernel)) ggX7_above_X6_becomeLike
set_option maxRecDepth 20000 in
theorem ggX7_above_X6_passTo : GoodIn wsX7_above wsX6_passTo := goodIn_r _ [25, 20, 26, 27, 28, 13, 29, 30, 15, 31, 32, 33, 34, 35, 36, 37, 38, 39, 40, 41, 42, 43, 44, 45, 70, 71, 72, 73, 74, 75, 76, 77, 78, 79, 80, 81, 82, 83] (by decide +kernel) (by decide +kernel)
set_option maxRecDepth 20000 in
theorem gX7_above_X6_passTo : GoodIn wsX7_above (wsV RX7 173 RX6 yX6_passTo wsX6_passTo) := goodIn_app (goodIn_of _ (by decide +kernel)) ggX7_above_X6_passTo
set_option maxRecDepth 20000 in
theorem ggX7_above_X6_weightWithLump : GoodIn wsX7_above wsX6_weightWithLump := goodIn_r _ [49, 21, 50, 51, 52, 13, 53, 54, 55, 56, 57, 58, 20, 15, 70, 71, 72, 73, 74, 75, 76, 77, 78, 79, 80, 81, 82, 83] (by decide +kernel) (by decide +kernel)
set_option maxRecDepth 20000 in
theorem gX7_above_X6_weightWithLump : GoodIn wsX7_above (wsV RX7 136 RX6 yX6_weightWithLump wsX6_weightWithLump) := goodIn_app (goodIn_of _ (by decide +kernel)) ggX7_above_X6_weightWithLump
theorem dX7_above_0 : decode cX7_above 0 = .ok (.iload_n 1, 1) := by decide +kernel
theorem dX7_above_1 : decode cX7_above 1 = .ok (.iconst 0, 1) := by decide +kernel
theorem dX7_above_2 : decode cX7_above 2 = .ok (.ldc 177, 2) := by decide +kernel
theorem dX7_above_4 : decode cX7_above 4 = .ok (.invokestatic 72, 3) := by decide +kernel
theorem dX7_above_7 : decode cX7_above 7 = .ok (.ifCond .eq 5, 3) := by decide +kernel
theorem dX7_above_10 : decode cX7_above 10 = .ok (.iconst (-1), 1) := by decide +kernel
theorem dX7_above_11 : decode cX7_above 11 = .ok (.ireturn, 1) := by decide +kernel
theorem dX7_above_12 : decode cX7_above 12 = .ok (.aload_n 0, 1) := by decide +kernel
theorem dX7_above_13 : decode cX7_above 13 = .ok (.getfield 23, 3) := by decide +kernel
theorem dX7_above_16 : decode cX7_above 16 = .ok (.aload_n 0, 1) := by decide +kernel
theorem dX7_above_17 : decode cX7_above 17 = .ok (.getfield 19, 3) := by decide +kernel
theorem dX7_above_20 : decode cX7_above 20 = .ok (.invokevirtual 170, 3) := by decide +kernel
theorem dX7_above_23 : decode cX7_above 23 = .ok (.aload_n 0, 1) := by decide +kernel
theorem dX7_above_24 : decode cX7_above 24 = .ok (.getfield 19, 3) := by decide +kernel
theorem dX7_above_27 : decode cX7_above 27 = .ok (.getfield 125, 3) := by decide +kernel
theorem dX7_above_30 : decode cX7_above 30 = .ok (.istore_n 2, 1) := by decide +kernel
theorem dX7_above_31 : decode cX7_above 31 = .ok (.iload_n 2, 1) := by decide +kernel
theorem dX7_above_32 : decode cX7_above 32 = .ok (.bipush 120, 2) := by decide +kernel
theorem dX7_above_34 : decode cX7_above 34 = .ok (.if_icmp .gt 40, 3) := by decide +kernel
theorem dX7_above_37 : decode cX7_above 37 = .ok (.aload_n 0, 1) := by decide +kernel
theorem dX7_above_38 : decode cX7_above 38 = .ok (.getfield 23, 3) := by decide +kernel
theorem dX7_above_41 : decode cX7_above 41 = .ok (.iload_n 2, 1) := by decide +kernel
theorem dX7_above_42 : decode cX7_above 42 = .ok (.aload_n 0, 1) := by decide +kernel
theorem dX7_above_43 : decode cX7_above 43 = .ok (.getfield 65, 3) := by decide +kernel
theorem dX7_above_46 : decode cX7_above 46 = .ok (.invokevirtual 173, 3) := by decide +kernel
theorem dX7_above_49 : decode cX7_above 49 = .ok (.aload_n 0, 1) := by decide +kernel
theorem dX7_above_50 : decode cX7_above 50 = .ok (.getfield 23, 3) := by decide +kernel
theorem dX7_above_53 : decode cX7_above 53 = .ok (.aload_n 0, 1) := by decide +kernel
theorem dX7_above_54 : decode cX7_above 54 = .ok (.getfield 65, 3) := by decide +kernel
theorem dX7_above_57 : decode cX7_above 57 = .ok (.invokevirtual 136, 3) := by decide +kernel
theorem dX7_above_60 : decode cX7_above 60 = .ok (.iload_n 1, 1) := by decide +kernel
theorem dX7_above_61 : decode cX7_above 61 = .ok (.i2l, 1) := by decide +kernel
theorem dX7_above_62 : decode cX7_above 62 = .ok (.lcmp, 1) := by decide +kernel
theorem dX7_above_63 : decode cX7_above 63 = .ok (.ifCond .le 5, 3) := by decide +kernel
theorem dX7_above_66 : decode cX7_above 66 = .ok (.iload_n 2, 1) := by decide +kernel
theorem dX7_above_67 : decode cX7_above 67 = .ok (.ireturn, 1) := by decide +kernel
theorem dX7_above_68 : decode cX7_above 68 = .ok (.iinc 2 1, 3) := by decide +kernel
theorem dX7_above_71 : decode cX7_above 71 = .ok (.goto (-40), 3) := by decide +kernel
theorem dX7_above_74 : decode cX7_above 74 = .ok (.bipush (-9), 2) := by decide +kernel
theorem dX7_above_76 : decode cX7_above 76 = .ok (.ireturn, 1) := by decide +kernel
set_option maxRecDepth 20000 in
theorem ggX7_least_X7_isOutside : GoodIn wsX7_least wsX7_isOutside := goodIn_r _ [9] (by decide +kernel) (by decide +kernel)
set_option maxRecDepth 20000 in
theorem gX7_least_X7_isOutside : GoodIn wsX7_least (va_wsS RX7 72 yX7_isOutside wsX7_isOutside) := goodIn_app (goodIn_of _ (by decide +kernel)) ggX7_least_X7_isOutside
set_option maxRecDepth 20000 in
theorem ggX7_least_X4_find : GoodIn wsX7_least wsX4_find := goodIn_r _ [14, 15, 16, 17, 18, 19, 20, 21, 22, 23, 24, 25, 26, 13, 27, 28, 29, 30, 31, 32, 33, 34, 35, 36, 37, 38, 39, 40, 41, 56, 57, 58, 59, 60, 61, 62, 63, 64, 65, 66, 53, 54, 55, 67, 68, 69] (by decide +kernel) (by decide +kernel)
set_option maxRecDepth 20000 in
theorem gX7_least_X4_find : GoodIn wsX7_least (wsV RX7 178 RX4 yX4_find wsX4_find) := goodIn_app (goodIn_of _ (by decide +kernel)) ggX7_least_X4_find
theorem dX7_least_0 : decode cX7_least 0 = .ok (.iload_n 1, 1) := by decide +kernel
theorem dX7_least_1 : decode cX7_least 1 = .ok (.iconst 1, 1) := by decide +kernel
theorem dX7_least_2 : decode cX7_least 2 = .ok (.sipush 200, 3) := by decide +kernel
theorem dX7_least_5 : decode cX7_least 5 = .ok (.invokestatic 72, 3) := by decide +kernel
theorem dX7_least_8 : decode cX7_least 8 = .ok (.ifCond .ne 12, 3) := by decide +kernel
theorem dX7_least_11 : decode cX7_least 11 = .ok (.iload_n 2, 1) := by decide +kernel
theorem dX7_least_12 : decode cX7_least 12 = .ok (.iconst (-1), 1) := by decide +kernel
theorem dX7_least_13 : decode cX7_least 13 = .ok (.iconst 4, 1) := by decide +kernel
theorem dX7_least_14 : decode cX7_least 14 = .ok (.invokestatic 72, 3) := by decide +kernel
theorem dX7_least_17 : decode cX7_least 17 = .ok (.ifCond .eq 5, 3) := by decide +kernel
theorem dX7_least_20 : decode cX7_least 20 = .ok (.iconst (-1), 1) := by decide +kernel
theorem dX7_least_21 : decode cX7_least 21 = .ok (.ireturn, 1) := by decide +kernel
theorem dX7_least_22 : decode cX7_least 22 = .ok (.aload_n 0, 1) := by decide +kernel
theorem dX7_least_23 : decode cX7_least 23 = .ok (.getfield 51, 3) := by decide +kernel
theorem dX7_least_26 : decode cX7_least 26 = .ok (.aload_n 0, 1) := by decide +kernel
theorem dX7_least_27 : decode cX7_least 27 = .ok (.getfield 19, 3) := by decide +kernel
theorem dX7_least_30 : decode cX7_least 30 = .ok (.aload_n 0, 1) := by decide +kernel
theorem dX7_least_31 : decode cX7_least 31 = .ok (.getfield 65, 3) := by decide +kernel
theorem dX7_least_34 : decode cX7_least 34 = .ok (.iload_n 1, 1) := by decide +kernel
theorem dX7_least_35 : decode cX7_least 35 = .ok (.invokevirtual 178, 3) := by decide +kernel
theorem dX7_least_38 : decode cX7_least 38 = .ok (.ifCond .ne 6, 3) := by decide +kernel
theorem dX7_least_41 : decode cX7_least 41 = .ok (.bipush (-9), 2) := by decide +kernel
theorem dX7_least_43 : decode cX7_least 43 = .ok (.ireturn, 1) := by decide +kernel
theorem dX7_least_44 : decode cX7_least 44 = .ok (.iload_n 2, 1) := by decide +kernel
theorem dX7_least_45 : decode cX7_least 45 = .ok (.iconst (-1), 1) := by decide +kernel
theorem dX7_least_46 : decode cX7_least 46 = .ok (.if_icmp .ne 13, 3) := by decide +kernel
theorem dX7_least_49 : decode cX7_least 49 = .ok (.aload_n 0, 1) := by decide +kernel
theorem dX7_least_50 : decode cX7_least 50 = .ok (.getfield 51, 3) := by decide +kernel
theorem dX7_least_53 : decode cX7_least 53 = .ok (.getfield 182, 3) := by decide +kernel
theorem dX7_least_56 : decode cX7_least 56 = .ok (.goto 12, 3) := by decide +kernel
theorem dX7_least_59 : decode cX7_least 59 = .ok (.aload_n 0, 1) := by decide +kernel
theorem dX7_least_60 : decode cX7_least 60 = .ok (.getfield 51, 3) := by decide +kernel
theorem dX7_least_63 : decode cX7_least 63 = .ok (.getfield 185, 3) := by decide +kernel
theorem dX7_least_66 : decode cX7_least 66 = .ok (.iload_n 2, 1) := by decide +kernel
theorem dX7_least_67 : decode cX7_least 67 = .ok (.iaload, 1) := by decide +kernel
theorem dX7_least_68 : decode cX7_least 68 = .ok (.ireturn, 1) := by decide +kernel
set_option maxRecDepth 20000 in
theorem ggX7_met_X7_payDues : GoodIn wsX7_met wsX7_payDues := goodIn_r _ [5, 6, 7, 8, 9, 10, 11, 12, 13, 14, 15, 16, 17, 18, 19, 20, 21, 22, 23, 24, 25, 26, 27, 28, 29, 30, 31, 32, 33, 34, 35, 36, 37, 38, 39, 40, 41, 42, 43, 44, 45, 46, 47, 48, 49, 50, 51, 52, 53, 54, 55, 4, 56, 57, 58, 59, 60, 61, 62, 63, 64, 65, 66, 67, 68, 69, 70, 71, 72, 73, 74, 75, 76, 77, 78, 79, 80, 81, 82, 83, 84, 85, 86, 87, 88, 89, 90, 91, 92, 93, 94, 95, 96, 97, 98, 99, 100, 101, 102, 103, 104, 105, 106, 107, 108, 109, 110, 111, 112, 113, 114, 115, 116, 117, 118, 119, 120, 121, 122, 123, 124, 125] (by decide +kernel) (by decide +kernel)
set_option maxRecDepth 20000 in
theorem gX7_met_X7_payDues : GoodIn wsX7_met (wsV RX7 188 RX7 yX7_payDues wsX7_payDues) := goodIn_app (goodIn_of _ (by decide +kernel)) ggX7_met_X7_payDues
theorem dX7_met_0 : decode cX7_met 0 = .ok (.aload_n 0, 1) := by decide +kernel
theorem dX7_met_1 : decode cX7_met 1 = .ok (.invokevirtual 188, 3) := by decide +kernel
theorem dX7_met_4 : decode cX7_met 4 = .ok (.ireturn, 1) := by decide +kernel
set_option maxRecDepth 20000 in
theorem ggX7_left_X7_payDues : GoodIn wsX7_left wsX7_payDues := goodIn_r _ [8, 2, 9, 10, 1, 11, 12, 13, 14, 15, 16, 17, 18, 19, 20, 21, 22, 23, 24, 25, 26, 27, 28, 29, 30, 31, 32, 33, 34, 35, 36, 37, 38, 39, 40, 41, 42, 43, 44, 45, 46, 47, 48, 49, 50, 51, 52, 53, 54, 55, 56, 7, 57, 58, 59, 60, 61, 62, 63, 64, 65, 66, 67, 68, 69, 70, 71, 72, 73, 74, 75, 76, 77, 78, 79, 80, 81, 82, 83, 84, 85, 86, 87, 88, 89, 90, 91, 92, 93, 94, 95, 96, 97, 98, 105, 106, 107, 108, 109, 110, 111, 112, 113, 114, 115, 116, 117, 118, 119, 120, 121, 122, 123, 124, 125, 126, 127, 128, 129, 130, 131, 132] (by decide +kernel) (by decide +kernel)
set_option maxRecDepth 20000 in
theorem gX7_left_X7_payDues : GoodIn wsX7_left (wsV RX7 188 RX7 yX7_payDues wsX7_payDues) := goodIn_app (goodIn_of _ (by decide +kernel)) ggX7_left_X7_payDues
set_option maxRecDepth 20000 in
theorem ggX7_left_X6_weight : GoodIn wsX7_left wsX6_weight := goodIn_r _ [102, 103, 104, 70, 71, 25, 72, 32, 27, 119, 120, 121, 122, 123, 124, 125, 126, 127, 128, 129, 116, 117, 118] (by decide +kernel) (by decide +kernel)
set_option maxRecDepth 20000 in
theorem gX7_left_X6_weight : GoodIn wsX7_left (wsV RX7 191 RX6 yX6_weight wsX6_weight) := goodIn_app (goodIn_of _ (by decide +kernel)) ggX7_left_X6_weight
theorem dX7_left_0 : decode cX7_left 0 = .ok (.aload_n 0, 1) := by decide +kernel
theorem dX7_left_1 : decode cX7_left 1 = .ok (.invokevirtual 188, 3) := by decide +kernel
theorem dX7_left_4 : decode cX7_left 4 = .ok (.bipush (-9), 2) := by decide +kernel
theorem dX7_left_6 : decode cX7_left 6 = .ok (.if_icmp .ne 17, 3) := by decide +kernel
theorem dX7_left_9 : decode cX7_left 9 = .ok (.aload_n 0, 1) := by decide +kernel
theorem dX7_left_10 : decode cX7_left 10 = .ok (.getfield 23, 3) := by decide +kernel
theorem dX7_left_13 : decode cX7_left 13 = .ok (.aload_n 0, 1) := by decide +kernel
theorem dX7_left_14 : decode cX7_left 14 = .ok (.getfield 65, 3) := by decide +kernel
theorem dX7_left_17 : decode cX7_left 17 = .ok (.invokevirtual 191, 3) := by decide +kernel
theorem dX7_left_20 : decode cX7_left 20 = .ok (.goto 6, 3) := by decide +kernel
theorem dX7_left_23 : decode cX7_left 23 = .ok (.ldc2_w 193, 3) := by decide +kernel
theorem dX7_left_26 : decode cX7_left 26 = .ok (.lreturn, 1) := by decide +kernel
set_option maxRecDepth 20000 in
theorem ggX7_age_X7_isOutside : GoodIn wsX7_age wsX7_isOutside := goodIn_r _ [6] (by decide +kernel) (by decide +kernel)
set_option maxRecDepth 20000 in
theorem gX7_age_X7_isOutside : GoodIn wsX7_age (va_wsS RX7 72 yX7_isOutside wsX7_isOutside) := goodIn_app (goodIn_of _ (by decide +kernel)) ggX7_age_X7_isOutside
theorem dX7_age_0 : decode cX7_age 0 = .ok (.iload_n 1, 1) := by decide +kernel
theorem dX7_age_1 : decode cX7_age 1 = .ok (.iconst 1, 1) := by decide +kernel
theorem dX7_age_2 : decode cX7_age 2 = .ok (.bipush 99, 2) := by decide +kernel
theorem dX7_age_4 : decode cX7_age 4 = .ok (.invokestatic 72, 3) := by decide +kernel
theorem dX7_age_7 : decode cX7_age 7 = .ok (.ifCond .eq 5, 3) := by decide +kernel
theorem dX7_age_10 : decode cX7_age 10 = .ok (.iconst (-1), 1) := by decide +kernel
theorem dX7_age_11 : decode cX7_age 11 = .ok (.ireturn, 1) := by decide +kernel
theorem dX7_age_12 : decode cX7_age 12 = .ok (.iconst 0, 1) := by decide +kernel
theorem dX7_age_13 : decode cX7_age 13 = .ok (.istore_n 2, 1) := by decide +kernel
theorem dX7_age_14 : decode cX7_age 14 = .ok (.iconst 0, 1) := by decide +kernel
theorem dX7_age_15 : decode cX7_age 15 = .ok (.istore_n 3, 1) := by decide +kernel
theorem dX7_age_16 : decode cX7_age 16 = .ok (.iload_n 3, 1) := by decide +kernel
theorem dX7_age_17 : decode cX7_age 17 = .ok (.iconst 5, 1) := by decide +kernel
theorem dX7_age_18 : decode cX7_age 18 = .ok (.if_icmp .ge 28, 3) := by decide +kernel
theorem dX7_age_21 : decode cX7_age 21 = .ok (.aload_n 0, 1) := by decide +kernel
theorem dX7_age_22 : decode cX7_age 22 = .ok (.getfield 65, 3) := by decide +kernel
theorem dX7_age_25 : decode cX7_age 25 = .ok (.getfield 101, 3) := by decide +kernel
theorem dX7_age_28 : decode cX7_age 28 = .ok (.iload_n 3, 1) := by decide +kernel
theorem dX7_age_29 : decode cX7_age 29 = .ok (.iaload, 1) := by decide +kernel
theorem dX7_age_30 : decode cX7_age 30 = .ok (.iload_n 1, 1) := by decide +kernel
theorem dX7_age_31 : decode cX7_age 31 = .ok (.if_icmp .ne 9, 3) := by decide +kernel
theorem dX7_age_34 : decode cX7_age 34 = .ok (.iload_n 2, 1) := by decide +kernel
theorem dX7_age_35 : decode cX7_age 35 = .ok (.iconst 1, 1) := by decide +kernel
theorem dX7_age_36 : decode cX7_age 36 = .ok (.iload_n 3, 1) := by decide +kernel
theorem dX7_age_37 : decode cX7_age 37 = .ok (.ishl, 1) := by decide +kernel
theorem dX7_age_38 : decode cX7_age 38 = .ok (.ior, 1) := by decide +kernel
theorem dX7_age_39 : decode cX7_age 39 = .ok (.istore_n 2, 1) := by decide +kernel
theorem dX7_age_40 : decode cX7_age 40 = .ok (.iinc 3 1, 3) := by decide +kernel
theorem dX7_age_43 : decode cX7_age 43 = .ok (.goto (-27), 3) := by decide +kernel
theorem dX7_age_46 : decode cX7_age 46 = .ok (.iload_n 2, 1) := by decide +kernel
theorem dX7_age_47 : decode cX7_age 47 = .ok (.ireturn, 1) := by decide +kernel
set_option maxRecDepth 20000 in
theorem ggX7_first_X7_isNoOrder : GoodIn wsX7_first wsX7_isNoOrder := goodIn_r _ [7, 8, 9, 6, 10] (by decide +kernel) (by decide +kernel)
set_option maxRecDepth 20000 in
theorem gX7_first_X7_isNoOrder : GoodIn wsX7_first (va_wsS RX7 98 yX7_isNoOrder wsX7_isNoOrder) := goodIn_app (goodIn_of _ (by decide +kernel)) ggX7_first_X7_isNoOrder
set_option maxRecDepth 20000 in
theorem ggX7_first_X7_isOutside : GoodIn wsX7_first wsX7_isOutside := goodIn_r _ [10] (by decide +kernel) (by decide +kernel)
set_option maxRecDepth 20000 in
theorem gX7_first_X7_isOutside : GoodIn wsX7_first (va_wsS RX7 72 yX7_isOutside wsX7_isOutside) := goodIn_app (goodIn_of _ (by decide +kernel)) ggX7_first_X7_isOutside
set_option maxRecDepth 20000 in
theorem ggX7_first_X6_startAnew : GoodIn wsX7_first wsX6_startAnew := goodIn_r _ [15, 16, 17, 18, 19, 20, 21, 22, 62, 63, 64] (by decide +kernel) (by decide +kernel)
set_option maxRecDepth 20000 in
theorem gX7_first_X6_startAnew : GoodIn wsX7_first (wsV RX7 91 RX6 yX6_startAnew wsX6_startAnew) := goodIn_app (goodIn_of _ (by decide +kernel)) ggX7_first_X6_startAnew
set_option maxRecDepth 20000 in
theorem ggX7_first_X6_passTo : GoodIn wsX7_first wsX6_passTo := goodIn_r _ [26, 17, 27, 28, 29, 14, 30, 31, 16, 32, 33, 34, 35, 36, 37, 38, 39, 40, 41, 42, 43, 44, 45, 46, 62, 63, 64, 65, 66, 67, 68, 69, 70, 71, 72, 73, 74, 75] (by decide +kernel) (by decide +kernel)
set_option maxRecDepth 20000 in
theorem gX7_first_X6_passTo : GoodIn wsX7_first (wsV RX7 173 RX6 yX6_passTo wsX6_passTo) := goodIn_app (goodIn_of _ (by decide +kernel)) ggX7_first_X6_passTo
set_option maxRecDepth 20000 in
theorem ggX7_first_X6_ofOrder : GoodIn wsX7_first wsX6_ofOrder := goodIn_r _ [50, 17, 16, 62, 63, 64] (by decide +kernel) (by decide +kernel)
set_option maxRecDepth 20000 in
theorem gX7_first_X6_ofOrder : GoodIn wsX7_first (wsV RX7 155 RX6 yX6_ofOrder wsX6_ofOrder) := goodIn_app (goodIn_of _ (by decide +kernel)) ggX7_first_X6_ofOrder
theorem dX7_first_0 : decode cX7_first 0 = .ok (.iload_n 1, 1) := by decide +kernel
theorem dX7_first_1 : decode cX7_first 1 = .ok (.invokestatic 98, 3) := by decide +kernel
theorem dX7_first_4 : decode cX7_first 4 = .ok (.ifCond .ne 13, 3) := by decide +kernel
theorem dX7_first_7 : decode cX7_first 7 = .ok (.iload_n 2, 1) := by decide +kernel
theorem dX7_first_8 : decode cX7_first 8 = .ok (.iconst 1, 1) := by decide +kernel
theorem dX7_first_9 : decode cX7_first 9 = .ok (.ldc 154, 2) := by decide +kernel
theorem dX7_first_11 : decode cX7_first 11 = .ok (.invokestatic 72, 3) := by decide +kernel
theorem dX7_first_14 : decode cX7_first 14 = .ok (.ifCond .eq 5, 3) := by decide +kernel
theorem dX7_first_17 : decode cX7_first 17 = .ok (.iconst (-1), 1) := by decide +kernel
theorem dX7_first_18 : decode cX7_first 18 = .ok (.ireturn, 1) := by decide +kernel
theorem dX7_first_19 : decode cX7_first 19 = .ok (.aload_n 0, 1) := by decide +kernel
theorem dX7_first_20 : decode cX7_first 20 = .ok (.getfield 23, 3) := by decide +kernel
theorem dX7_first_23 : decode cX7_first 23 = .ok (.invokevirtual 91, 3) := by decide +kernel
theorem dX7_first_26 : decode cX7_first 26 = .ok (.iconst 0, 1) := by decide +kernel
theorem dX7_first_27 : decode cX7_first 27 = .ok (.istore_n 3, 1) := by decide +kernel
theorem dX7_first_28 : decode cX7_first 28 = .ok (.iload_n 3, 1) := by decide +kernel
theorem dX7_first_29 : decode cX7_first 29 = .ok (.bipush 120, 2) := by decide +kernel
theorem dX7_first_31 : decode cX7_first 31 = .ok (.if_icmp .gt 37, 3) := by decide +kernel
theorem dX7_first_34 : decode cX7_first 34 = .ok (.aload_n 0, 1) := by decide +kernel
theorem dX7_first_35 : decode cX7_first 35 = .ok (.getfield 23, 3) := by decide +kernel
theorem dX7_first_38 : decode cX7_first 38 = .ok (.iload_n 3, 1) := by decide +kernel
theorem dX7_first_39 : decode cX7_first 39 = .ok (.aload_n 0, 1) := by decide +kernel
theorem dX7_first_40 : decode cX7_first 40 = .ok (.getfield 65, 3) := by decide +kernel
theorem dX7_first_43 : decode cX7_first 43 = .ok (.invokevirtual 173, 3) := by decide +kernel
theorem dX7_first_46 : decode cX7_first 46 = .ok (.aload_n 0, 1) := by decide +kernel
theorem dX7_first_47 : decode cX7_first 47 = .ok (.getfield 23, 3) := by decide +kernel
theorem dX7_first_50 : decode cX7_first 50 = .ok (.iload_n 1, 1) := by decide +kernel
theorem dX7_first_51 : decode cX7_first 51 = .ok (.invokevirtual 155, 3) := by decide +kernel
theorem dX7_first_54 : decode cX7_first 54 = .ok (.iload_n 2, 1) := by decide +kernel
theorem dX7_first_55 : decode cX7_first 55 = .ok (.i2l, 1) := by decide +kernel
theorem dX7_first_56 : decode cX7_first 56 = .ok (.lcmp, 1) := by decide +kernel
theorem dX7_first_57 : decode cX7_first 57 = .ok (.ifCond .lt 5, 3) := by decide +kernel
theorem dX7_first_60 : decode cX7_first 60 = .ok (.iload_n 3, 1) := by decide +kernel
theorem dX7_first_61 : decode cX7_first 61 = .ok (.ireturn, 1) := by decide +kernel
theorem dX7_first_62 : decode cX7_first 62 = .ok (.iinc 3 1, 3) := by decide +kernel
theorem dX7_first_65 : decode cX7_first 65 = .ok (.goto (-37), 3) := by decide +kernel
theorem dX7_first_68 : decode cX7_first 68 = .ok (.bipush (-9), 2) := by decide +kernel
theorem dX7_first_70 : decode cX7_first 70 = .ok (.ireturn, 1) := by decide +kernel
set_option maxRecDepth 20000 in
theorem ggX7_lay_X7_isNoOrder : GoodIn wsX7_lay wsX7_isNoOrder := goodIn_r _ [7, 8, 9, 6, 10] (by decide +kernel) (by decide +kernel)
set_option maxRecDepth 20000 in
theorem gX7_lay_X7_isNoOrder : GoodIn wsX7_lay (va_wsS RX7 98 yX7_isNoOrder wsX7_isNoOrder) := goodIn_app (goodIn_of _ (by decide +kernel)) ggX7_lay_X7_isNoOrder
set_option maxRecDepth 20000 in
theorem ggX7_lay_X7_isOutside : GoodIn wsX7_lay wsX7_isOutside := goodIn_r _ [10] (by decide +kernel) (by decide +kernel)
set_option maxRecDepth 20000 in
theorem gX7_lay_X7_isOutside : GoodIn wsX7_lay (va_wsS RX7 72 yX7_isOutside wsX7_isOutside) := goodIn_app (goodIn_of _ (by decide +kernel)) ggX7_lay_X7_isOutside
set_option maxRecDepth 20000 in
theorem ggX7_lay_X0_add : GoodIn wsX7_lay wsX0_add := goodIn_r _ [15, 16, 17, 18, 30, 31, 32] (by decide +kernel) (by decide +kernel)
set_option maxRecDepth 20000 in
theorem gX7_lay_X0_add : GoodIn wsX7_lay (wsV RX7 195 RX0 yX0_add wsX0_add) := goodIn_app (goodIn_of _ (by decide +kernel)) ggX7_lay_X0_add
theorem dX7_lay_0 : decode cX7_lay 0 = .ok (.iload_n 1, 1) := by decide +kernel
theorem dX7_lay_1 : decode cX7_lay 1 = .ok (.invokestatic 98, 3) := by decide +kernel
theorem dX7_lay_4 : decode cX7_lay 4 = .ok (.ifCond .ne 13, 3) := by decide +kernel
theorem dX7_lay_7 : decode cX7_lay 7 = .ok (.iload_n 2, 1) := by decide +kernel
theorem dX7_lay_8 : decode cX7_lay 8 = .ok (.iconst 0, 1) := by decide +kernel
theorem dX7_lay_9 : decode cX7_lay 9 = .ok (.ldc 154, 2) := by decide +kernel
theorem dX7_lay_11 : decode cX7_lay 11 = .ok (.invokestatic 72, 3) := by decide +kernel
theorem dX7_lay_14 : decode cX7_lay 14 = .ok (.ifCond .eq 5, 3) := by decide +kernel
theorem dX7_lay_17 : decode cX7_lay 17 = .ok (.iconst (-1), 1) := by decide +kernel
theorem dX7_lay_18 : decode cX7_lay 18 = .ok (.ireturn, 1) := by decide +kernel
theorem dX7_lay_19 : decode cX7_lay 19 = .ok (.aload_n 0, 1) := by decide +kernel
theorem dX7_lay_20 : decode cX7_lay 20 = .ok (.getfield 44, 3) := by decide +kernel
theorem dX7_lay_23 : decode cX7_lay 23 = .ok (.iload_n 1, 1) := by decide +kernel
theorem dX7_lay_24 : decode cX7_lay 24 = .ok (.iload_n 2, 1) := by decide +kernel
theorem dX7_lay_25 : decode cX7_lay 25 = .ok (.invokevirtual 195, 3) := by decide +kernel
theorem dX7_lay_28 : decode cX7_lay 28 = .ok (.ifCond .eq 13, 3) := by decide +kernel
theorem dX7_lay_31 : decode cX7_lay 31 = .ok (.aload_n 0, 1) := by decide +kernel
theorem dX7_lay_32 : decode cX7_lay 32 = .ok (.getfield 44, 3) := by decide +kernel
theorem dX7_lay_35 : decode cX7_lay 35 = .ok (.getfield 198, 3) := by decide +kernel
theorem dX7_lay_38 : decode cX7_lay 38 = .ok (.goto 5, 3) := by decide +kernel
theorem dX7_lay_41 : decode cX7_lay 41 = .ok (.bipush (-3), 2) := by decide +kernel
theorem dX7_lay_43 : decode cX7_lay 43 = .ok (.ireturn, 1) := by decide +kernel
set_option maxRecDepth 20000 in
theorem ggX7_forget_X0_wipe : GoodIn wsX7_forget wsX0_wipe := goodIn_r _ [6, 7, 19, 20, 21] (by decide +kernel) (by decide +kernel)
set_option maxRecDepth 20000 in
theorem gX7_forget_X0_wipe : GoodIn wsX7_forget (wsV RX7 97 RX0 yX0_wipe wsX0_wipe) := goodIn_app (goodIn_of _ (by decide +kernel)) ggX7_forget_X0_wipe
theorem dX7_forget_0 : decode cX7_forget 0 = .ok (.aload_n 0, 1) := by decide +kernel
theorem dX7_forget_1 : decode cX7_forget 1 = .ok (.getfield 44, 3) := by decide +kernel
theorem dX7_forget_4 : decode cX7_forget 4 = .ok (.invokevirtual 97, 3) := by decide +kernel
theorem dX7_forget_7 : decode cX7_forget 7 = .ok (.ireturn, 1) := by decide +kernel
set_option maxRecDepth 20000 in
theorem ggX7_mayBe_X7_isOutside : GoodIn wsX7_mayBe wsX7_isOutside := goodIn_r _ [7] (by decide +kernel) (by decide +kernel)
set_option maxRecDepth 20000 in
theorem gX7_mayBe_X7_isOutside : GoodIn wsX7_mayBe (va_wsS RX7 72 yX7_isOutside wsX7_isOutside) := goodIn_app (goodIn_of _ (by decide +kernel)) ggX7_mayBe_X7_isOutside
set_option maxRecDepth 20000 in
theorem ggX7_mayBe_X6_startAnew : GoodIn wsX7_mayBe wsX6_startAnew := goodIn_r _ [12, 13, 14, 15, 16, 17, 18, 19, 67, 68, 69] (by decide +kernel) (by decide +kernel)
set_option maxRecDepth 20000 in
theorem gX7_mayBe_X6_startAnew : GoodIn wsX7_mayBe (wsV RX7 91 RX6 yX6_startAnew wsX6_startAnew) := goodIn_app (goodIn_of _ (by decide +kernel)) ggX7_mayBe_X6_startAnew
set_option maxRecDepth 20000 in
theorem ggX7_mayBe_X6_passTo : GoodIn wsX7_mayBe wsX6_passTo := goodIn_r _ [23, 14, 24, 25, 26, 11, 27, 28, 13, 29, 30, 31, 32, 33, 34, 35, 36, 37, 38, 39, 40, 41, 42, 43, 67, 68, 69, 70, 71, 72, 73, 74, 75, 76, 77, 78, 79, 80] (by decide +kernel) (by decide +kernel)
set_option maxRecDepth 20000 in
theorem gX7_mayBe_X6_passTo : GoodIn wsX7_mayBe (wsV RX7 173 RX6 yX6_passTo wsX6_passTo) := goodIn_app (goodIn_of _ (by decide +kernel)) ggX7_mayBe_X6_passTo
set_option maxRecDepth 20000 in
theorem ggX7_mayBe_X0_fits : GoodIn wsX7_mayBe wsX0_fits := goodIn_r _ [48, 49, 50, 51, 52, 53, 54, 11, 55, 14, 13, 81, 82, 83, 67, 68, 69] (by decide +kernel) (by decide +kernel)
set_option maxRecDepth 20000 in
theorem gX7_mayBe_X0_fits : GoodIn wsX7_mayBe (wsV RX7 201 RX0 yX0_fits wsX0_fits) := goodIn_app (goodIn_of _ (by decide +kernel)) ggX7_mayBe_X0_fits
theorem dX7_mayBe_0 : decode cX7_mayBe 0 = .ok (.iload_n 1, 1) := by decide +kernel
theorem dX7_mayBe_1 : decode cX7_mayBe 1 = .ok (.iconst 0, 1) := by decide +kernel
theorem dX7_mayBe_2 : decode cX7_mayBe 2 = .ok (.iconst 2, 1) := by decide +kernel
theorem dX7_mayBe_3 : decode cX7_mayBe 3 = .ok (.invokestatic 72, 3) := by decide +kernel
theorem dX7_mayBe_6 : decode cX7_mayBe 6 = .ok (.ifCond .eq 5, 3) := by decide +kernel
theorem dX7_mayBe_9 : decode cX7_mayBe 9 = .ok (.iconst (-1), 1) := by decide +kernel
theorem dX7_mayBe_10 : decode cX7_mayBe 10 = .ok (.ireturn, 1) := by decide +kernel
theorem dX7_mayBe_11 : decode cX7_mayBe 11 = .ok (.iconst 0, 1) := by decide +kernel
theorem dX7_mayBe_12 : decode cX7_mayBe 12 = .ok (.istore_n 2, 1) := by decide +kernel
theorem dX7_mayBe_13 : decode cX7_mayBe 13 = .ok (.bipush (-9), 2) := by decide +kernel
theorem dX7_mayBe_15 : decode cX7_mayBe 15 = .ok (.istore_n 3, 1) := by decide +kernel
theorem dX7_mayBe_16 : decode cX7_mayBe 16 = .ok (.bipush (-9), 2) := by decide +kernel
theorem dX7_mayBe_18 : decode cX7_mayBe 18 = .ok (.istore 4, 2) := by decide +kernel
theorem dX7_mayBe_20 : decode cX7_mayBe 20 = .ok (.aload_n 0, 1) := by decide +kernel
theorem dX7_mayBe_21 : decode cX7_mayBe 21 = .ok (.getfield 23, 3) := by decide +kernel
theorem dX7_mayBe_24 : decode cX7_mayBe 24 = .ok (.invokevirtual 91, 3) := by decide +kernel
theorem dX7_mayBe_27 : decode cX7_mayBe 27 = .ok (.iconst 0, 1) := by decide +kernel
theorem dX7_mayBe_28 : decode cX7_mayBe 28 = .ok (.istore 5, 2) := by decide +kernel
theorem dX7_mayBe_30 : decode cX7_mayBe 30 = .ok (.iload 5, 2) := by decide +kernel
theorem dX7_mayBe_32 : decode cX7_mayBe 32 = .ok (.bipush 120, 2) := by decide +kernel
theorem dX7_mayBe_34 : decode cX7_mayBe 34 = .ok (.if_icmp .gt 54, 3) := by decide +kernel
theorem dX7_mayBe_37 : decode cX7_mayBe 37 = .ok (.aload_n 0, 1) := by decide +kernel
theorem dX7_mayBe_38 : decode cX7_mayBe 38 = .ok (.getfield 23, 3) := by decide +kernel
theorem dX7_mayBe_41 : decode cX7_mayBe 41 = .ok (.iload 5, 2) := by decide +kernel
theorem dX7_mayBe_43 : decode cX7_mayBe 43 = .ok (.aload_n 0, 1) := by decide +kernel
theorem dX7_mayBe_44 : decode cX7_mayBe 44 = .ok (.getfield 65, 3) := by decide +kernel
theorem dX7_mayBe_47 : decode cX7_mayBe 47 = .ok (.invokevirtual 173, 3) := by decide +kernel
theorem dX7_mayBe_50 : decode cX7_mayBe 50 = .ok (.aload_n 0, 1) := by decide +kernel
theorem dX7_mayBe_51 : decode cX7_mayBe 51 = .ok (.getfield 44, 3) := by decide +kernel
theorem dX7_mayBe_54 : decode cX7_mayBe 54 = .ok (.aload_n 0, 1) := by decide +kernel
theorem dX7_mayBe_55 : decode cX7_mayBe 55 = .ok (.getfield 23, 3) := by decide +kernel
theorem dX7_mayBe_58 : decode cX7_mayBe 58 = .ok (.invokevirtual 201, 3) := by decide +kernel
theorem dX7_mayBe_61 : decode cX7_mayBe 61 = .ok (.ifCond .eq 21, 3) := by decide +kernel
theorem dX7_mayBe_64 : decode cX7_mayBe 64 = .ok (.iload_n 2, 1) := by decide +kernel
theorem dX7_mayBe_65 : decode cX7_mayBe 65 = .ok (.ifCond .ne 8, 3) := by decide +kernel
theorem dX7_mayBe_68 : decode cX7_mayBe 68 = .ok (.iload 5, 2) := by decide +kernel
theorem dX7_mayBe_70 : decode cX7_mayBe 70 = .ok (.goto 4, 3) := by decide +kernel
theorem dX7_mayBe_73 : decode cX7_mayBe 73 = .ok (.iload_n 3, 1) := by decide +kernel
theorem dX7_mayBe_74 : decode cX7_mayBe 74 = .ok (.istore_n 3, 1) := by decide +kernel
theorem dX7_mayBe_75 : decode cX7_mayBe 75 = .ok (.iload 5, 2) := by decide +kernel
theorem dX7_mayBe_77 : decode cX7_mayBe 77 = .ok (.istore 4, 2) := by decide +kernel
theorem dX7_mayBe_79 : decode cX7_mayBe 79 = .ok (.iinc 2 1, 3) := by decide +kernel
theorem dX7_mayBe_82 : decode cX7_mayBe 82 = .ok (.iinc 5 1, 3) := by decide +kernel
theorem dX7_mayBe_85 : decode cX7_mayBe 85 = .ok (.goto (-55), 3) := by decide +kernel
theorem dX7_mayBe_88 : decode cX7_mayBe 88 = .ok (.iload_n 1, 1) := by decide +kernel
theorem dX7_mayBe_89 : decode cX7_mayBe 89 = .ok (.ifCond .ne 5, 3) := by decide +kernel
theorem dX7_mayBe_92 : decode cX7_mayBe 92 = .ok (.iload_n 2, 1) := by decide +kernel
theorem dX7_mayBe_93 : decode cX7_mayBe 93 = .ok (.ireturn, 1) := by decide +kernel
theorem dX7_mayBe_94 : decode cX7_mayBe 94 = .ok (.iload_n 1, 1) := by decide +kernel
theorem dX7_mayBe_95 : decode cX7_mayBe 95 = .ok (.iconst 1, 1) := by decide +kernel
theorem dX7_mayBe_96 : decode cX7_mayBe 96 = .ok (.if_icmp .ne 7, 3) := by decide +kernel
theorem dX7_mayBe_99 : decode cX7_mayBe 99 = .ok (.iload_n 3, 1) := by decide +kernel
theorem dX7_mayBe_100 : decode cX7_mayBe 100 = .ok (.goto 5, 3) := by decide +kernel
theorem dX7_mayBe_103 : decode cX7_mayBe 103 = .ok (.iload 4, 2) := by decide +kernel
theorem dX7_mayBe_105 : decode cX7_mayBe 105 = .ok (.ireturn, 1) := by decide +kernel
set_option maxRecDepth 20000 in
theorem ggX7_smelt_X7_isNotToCome : GoodIn wsX7_smelt wsX7_isNotToCome := goodIn_r _ [9, 3, 10, 11, 12, 8, 13, 74, 75, 76, 77, 78, 79, 80, 81, 82, 83, 84, 85, 86, 87] (by decide +kernel) (by decide +kernel)
set_option maxRecDepth 20000 in
theorem gX7_smelt_X7_isNotToCome : GoodIn wsX7_smelt (wsV RX7 167 RX7 yX7_isNotToCome wsX7_isNotToCome) := goodIn_app (goodIn_of _ (by decide +kernel)) ggX7_smelt_X7_isNotToCome
set_option maxRecDepth 20000 in
theorem ggX7_smelt_X7_isOutside : GoodIn wsX7_smelt wsX7_isOutside := goodIn_r _ [13] (by decide +kernel) (by decide +kernel)
set_option maxRecDepth 20000 in
theorem gX7_smelt_X7_isOutside : GoodIn wsX7_smelt (va_wsS RX7 72 yX7_isOutside wsX7_isOutside) := goodIn_app (goodIn_of _ (by decide +kernel)) ggX7_smelt_X7_isOutside
set_option maxRecDepth 20000 in
theorem ggX7_smelt_X6_becomeLike : GoodIn wsX7_smelt wsX6_becomeLike := goodIn_r _ [18, 19, 20, 21, 22, 23, 24, 25, 85, 86, 87] (by decide +kernel) (by decide +kernel)
set_option maxRecDepth 20000 in
theorem gX7_smelt_X6_becomeLike : GoodIn wsX7_smelt (wsV RX7 170 RX6 yX6_becomeLike wsX6_becomeLike) := goodIn_app (goodIn_of _ (by decide +kernel)) ggX7_smelt_X6_becomeLike
set_option maxRecDepth 20000 in
theorem ggX7_smelt_X6_passTo : GoodIn wsX7_smelt wsX6_passTo := goodIn_r _ [29, 24, 30, 31, 32, 17, 33, 34, 19, 35, 36, 37, 38, 39, 40, 41, 42, 43, 44, 45, 46, 47, 48, 49, 85, 86, 87, 88, 89, 90, 91, 92, 93, 94, 95, 96, 97, 98] (by decide +kernel) (by decide +kernel)
set_option maxRecDepth 20000 in
theorem gX7_smelt_X6_passTo : GoodIn wsX7_smelt (wsV RX7 173 RX6 yX6_passTo wsX6_passTo) := goodIn_app (goodIn_of _ (by decide +kernel)) ggX7_smelt_X6_passTo
set_option maxRecDepth 20000 in
theorem ggX7_smelt_X6_weightWithLump : GoodIn wsX7_smelt wsX6_weightWithLump := goodIn_r _ [53, 25, 54, 55, 56, 17, 57, 58, 59, 60, 61, 62, 24, 19, 85, 86, 87, 88, 89, 90, 91, 92, 93, 94, 95, 96, 97, 98] (by decide +kernel) (by decide +kernel)
set_option maxRecDepth 20000 in
theorem gX7_smelt_X6_weightWithLump : GoodIn wsX7_smelt (wsV RX7 136 RX6 yX6_weightWithLump wsX6_weightWithLump) := goodIn_app (goodIn_of _ (by decide +kernel)) ggX7_smelt_X6_weightWithLump
set_option maxRecDepth 20000 in
theorem ggX7_smelt_X6_takeAll : GoodIn wsX7_smelt wsX6_takeAll := goodIn_r _ [66, 19, 67, 68, 69, 70, 71, 72, 73, 85, 86, 87] (by decide +kernel) (by decide +kernel)
set_option maxRecDepth 20000 in
theorem gX7_smelt_X6_takeAll : GoodIn wsX7_smelt (wsV RX7 204 RX6 yX6_takeAll wsX6_takeAll) := goodIn_app (goodIn_of _ (by decide +kernel)) ggX7_smelt_X6_takeAll
theorem dX7_smelt_0 : decode cX7_smelt 0 = .ok (.aload_n 0, 1) := by decide +kernel
theorem dX7_smelt_1 : decode cX7_smelt 1 = .ok (.iload_n 1, 1) := by decide +kernel
theorem dX7_smelt_2 : decode cX7_smelt 2 = .ok (.invokevirtual 167, 3) := by decide +kernel
theorem dX7_smelt_5 : decode cX7_smelt 5 = .ok (.ifCond .ne 13, 3) := by decide +kernel
theorem dX7_smelt_8 : decode cX7_smelt 8 = .ok (.iload_n 2, 1) := by decide +kernel
theorem dX7_smelt_9 : decode cX7_smelt 9 = .ok (.iconst 1, 1) := by decide +kernel
theorem dX7_smelt_10 : decode cX7_smelt 10 = .ok (.ldc 177, 2) := by decide +kernel
theorem dX7_smelt_12 : decode cX7_smelt 12 = .ok (.invokestatic 72, 3) := by decide +kernel
theorem dX7_smelt_15 : decode cX7_smelt 15 = .ok (.ifCond .eq 5, 3) := by decide +kernel
theorem dX7_smelt_18 : decode cX7_smelt 18 = .ok (.iconst (-1), 1) := by decide +kernel
theorem dX7_smelt_19 : decode cX7_smelt 19 = .ok (.ireturn, 1) := by decide +kernel
theorem dX7_smelt_20 : decode cX7_smelt 20 = .ok (.aload_n 0, 1) := by decide +kernel
theorem dX7_smelt_21 : decode cX7_smelt 21 = .ok (.getfield 23, 3) := by decide +kernel
theorem dX7_smelt_24 : decode cX7_smelt 24 = .ok (.aload_n 0, 1) := by decide +kernel
theorem dX7_smelt_25 : decode cX7_smelt 25 = .ok (.getfield 19, 3) := by decide +kernel
theorem dX7_smelt_28 : decode cX7_smelt 28 = .ok (.invokevirtual 170, 3) := by decide +kernel
theorem dX7_smelt_31 : decode cX7_smelt 31 = .ok (.aload_n 0, 1) := by decide +kernel
theorem dX7_smelt_32 : decode cX7_smelt 32 = .ok (.getfield 23, 3) := by decide +kernel
theorem dX7_smelt_35 : decode cX7_smelt 35 = .ok (.iload_n 1, 1) := by decide +kernel
theorem dX7_smelt_36 : decode cX7_smelt 36 = .ok (.aload_n 0, 1) := by decide +kernel
theorem dX7_smelt_37 : decode cX7_smelt 37 = .ok (.getfield 65, 3) := by decide +kernel
theorem dX7_smelt_40 : decode cX7_smelt 40 = .ok (.invokevirtual 173, 3) := by decide +kernel
theorem dX7_smelt_43 : decode cX7_smelt 43 = .ok (.aload_n 0, 1) := by decide +kernel
theorem dX7_smelt_44 : decode cX7_smelt 44 = .ok (.getfield 23, 3) := by decide +kernel
theorem dX7_smelt_47 : decode cX7_smelt 47 = .ok (.aload_n 0, 1) := by decide +kernel
theorem dX7_smelt_48 : decode cX7_smelt 48 = .ok (.getfield 65, 3) := by decide +kernel
theorem dX7_smelt_51 : decode cX7_smelt 51 = .ok (.invokevirtual 136, 3) := by decide +kernel
theorem dX7_smelt_54 : decode cX7_smelt 54 = .ok (.iload_n 2, 1) := by decide +kernel
theorem dX7_smelt_55 : decode cX7_smelt 55 = .ok (.i2l, 1) := by decide +kernel
theorem dX7_smelt_56 : decode cX7_smelt 56 = .ok (.lcmp, 1) := by decide +kernel
theorem dX7_smelt_57 : decode cX7_smelt 57 = .ok (.ifCond .gt 5, 3) := by decide +kernel
theorem dX7_smelt_60 : decode cX7_smelt 60 = .ok (.iconst 5, 1) := by decide +kernel
theorem dX7_smelt_61 : decode cX7_smelt 61 = .ok (.ireturn, 1) := by decide +kernel
theorem dX7_smelt_62 : decode cX7_smelt 62 = .ok (.iconst 0, 1) := by decide +kernel
theorem dX7_smelt_63 : decode cX7_smelt 63 = .ok (.istore_n 3, 1) := by decide +kernel
theorem dX7_smelt_64 : decode cX7_smelt 64 = .ok (.iload_n 3, 1) := by decide +kernel
theorem dX7_smelt_65 : decode cX7_smelt 65 = .ok (.iconst 5, 1) := by decide +kernel
theorem dX7_smelt_66 : decode cX7_smelt 66 = .ok (.if_icmp .ge 59, 3) := by decide +kernel
theorem dX7_smelt_69 : decode cX7_smelt 69 = .ok (.aload_n 0, 1) := by decide +kernel
theorem dX7_smelt_70 : decode cX7_smelt 70 = .ok (.getfield 23, 3) := by decide +kernel
theorem dX7_smelt_73 : decode cX7_smelt 73 = .ok (.aload_n 0, 1) := by decide +kernel
theorem dX7_smelt_74 : decode cX7_smelt 74 = .ok (.getfield 19, 3) := by decide +kernel
theorem dX7_smelt_77 : decode cX7_smelt 77 = .ok (.invokevirtual 170, 3) := by decide +kernel
theorem dX7_smelt_80 : decode cX7_smelt 80 = .ok (.aload_n 0, 1) := by decide +kernel
theorem dX7_smelt_81 : decode cX7_smelt 81 = .ok (.getfield 23, 3) := by decide +kernel
theorem dX7_smelt_84 : decode cX7_smelt 84 = .ok (.iload_n 3, 1) := by decide +kernel
theorem dX7_smelt_85 : decode cX7_smelt 85 = .ok (.invokevirtual 204, 3) := by decide +kernel
theorem dX7_smelt_88 : decode cX7_smelt 88 = .ok (.aload_n 0, 1) := by decide +kernel
theorem dX7_smelt_89 : decode cX7_smelt 89 = .ok (.getfield 23, 3) := by decide +kernel
theorem dX7_smelt_92 : decode cX7_smelt 92 = .ok (.iload_n 1, 1) := by decide +kernel
theorem dX7_smelt_93 : decode cX7_smelt 93 = .ok (.aload_n 0, 1) := by decide +kernel
theorem dX7_smelt_94 : decode cX7_smelt 94 = .ok (.getfield 65, 3) := by decide +kernel
theorem dX7_smelt_97 : decode cX7_smelt 97 = .ok (.invokevirtual 173, 3) := by decide +kernel
theorem dX7_smelt_100 : decode cX7_smelt 100 = .ok (.aload_n 0, 1) := by decide +kernel
theorem dX7_smelt_101 : decode cX7_smelt 101 = .ok (.getfield 23, 3) := by decide +kernel
theorem dX7_smelt_104 : decode cX7_smelt 104 = .ok (.aload_n 0, 1) := by decide +kernel
theorem dX7_smelt_105 : decode cX7_smelt 105 = .ok (.getfield 65, 3) := by decide +kernel
theorem dX7_smelt_108 : decode cX7_smelt 108 = .ok (.invokevirtual 136, 3) := by decide +kernel
theorem dX7_smelt_111 : decode cX7_smelt 111 = .ok (.iload_n 2, 1) := by decide +kernel
theorem dX7_smelt_112 : decode cX7_smelt 112 = .ok (.i2l, 1) := by decide +kernel
theorem dX7_smelt_113 : decode cX7_smelt 113 = .ok (.lcmp, 1) := by decide +kernel
theorem dX7_smelt_114 : decode cX7_smelt 114 = .ok (.ifCond .gt 5, 3) := by decide +kernel
theorem dX7_smelt_117 : decode cX7_smelt 117 = .ok (.iload_n 3, 1) := by decide +kernel
theorem dX7_smelt_118 : decode cX7_smelt 118 = .ok (.ireturn, 1) := by decide +kernel
theorem dX7_smelt_119 : decode cX7_smelt 119 = .ok (.iinc 3 1, 3) := by decide +kernel
theorem dX7_smelt_122 : decode cX7_smelt 122 = .ok (.goto (-58), 3) := by decide +kernel
theorem dX7_smelt_125 : decode cX7_smelt 125 = .ok (.bipush (-9), 2) := by decide +kernel
theorem dX7_smelt_127 : decode cX7_smelt 127 = .ok (.ireturn, 1) := by decide +kernel
set_option maxRecDepth 20000 in
theorem ggX7_odds_X7_isNoOrder : GoodIn wsX7_odds wsX7_isNoOrder := goodIn_r _ [6, 7, 8, 5, 9] (by decide +kernel) (by decide +kernel)
set_option maxRecDepth 20000 in
theorem gX7_odds_X7_isNoOrder : GoodIn wsX7_odds (va_wsS RX7 98 yX7_isNoOrder wsX7_isNoOrder) := goodIn_app (goodIn_of _ (by decide +kernel)) ggX7_odds_X7_isNoOrder
set_option maxRecDepth 20000 in
theorem ggX7_odds_X7_isOutside : GoodIn wsX7_odds wsX7_isOutside := goodIn_r _ [9] (by decide +kernel) (by decide +kernel)
set_option maxRecDepth 20000 in
theorem gX7_odds_X7_isOutside : GoodIn wsX7_odds (va_wsS RX7 72 yX7_isOutside wsX7_isOutside) := goodIn_app (goodIn_of _ (by decide +kernel)) ggX7_odds_X7_isOutside
set_option maxRecDepth 20000 in
theorem ggX7_odds_X6_total : GoodIn wsX7_odds wsX6_total := goodIn_r _ [14, 15, 16, 17, 13, 18, 19, 20, 36, 37, 38] (by decide +kernel) (by decide +kernel)
set_option maxRecDepth 20000 in
theorem gX7_odds_X6_total : GoodIn wsX7_odds (wsV RX7 132 RX6 yX6_total wsX6_total) := goodIn_app (goodIn_of _ (by decide +kernel)) ggX7_odds_X6_total
set_option maxRecDepth 20000 in
theorem ggX7_odds_X6_ofOrder : GoodIn wsX7_odds wsX6_ofOrder := goodIn_r _ [18, 19, 20, 36, 37, 38] (by decide +kernel) (by decide +kernel)
set_option maxRecDepth 20000 in
theorem gX7_odds_X6_ofOrder : GoodIn wsX7_odds (wsV RX7 155 RX6 yX6_ofOrder wsX6_ofOrder) := goodIn_app (goodIn_of _ (by decide +kernel)) ggX7_odds_X6_ofOrder
set_option maxRecDepth 20000 in
theorem ggX7_odds_X7_greatestDivisor : GoodIn wsX7_odds wsX7_greatestDivisor := goodIn_r _ [24] (by decide +kernel) (by decide +kernel)
set_option maxRecDepth 20000 in
theorem gX7_odds_X7_greatestDivisor : GoodIn wsX7_odds (va_wsS RX7 208 yX7_greatestDivisor wsX7_greatestDivisor) := goodIn_app (goodIn_of _ (by decide +kernel)) ggX7_odds_X7_greatestDivisor
theorem dX7_odds_0 : decode cX7_odds 0 = .ok (.iload_n 1, 1) := by decide +kernel
theorem dX7_odds_1 : decode cX7_odds 1 = .ok (.invokestatic 98, 3) := by decide +kernel
theorem dX7_odds_4 : decode cX7_odds 4 = .ok (.ifCond .ne 12, 3) := by decide +kernel
theorem dX7_odds_7 : decode cX7_odds 7 = .ok (.iload_n 2, 1) := by decide +kernel
theorem dX7_odds_8 : decode cX7_odds 8 = .ok (.iconst 0, 1) := by decide +kernel
theorem dX7_odds_9 : decode cX7_odds 9 = .ok (.iconst 1, 1) := by decide +kernel
theorem dX7_odds_10 : decode cX7_odds 10 = .ok (.invokestatic 72, 3) := by decide +kernel
theorem dX7_odds_13 : decode cX7_odds 13 = .ok (.ifCond .eq 7, 3) := by decide +kernel
theorem dX7_odds_16 : decode cX7_odds 16 = .ok (.ldc2_w 143, 3) := by decide +kernel
theorem dX7_odds_19 : decode cX7_odds 19 = .ok (.lreturn, 1) := by decide +kernel
theorem dX7_odds_20 : decode cX7_odds 20 = .ok (.aload_n 0, 1) := by decide +kernel
theorem dX7_odds_21 : decode cX7_odds 21 = .ok (.getfield 19, 3) := by decide +kernel
theorem dX7_odds_24 : decode cX7_odds 24 = .ok (.invokevirtual 132, 3) := by decide +kernel
theorem dX7_odds_27 : decode cX7_odds 27 = .ok (.lstore_n 3, 1) := by decide +kernel
theorem dX7_odds_28 : decode cX7_odds 28 = .ok (.lload_n 3, 1) := by decide +kernel
theorem dX7_odds_29 : decode cX7_odds 29 = .ok (.lconst 0, 1) := by decide +kernel
theorem dX7_odds_30 : decode cX7_odds 30 = .ok (.lcmp, 1) := by decide +kernel
theorem dX7_odds_31 : decode cX7_odds 31 = .ok (.ifCond .gt 6, 3) := by decide +kernel
theorem dX7_odds_34 : decode cX7_odds 34 = .ok (.iload_n 2, 1) := by decide +kernel
theorem dX7_odds_35 : decode cX7_odds 35 = .ok (.i2l, 1) := by decide +kernel
theorem dX7_odds_36 : decode cX7_odds 36 = .ok (.lreturn, 1) := by decide +kernel
theorem dX7_odds_37 : decode cX7_odds 37 = .ok (.aload_n 0, 1) := by decide +kernel
theorem dX7_odds_38 : decode cX7_odds 38 = .ok (.getfield 19, 3) := by decide +kernel
theorem dX7_odds_41 : decode cX7_odds 41 = .ok (.iload_n 1, 1) := by decide +kernel
theorem dX7_odds_42 : decode cX7_odds 42 = .ok (.invokevirtual 155, 3) := by decide +kernel
theorem dX7_odds_45 : decode cX7_odds 45 = .ok (.lstore 5, 2) := by decide +kernel
theorem dX7_odds_47 : decode cX7_odds 47 = .ok (.lload_n 3, 1) := by decide +kernel
theorem dX7_odds_48 : decode cX7_odds 48 = .ok (.lload 5, 2) := by decide +kernel
theorem dX7_odds_50 : decode cX7_odds 50 = .ok (.invokestatic 208, 3) := by decide +kernel
theorem dX7_odds_53 : decode cX7_odds 53 = .ok (.lstore 7, 2) := by decide +kernel
theorem dX7_odds_55 : decode cX7_odds 55 = .ok (.lload 7, 2) := by decide +kernel
theorem dX7_odds_57 : decode cX7_odds 57 = .ok (.lconst 0, 1) := by decide +kernel
theorem dX7_odds_58 : decode cX7_odds 58 = .ok (.lcmp, 1) := by decide +kernel
theorem dX7_odds_59 : decode cX7_odds 59 = .ok (.ifCond .gt 6, 3) := by decide +kernel
theorem dX7_odds_62 : decode cX7_odds 62 = .ok (.iload_n 2, 1) := by decide +kernel
theorem dX7_odds_63 : decode cX7_odds 63 = .ok (.i2l, 1) := by decide +kernel
theorem dX7_odds_64 : decode cX7_odds 64 = .ok (.lreturn, 1) := by decide +kernel
theorem dX7_odds_65 : decode cX7_odds 65 = .ok (.iload_n 2, 1) := by decide +kernel
theorem dX7_odds_66 : decode cX7_odds 66 = .ok (.ifCond .ne 11, 3) := by decide +kernel
theorem dX7_odds_69 : decode cX7_odds 69 = .ok (.lload 5, 2) := by decide +kernel
theorem dX7_odds_71 : decode cX7_odds 71 = .ok (.lload 7, 2) := by decide +kernel
theorem dX7_odds_73 : decode cX7_odds 73 = .ok (.ldiv, 1) := by decide +kernel
theorem dX7_odds_74 : decode cX7_odds 74 = .ok (.goto 7, 3) := by decide +kernel
theorem dX7_odds_77 : decode cX7_odds 77 = .ok (.lload_n 3, 1) := by decide +kernel
theorem dX7_odds_78 : decode cX7_odds 78 = .ok (.lload 7, 2) := by decide +kernel
theorem dX7_odds_80 : decode cX7_odds 80 = .ok (.ldiv, 1) := by decide +kernel
theorem dX7_odds_81 : decode cX7_odds 81 = .ok (.lreturn, 1) := by decide +kernel
set_option maxRecDepth 20000 in
theorem ggX7_barley_X7_isOutside : GoodIn wsX7_barley wsX7_isOutside := goodIn_r _ [9] (by decide +kernel) (by decide +kernel)
set_option maxRecDepth 20000 in
theorem gX7_barley_X7_isOutside : GoodIn wsX7_barley (va_wsS RX7 72 yX7_isOutside wsX7_isOutside) := goodIn_app (goodIn_of _ (by decide +kernel)) ggX7_barley_X7_isOutside
set_option maxRecDepth 20000 in
theorem ggX7_barley_X6_weightWithLump : GoodIn wsX7_barley wsX6_weightWithLump := goodIn_r _ [14, 15, 16, 17, 18, 13, 19, 20, 21, 22, 23, 24, 25, 26, 38, 39, 40, 41, 42, 43, 44, 45, 46, 47, 48, 49, 50, 51] (by decide +kernel) (by decide +kernel)
set_option maxRecDepth 20000 in
theorem gX7_barley_X6_weightWithLump : GoodIn wsX7_barley (wsV RX7 136 RX6 yX6_weightWithLump wsX6_weightWithLump) := goodIn_app (goodIn_of _ (by decide +kernel)) ggX7_barley_X6_weightWithLump
theorem dX7_barley_0 : decode cX7_barley 0 = .ok (.iload_n 1, 1) := by decide +kernel
theorem dX7_barley_1 : decode cX7_barley 1 = .ok (.iconst 1, 1) := by decide +kernel
theorem dX7_barley_2 : decode cX7_barley 2 = .ok (.sipush 1000, 3) := by decide +kernel
theorem dX7_barley_5 : decode cX7_barley 5 = .ok (.invokestatic 72, 3) := by decide +kernel
theorem dX7_barley_8 : decode cX7_barley 8 = .ok (.ifCond .ne 13, 3) := by decide +kernel
theorem dX7_barley_11 : decode cX7_barley 11 = .ok (.iload_n 2, 1) := by decide +kernel
theorem dX7_barley_12 : decode cX7_barley 12 = .ok (.iconst 0, 1) := by decide +kernel
theorem dX7_barley_13 : decode cX7_barley 13 = .ok (.ldc 154, 2) := by decide +kernel
theorem dX7_barley_15 : decode cX7_barley 15 = .ok (.invokestatic 72, 3) := by decide +kernel
theorem dX7_barley_18 : decode cX7_barley 18 = .ok (.ifCond .eq 7, 3) := by decide +kernel
theorem dX7_barley_21 : decode cX7_barley 21 = .ok (.ldc2_w 143, 3) := by decide +kernel
theorem dX7_barley_24 : decode cX7_barley 24 = .ok (.lreturn, 1) := by decide +kernel
theorem dX7_barley_25 : decode cX7_barley 25 = .ok (.aload_n 0, 1) := by decide +kernel
theorem dX7_barley_26 : decode cX7_barley 26 = .ok (.getfield 19, 3) := by decide +kernel
theorem dX7_barley_29 : decode cX7_barley 29 = .ok (.aload_n 0, 1) := by decide +kernel
theorem dX7_barley_30 : decode cX7_barley 30 = .ok (.getfield 65, 3) := by decide +kernel
theorem dX7_barley_33 : decode cX7_barley 33 = .ok (.invokevirtual 136, 3) := by decide +kernel
theorem dX7_barley_36 : decode cX7_barley 36 = .ok (.lstore_n 3, 1) := by decide +kernel
theorem dX7_barley_37 : decode cX7_barley 37 = .ok (.lload_n 3, 1) := by decide +kernel
theorem dX7_barley_38 : decode cX7_barley 38 = .ok (.lconst 0, 1) := by decide +kernel
theorem dX7_barley_39 : decode cX7_barley 39 = .ok (.lcmp, 1) := by decide +kernel
theorem dX7_barley_40 : decode cX7_barley 40 = .ok (.ifCond .gt 9, 3) := by decide +kernel
theorem dX7_barley_43 : decode cX7_barley 43 = .ok (.ldc2_w 193, 3) := by decide +kernel
theorem dX7_barley_46 : decode cX7_barley 46 = .ok (.goto 10, 3) := by decide +kernel
theorem dX7_barley_49 : decode cX7_barley 49 = .ok (.iload_n 1, 1) := by decide +kernel
theorem dX7_barley_50 : decode cX7_barley 50 = .ok (.i2l, 1) := by decide +kernel
theorem dX7_barley_51 : decode cX7_barley 51 = .ok (.iload_n 2, 1) := by decide +kernel
theorem dX7_barley_52 : decode cX7_barley 52 = .ok (.i2l, 1) := by decide +kernel
theorem dX7_barley_53 : decode cX7_barley 53 = .ok (.lmul, 1) := by decide +kernel
theorem dX7_barley_54 : decode cX7_barley 54 = .ok (.lload_n 3, 1) := by decide +kernel
theorem dX7_barley_55 : decode cX7_barley 55 = .ok (.ldiv, 1) := by decide +kernel
theorem dX7_barley_56 : decode cX7_barley 56 = .ok (.lreturn, 1) := by decide +kernel
set_option maxRecDepth 20000 in
theorem ggX7_rate_X7_isNoOrder : GoodIn wsX7_rate wsX7_isNoOrder := goodIn_r _ [9, 10, 11, 8, 12] (by decide +kernel) (by decide +kernel)
set_option maxRecDepth 20000 in
theorem gX7_rate_X7_isNoOrder : GoodIn wsX7_rate (va_wsS RX7 98 yX7_isNoOrder wsX7_isNoOrder) := goodIn_app (goodIn_of _ (by decide +kernel)) ggX7_rate_X7_isNoOrder
set_option maxRecDepth 20000 in
theorem ggX7_rate_X1_rateAs : GoodIn wsX7_rate wsX1_rateAs := goodIn_r _ [17, 18, 19, 20, 21, 16, 22, 23, 24, 25, 26, 27, 28, 29, 30, 31, 32, 33, 34, 35, 36, 37, 38, 39, 40, 41, 42, 43, 44, 45, 46, 47, 48, 49, 50, 51, 66, 67, 68, 69, 70, 71, 72, 73, 74, 75, 76, 77] (by decide +kernel) (by decide +kernel)
set_option maxRecDepth 20000 in
theorem gX7_rate_X1_rateAs : GoodIn wsX7_rate (wsV RX7 213 RX1 yX1_rateAs wsX1_rateAs) := goodIn_app (goodIn_of _ (by decide +kernel)) ggX7_rate_X1_rateAs
theorem dX7_rate_0 : decode cX7_rate 0 = .ok (.iload_n 2, 1) := by decide +kernel
theorem dX7_rate_1 : decode cX7_rate 1 = .ok (.invokestatic 98, 3) := by decide +kernel
theorem dX7_rate_4 : decode cX7_rate 4 = .ok (.ifCond .eq 8, 3) := by decide +kernel
theorem dX7_rate_7 : decode cX7_rate 7 = .ok (.ldc 212, 2) := by decide +kernel
theorem dX7_rate_9 : decode cX7_rate 9 = .ok (.goto 23, 3) := by decide +kernel
theorem dX7_rate_12 : decode cX7_rate 12 = .ok (.aload_n 0, 1) := by decide +kernel
theorem dX7_rate_13 : decode cX7_rate 13 = .ok (.getfield 58, 3) := by decide +kernel
theorem dX7_rate_16 : decode cX7_rate 16 = .ok (.iload_n 1, 1) := by decide +kernel
theorem dX7_rate_17 : decode cX7_rate 17 = .ok (.iload_n 2, 1) := by decide +kernel
theorem dX7_rate_18 : decode cX7_rate 18 = .ok (.aload_n 0, 1) := by decide +kernel
theorem dX7_rate_19 : decode cX7_rate 19 = .ok (.getfield 65, 3) := by decide +kernel
theorem dX7_rate_22 : decode cX7_rate 22 = .ok (.aload_n 0, 1) := by decide +kernel
theorem dX7_rate_23 : decode cX7_rate 23 = .ok (.getfield 19, 3) := by decide +kernel
theorem dX7_rate_26 : decode cX7_rate 26 = .ok (.getfield 125, 3) := by decide +kernel
theorem dX7_rate_29 : decode cX7_rate 29 = .ok (.invokevirtual 213, 3) := by decide +kernel
theorem dX7_rate_32 : decode cX7_rate 32 = .ok (.ireturn, 1) := by decide +kernel
set_option maxRecDepth 20000 in
theorem ggX7_keep_X7_isOutside : GoodIn wsX7_keep wsX7_isOutside := goodIn_r _ [8] (by decide +kernel) (by decide +kernel)
set_option maxRecDepth 20000 in
theorem gX7_keep_X7_isOutside : GoodIn wsX7_keep (va_wsS RX7 72 yX7_isOutside wsX7_isOutside) := goodIn_app (goodIn_of _ (by decide +kernel)) ggX7_keep_X7_isOutside
set_option maxRecDepth 20000 in
theorem ggX7_keep_X6_becomeLike : GoodIn wsX7_keep wsX6_becomeLike := goodIn_r _ [13, 14, 15, 16, 17, 18, 19, 20, 32, 33, 34] (by decide +kernel) (by decide +kernel)
set_option maxRecDepth 20000 in
theorem gX7_keep_X6_becomeLike : GoodIn wsX7_keep (wsV RX7 170 RX6 yX6_becomeLike wsX6_becomeLike) := goodIn_app (goodIn_of _ (by decide +kernel)) ggX7_keep_X6_becomeLike
theorem dX7_keep_0 : decode cX7_keep 0 = .ok (.iload_n 1, 1) := by decide +kernel
theorem dX7_keep_1 : decode cX7_keep 1 = .ok (.iconst 0, 1) := by decide +kernel
theorem dX7_keep_2 : decode cX7_keep 2 = .ok (.iconst 1, 1) := by decide +kernel
theorem dX7_keep_3 : decode cX7_keep 3 = .ok (.invokestatic 72, 3) := by decide +kernel
theorem dX7_keep_6 : decode cX7_keep 6 = .ok (.ifCond .eq 5, 3) := by decide +kernel
theorem dX7_keep_9 : decode cX7_keep 9 = .ok (.iconst (-1), 1) := by decide +kernel
theorem dX7_keep_10 : decode cX7_keep 10 = .ok (.ireturn, 1) := by decide +kernel
theorem dX7_keep_11 : decode cX7_keep 11 = .ok (.aload_n 0, 1) := by decide +kernel
theorem dX7_keep_12 : decode cX7_keep 12 = .ok (.getfield 33, 3) := by decide +kernel
theorem dX7_keep_15 : decode cX7_keep 15 = .ok (.iload_n 1, 1) := by decide +kernel
theorem dX7_keep_16 : decode cX7_keep 16 = .ok (.aaload, 1) := by decide +kernel
theorem dX7_keep_17 : decode cX7_keep 17 = .ok (.aload_n 0, 1) := by decide +kernel
theorem dX7_keep_18 : decode cX7_keep 18 = .ok (.getfield 19, 3) := by decide +kernel
theorem dX7_keep_21 : decode cX7_keep 21 = .ok (.invokevirtual 170, 3) := by decide +kernel
theorem dX7_keep_24 : decode cX7_keep 24 = .ok (.aload_n 0, 1) := by decide +kernel
theorem dX7_keep_25 : decode cX7_keep 25 = .ok (.getfield 37, 3) := by decide +kernel
theorem dX7_keep_28 : decode cX7_keep 28 = .ok (.iload_n 1, 1) := by decide +kernel
theorem dX7_keep_29 : decode cX7_keep 29 = .ok (.iconst 1, 1) := by decide +kernel
theorem dX7_keep_30 : decode cX7_keep 30 = .ok (.bastore, 1) := by decide +kernel
theorem dX7_keep_31 : decode cX7_keep 31 = .ok (.aload_n 0, 1) := by decide +kernel
theorem dX7_keep_32 : decode cX7_keep 32 = .ok (.getfield 19, 3) := by decide +kernel
theorem dX7_keep_35 : decode cX7_keep 35 = .ok (.getfield 125, 3) := by decide +kernel
theorem dX7_keep_38 : decode cX7_keep 38 = .ok (.ireturn, 1) := by decide +kernel
set_option maxRecDepth 20000 in
theorem ggX7_back_X7_isOutside : GoodIn wsX7_back wsX7_isOutside := goodIn_r _ [9] (by decide +kernel) (by decide +kernel)
set_option maxRecDepth 20000 in
theorem gX7_back_X7_isOutside : GoodIn wsX7_back (va_wsS RX7 72 yX7_isOutside wsX7_isOutside) := goodIn_app (goodIn_of _ (by decide +kernel)) ggX7_back_X7_isOutside
set_option maxRecDepth 20000 in
theorem ggX7_back_X6_becomeLike : GoodIn wsX7_back wsX6_becomeLike := goodIn_r _ [14, 15, 16, 17, 18, 19, 20, 21, 39, 40, 41] (by decide +kernel) (by decide +kernel)
set_option maxRecDepth 20000 in
theorem gX7_back_X6_becomeLike : GoodIn wsX7_back (wsV RX7 170 RX6 yX6_becomeLike wsX6_becomeLike) := goodIn_app (goodIn_of _ (by decide +kernel)) ggX7_back_X6_becomeLike
set_option maxRecDepth 20000 in
theorem ggX7_back_X3_lose : GoodIn wsX7_back wsX3_lose := goodIn_r _ [26, 27, 42, 43, 44] (by decide +kernel) (by decide +kernel)
set_option maxRecDepth 20000 in
theorem gX7_back_X3_lose : GoodIn wsX7_back (wsV RX7 94 RX3 yX3_lose wsX3_lose) := goodIn_app (goodIn_of _ (by decide +kernel)) ggX7_back_X3_lose
theorem dX7_back_0 : decode cX7_back 0 = .ok (.iload_n 1, 1) := by decide +kernel
theorem dX7_back_1 : decode cX7_back 1 = .ok (.iconst 0, 1) := by decide +kernel
theorem dX7_back_2 : decode cX7_back 2 = .ok (.iconst 1, 1) := by decide +kernel
theorem dX7_back_3 : decode cX7_back 3 = .ok (.invokestatic 72, 3) := by decide +kernel
theorem dX7_back_6 : decode cX7_back 6 = .ok (.ifCond .eq 5, 3) := by decide +kernel
theorem dX7_back_9 : decode cX7_back 9 = .ok (.iconst (-1), 1) := by decide +kernel
theorem dX7_back_10 : decode cX7_back 10 = .ok (.ireturn, 1) := by decide +kernel
theorem dX7_back_11 : decode cX7_back 11 = .ok (.aload_n 0, 1) := by decide +kernel
theorem dX7_back_12 : decode cX7_back 12 = .ok (.getfield 37, 3) := by decide +kernel
theorem dX7_back_15 : decode cX7_back 15 = .ok (.iload_n 1, 1) := by decide +kernel
theorem dX7_back_16 : decode cX7_back 16 = .ok (.baload, 1) := by decide +kernel
theorem dX7_back_17 : decode cX7_back 17 = .ok (.ifCond .ne 6, 3) := by decide +kernel
theorem dX7_back_20 : decode cX7_back 20 = .ok (.bipush (-2), 2) := by decide +kernel
theorem dX7_back_22 : decode cX7_back 22 = .ok (.ireturn, 1) := by decide +kernel
theorem dX7_back_23 : decode cX7_back 23 = .ok (.aload_n 0, 1) := by decide +kernel
theorem dX7_back_24 : decode cX7_back 24 = .ok (.getfield 19, 3) := by decide +kernel
theorem dX7_back_27 : decode cX7_back 27 = .ok (.aload_n 0, 1) := by decide +kernel
theorem dX7_back_28 : decode cX7_back 28 = .ok (.getfield 33, 3) := by decide +kernel
theorem dX7_back_31 : decode cX7_back 31 = .ok (.iload_n 1, 1) := by decide +kernel
theorem dX7_back_32 : decode cX7_back 32 = .ok (.aaload, 1) := by decide +kernel
theorem dX7_back_33 : decode cX7_back 33 = .ok (.invokevirtual 170, 3) := by decide +kernel
theorem dX7_back_36 : decode cX7_back 36 = .ok (.aload_n 0, 1) := by decide +kernel
theorem dX7_back_37 : decode cX7_back 37 = .ok (.getfield 29, 3) := by decide +kernel
theorem dX7_back_40 : decode cX7_back 40 = .ok (.invokevirtual 94, 3) := by decide +kernel
theorem dX7_back_43 : decode cX7_back 43 = .ok (.aload_n 0, 1) := by decide +kernel
theorem dX7_back_44 : decode cX7_back 44 = .ok (.getfield 19, 3) := by decide +kernel
theorem dX7_back_47 : decode cX7_back 47 = .ok (.getfield 125, 3) := by decide +kernel
theorem dX7_back_50 : decode cX7_back 50 = .ok (.ireturn, 1) := by decide +kernel
set_option maxRecDepth 20000 in
theorem ggX7_count_X5_letters : GoodIn wsX7_count wsX5_letters := goodIn_r _ [12, 13, 39, 40, 41, 42, 43, 44, 45, 46, 47, 48] (by decide +kernel) (by decide +kernel)
set_option maxRecDepth 20000 in
theorem gX7_count_X5_letters : GoodIn wsX7_count (wsV RX7 80 RX5 yX5_letters wsX5_letters) := goodIn_app (goodIn_of _ (by decide +kernel)) ggX7_count_X5_letters
theorem dX7_count_0 : decode cX7_count 0 = .ok (.iload_n 1, 1) := by decide +kernel
theorem dX7_count_1 : decode cX7_count 1 = .ok (.tableswitch 75 0 4 #[35, 43, 51, 59, 67], 35) := by decide +kernel
theorem dX7_count_36 : decode cX7_count 36 = .ok (.aload_n 0, 1) := by decide +kernel
theorem dX7_count_37 : decode cX7_count 37 = .ok (.getfield 65, 3) := by decide +kernel
theorem dX7_count_40 : decode cX7_count 40 = .ok (.getfield 217, 3) := by decide +kernel
theorem dX7_count_43 : decode cX7_count 43 = .ok (.ireturn, 1) := by decide +kernel
theorem dX7_count_44 : decode cX7_count 44 = .ok (.aload_n 0, 1) := by decide +kernel
theorem dX7_count_45 : decode cX7_count 45 = .ok (.getfield 65, 3) := by decide +kernel
theorem dX7_count_48 : decode cX7_count 48 = .ok (.getfield 220, 3) := by decide +kernel
theorem dX7_count_51 : decode cX7_count 51 = .ok (.ireturn, 1) := by decide +kernel
theorem dX7_count_52 : decode cX7_count 52 = .ok (.aload_n 0, 1) := by decide +kernel
theorem dX7_count_53 : decode cX7_count 53 = .ok (.getfield 65, 3) := by decide +kernel
theorem dX7_count_56 : decode cX7_count 56 = .ok (.getfield 115, 3) := by decide +kernel
theorem dX7_count_59 : decode cX7_count 59 = .ok (.ireturn, 1) := by decide +kernel
theorem dX7_count_60 : decode cX7_count 60 = .ok (.aload_n 0, 1) := by decide +kernel
theorem dX7_count_61 : decode cX7_count 61 = .ok (.getfield 44, 3) := by decide +kernel
theorem dX7_count_64 : decode cX7_count 64 = .ok (.getfield 198, 3) := by decide +kernel
theorem dX7_count_67 : decode cX7_count 67 = .ok (.ireturn, 1) := by decide +kernel
theorem dX7_count_68 : decode cX7_count 68 = .ok (.aload_n 0, 1) := by decide +kernel
theorem dX7_count_69 : decode cX7_count 69 = .ok (.getfield 12, 3) := by decide +kernel
theorem dX7_count_72 : decode cX7_count 72 = .ok (.invokevirtual 80, 3) := by decide +kernel
theorem dX7_count_75 : decode cX7_count 75 = .ok (.ireturn, 1) := by decide +kernel
theorem dX7_count_76 : decode cX7_count 76 = .ok (.iconst (-1), 1) := by decide +kernel
theorem dX7_count_77 : decode cX7_count 77 = .ok (.ireturn, 1) := by decide +kernel
theorem dX7_trace_0 : decode cX7_trace 0 = .ok (.aload_n 0, 1) := by decide +kernel
theorem dX7_trace_1 : decode cX7_trace 1 = .ok (.getfield 58, 3) := by decide +kernel
theorem dX7_trace_4 : decode cX7_trace 4 = .ok (.getfield 223, 3) := by decide +kernel
theorem dX7_trace_7 : decode cX7_trace 7 = .ok (.lreturn, 1) := by decide +kernel
theorem dX7_isOutside_0 : decode cX7_isOutside 0 = .ok (.iload_n 0, 1) := by decide +kernel
theorem dX7_isOutside_1 : decode cX7_isOutside 1 = .ok (.iload_n 1, 1) := by decide +kernel
theorem dX7_isOutside_2 : decode cX7_isOutside 2 = .ok (.if_icmp .lt 8, 3) := by decide +kernel
theorem dX7_isOutside_5 : decode cX7_isOutside 5 = .ok (.iload_n 0, 1) := by decide +kernel
theorem dX7_isOutside_6 : decode cX7_isOutside 6 = .ok (.iload_n 2, 1) := by decide +kernel
theorem dX7_isOutside_7 : decode cX7_isOutside 7 = .ok (.if_icmp .le 7, 3) := by decide +kernel
theorem dX7_isOutside_10 : decode cX7_isOutside 10 = .ok (.iconst 1, 1) := by decide +kernel
theorem dX7_isOutside_11 : decode cX7_isOutside 11 = .ok (.goto 4, 3) := by decide +kernel
theorem dX7_isOutside_14 : decode cX7_isOutside 14 = .ok (.iconst 0, 1) := by decide +kernel
theorem dX7_isOutside_15 : decode cX7_isOutside 15 = .ok (.ireturn, 1) := by decide +kernel
set_option maxRecDepth 20000 in
theorem ggX7_isNoOrder_X7_isOutside : GoodIn wsX7_isNoOrder wsX7_isOutside := goodIn_r _ [4] (by decide +kernel) (by decide +kernel)
set_option maxRecDepth 20000 in
theorem gX7_isNoOrder_X7_isOutside : GoodIn wsX7_isNoOrder (va_wsS RX7 72 yX7_isOutside wsX7_isOutside) := goodIn_app (goodIn_of _ (by decide +kernel)) ggX7_isNoOrder_X7_isOutside
theorem dX7_isNoOrder_0 : decode cX7_isNoOrder 0 = .ok (.iload_n 0, 1) := by decide +kernel
theorem dX7_isNoOrder_1 : decode cX7_isNoOrder 1 = .ok (.iconst 0, 1) := by decide +kernel
theorem dX7_isNoOrder_2 : decode cX7_isNoOrder 2 = .ok (.iconst 4, 1) := by decide +kernel
theorem dX7_isNoOrder_3 : decode cX7_isNoOrder 3 = .ok (.invokestatic 72, 3) := by decide +kernel
theorem dX7_isNoOrder_6 : decode cX7_isNoOrder 6 = .ok (.ireturn, 1) := by decide +kernel
set_option maxRecDepth 20000 in
theorem ggX7_isNotToCome_X7_isOutside : GoodIn wsX7_isNotToCome wsX7_isOutside := goodIn_r _ [6] (by decide +kernel) (by decide +kernel)
set_option maxRecDepth 20000 in
theorem gX7_isNotToCome_X7_isOutside : GoodIn wsX7_isNotToCome (va_wsS RX7 72 yX7_isOutside wsX7_isOutside) := goodIn_app (goodIn_of _ (by decide +kernel)) ggX7_isNotToCome_X7_isOutside
theorem dX7_isNotToCome_0 : decode cX7_isNotToCome 0 = .ok (.iload_n 1, 1) := by decide +kernel
theorem dX7_isNotToCome_1 : decode cX7_isNotToCome 1 = .ok (.aload_n 0, 1) := by decide +kernel
theorem dX7_isNotToCome_2 : decode cX7_isNotToCome 2 = .ok (.getfield 19, 3) := by decide +kernel
theorem dX7_isNotToCome_5 : decode cX7_isNotToCome 5 = .ok (.getfield 125, 3) := by decide +kernel
theorem dX7_isNotToCome_8 : decode cX7_isNotToCome 8 = .ok (.bipush 120, 2) := by decide +kernel
theorem dX7_isNotToCome_10 : decode cX7_isNotToCome 10 = .ok (.invokestatic 72, 3) := by decide +kernel
theorem dX7_isNotToCome_13 : decode cX7_isNotToCome 13 = .ok (.ireturn, 1) := by decide +kernel
set_option maxRecDepth 20000 in
theorem ggX7_payDues_X2_lastDueNight : GoodIn wsX7_payDues wsX2_lastDueNight := goodIn_r _ [9, 10, 11, 12, 13, 14, 15, 108, 109, 110, 111, 112, 113, 114, 115, 116, 117, 118] (by decide +kernel) (by decide +kernel)
set_option maxRecDepth 20000 in
theorem gX7_payDues_X2_lastDueNight : GoodIn wsX7_payDues (wsV RX7 226 RX2 yX2_lastDueNight wsX2_lastDueNight) := goodIn_app (goodIn_of _ (by decide +kernel)) ggX7_payDues_X2_lastDueNight
set_option maxRecDepth 20000 in
theorem ggX7_payDues_X6_becomeLike : GoodIn wsX7_payDues wsX6_becomeLike := goodIn_r _ [20, 21, 22, 23, 24, 25, 26, 27, 105, 106, 107] (by decide +kernel) (by decide +kernel)
set_option maxRecDepth 20000 in
theorem gX7_payDues_X6_becomeLike : GoodIn wsX7_payDues (wsV RX7 170 RX6 yX6_becomeLike wsX6_becomeLike) := goodIn_app (goodIn_of _ (by decide +kernel)) ggX7_payDues_X6_becomeLike
set_option maxRecDepth 20000 in
theorem ggX7_payDues_X6_passTo : GoodIn wsX7_payDues wsX6_passTo := goodIn_r _ [31, 26, 32, 33, 34, 19, 35, 36, 21, 37, 38, 39, 40, 8, 41, 42, 43, 44, 45, 46, 47, 13, 14, 15, 105, 106, 107, 108, 109, 110, 111, 112, 113, 114, 115, 116, 117, 118] (by decide +kernel) (by decide +kernel)
set_option maxRecDepth 20000 in
theorem gX7_payDues_X6_passTo : GoodIn wsX7_payDues (wsV RX7 173 RX6 yX6_passTo wsX6_passTo) := goodIn_app (goodIn_of _ (by decide +kernel)) ggX7_payDues_X6_passTo
set_option maxRecDepth 20000 in
theorem ggX7_payDues_X7_payDuesOf : GoodIn wsX7_payDues wsX7_payDuesOf := goodIn_r _ [52, 1, 53, 54, 55, 4, 56, 57, 58, 59, 60, 61, 62, 63, 64, 65, 66, 19, 67, 26, 21, 68, 69, 70, 71, 72, 73, 74, 75, 76, 77, 78, 79, 80, 81, 82, 14, 83, 84, 85, 86, 87, 88, 89, 90, 91, 92, 93, 94, 95, 96, 97, 98, 99, 100, 101, 102, 103, 104, 108, 109, 110, 111, 112, 113, 114, 115, 116, 117, 118, 119, 120, 121, 105, 106, 107] (by decide +kernel) (by decide +kernel)
set_option maxRecDepth 20000 in
theorem gX7_payDues_X7_payDuesOf : GoodIn wsX7_payDues (wsV RX7 229 RX7 yX7_payDuesOf wsX7_payDuesOf) := goodIn_app (goodIn_of _ (by decide +kernel)) ggX7_payDues_X7_payDuesOf
theorem dX7_payDues_0 : decode cX7_payDues 0 = .ok (.aload_n 0, 1) := by decide +kernel
theorem dX7_payDues_1 : decode cX7_payDues 1 = .ok (.getfield 65, 3) := by decide +kernel
theorem dX7_payDues_4 : decode cX7_payDues 4 = .ok (.aload_n 0, 1) := by decide +kernel
theorem dX7_payDues_5 : decode cX7_payDues 5 = .ok (.getfield 19, 3) := by decide +kernel
theorem dX7_payDues_8 : decode cX7_payDues 8 = .ok (.getfield 125, 3) := by decide +kernel
theorem dX7_payDues_11 : decode cX7_payDues 11 = .ok (.invokevirtual 226, 3) := by decide +kernel
theorem dX7_payDues_14 : decode cX7_payDues 14 = .ok (.istore_n 1, 1) := by decide +kernel
theorem dX7_payDues_15 : decode cX7_payDues 15 = .ok (.aload_n 0, 1) := by decide +kernel
theorem dX7_payDues_16 : decode cX7_payDues 16 = .ok (.getfield 23, 3) := by decide +kernel
theorem dX7_payDues_19 : decode cX7_payDues 19 = .ok (.aload_n 0, 1) := by decide +kernel
theorem dX7_payDues_20 : decode cX7_payDues 20 = .ok (.getfield 19, 3) := by decide +kernel
theorem dX7_payDues_23 : decode cX7_payDues 23 = .ok (.invokevirtual 170, 3) := by decide +kernel
theorem dX7_payDues_26 : decode cX7_payDues 26 = .ok (.aload_n 0, 1) := by decide +kernel
theorem dX7_payDues_27 : decode cX7_payDues 27 = .ok (.getfield 19, 3) := by decide +kernel
theorem dX7_payDues_30 : decode cX7_payDues 30 = .ok (.getfield 125, 3) := by decide +kernel
theorem dX7_payDues_33 : decode cX7_payDues 33 = .ok (.iconst 1, 1) := by decide +kernel
theorem dX7_payDues_34 : decode cX7_payDues 34 = .ok (.iadd, 1) := by decide +kernel
theorem dX7_payDues_35 : decode cX7_payDues 35 = .ok (.istore_n 2, 1) := by decide +kernel
theorem dX7_payDues_36 : decode cX7_payDues 36 = .ok (.iload_n 2, 1) := by decide +kernel
theorem dX7_payDues_37 : decode cX7_payDues 37 = .ok (.iload_n 1, 1) := by decide +kernel
theorem dX7_payDues_38 : decode cX7_payDues 38 = .ok (.if_icmp .gt 35, 3) := by decide +kernel
theorem dX7_payDues_41 : decode cX7_payDues 41 = .ok (.aload_n 0, 1) := by decide +kernel
theorem dX7_payDues_42 : decode cX7_payDues 42 = .ok (.getfield 23, 3) := by decide +kernel
theorem dX7_payDues_45 : decode cX7_payDues 45 = .ok (.iload_n 2, 1) := by decide +kernel
theorem dX7_payDues_46 : decode cX7_payDues 46 = .ok (.aload_n 0, 1) := by decide +kernel
theorem dX7_payDues_47 : decode cX7_payDues 47 = .ok (.getfield 65, 3) := by decide +kernel
theorem dX7_payDues_50 : decode cX7_payDues 50 = .ok (.invokevirtual 173, 3) := by decide +kernel
theorem dX7_payDues_53 : decode cX7_payDues 53 = .ok (.aload_n 0, 1) := by decide +kernel
theorem dX7_payDues_54 : decode cX7_payDues 54 = .ok (.iload_n 2, 1) := by decide +kernel
theorem dX7_payDues_55 : decode cX7_payDues 55 = .ok (.invokevirtual 229, 3) := by decide +kernel
theorem dX7_payDues_58 : decode cX7_payDues 58 = .ok (.istore_n 3, 1) := by decide +kernel
theorem dX7_payDues_59 : decode cX7_payDues 59 = .ok (.iload_n 3, 1) := by decide +kernel
theorem dX7_payDues_60 : decode cX7_payDues 60 = .ok (.bipush (-9), 2) := by decide +kernel
theorem dX7_payDues_62 : decode cX7_payDues 62 = .ok (.if_icmp .eq 5, 3) := by decide +kernel
theorem dX7_payDues_65 : decode cX7_payDues 65 = .ok (.iload_n 3, 1) := by decide +kernel
theorem dX7_payDues_66 : decode cX7_payDues 66 = .ok (.ireturn, 1) := by decide +kernel
theorem dX7_payDues_67 : decode cX7_payDues 67 = .ok (.iinc 2 1, 3) := by decide +kernel
theorem dX7_payDues_70 : decode cX7_payDues 70 = .ok (.goto (-34), 3) := by decide +kernel
theorem dX7_payDues_73 : decode cX7_payDues 73 = .ok (.bipush (-9), 2) := by decide +kernel
theorem dX7_payDues_75 : decode cX7_payDues 75 = .ok (.ireturn, 1) := by decide +kernel
set_option maxRecDepth 20000 in
theorem ggX7_payDuesOf_X4_find : GoodIn wsX7_payDuesOf wsX4_find := goodIn_r _ [11, 12, 13, 14, 15, 16, 17, 18, 19, 20, 21, 22, 23, 10, 24, 25, 26, 27, 28, 29, 30, 31, 32, 33, 34, 35, 36, 37, 38, 59, 60, 61, 62, 63, 64, 65, 66, 67, 68, 69, 70, 71, 72, 73, 74, 75] (by decide +kernel) (by decide +kernel)
set_option maxRecDepth 20000 in
theorem gX7_payDuesOf_X4_find : GoodIn wsX7_payDuesOf (wsV RX7 178 RX4 yX4_find wsX4_find) := goodIn_app (goodIn_of _ (by decide +kernel)) ggX7_payDuesOf_X4_find
set_option maxRecDepth 20000 in
theorem ggX7_payDuesOf_X4_takeFrom : GoodIn wsX7_payDuesOf wsX4_takeFrom := goodIn_r _ [42, 38, 43, 44, 45, 17, 46, 19, 20, 47, 35, 36, 37, 70, 71, 72, 73, 74, 75] (by decide +kernel) (by decide +kernel)
set_option maxRecDepth 20000 in
theorem gX7_payDuesOf_X4_takeFrom : GoodIn wsX7_payDuesOf (wsV RX7 232 RX4 yX4_takeFrom wsX4_takeFrom) := goodIn_app (goodIn_of _ (by decide +kernel)) ggX7_payDuesOf_X4_takeFrom
theorem dX7_payDuesOf_0 : decode cX7_payDuesOf 0 = .ok (.iconst 0, 1) := by decide +kernel
theorem dX7_payDuesOf_1 : decode cX7_payDuesOf 1 = .ok (.istore_n 2, 1) := by decide +kernel
theorem dX7_payDuesOf_2 : decode cX7_payDuesOf 2 = .ok (.iload_n 2, 1) := by decide +kernel
theorem dX7_payDuesOf_3 : decode cX7_payDuesOf 3 = .ok (.aload_n 0, 1) := by decide +kernel
theorem dX7_payDuesOf_4 : decode cX7_payDuesOf 4 = .ok (.getfield 65, 3) := by decide +kernel
theorem dX7_payDuesOf_7 : decode cX7_payDuesOf 7 = .ok (.getfield 115, 3) := by decide +kernel
theorem dX7_payDuesOf_10 : decode cX7_payDuesOf 10 = .ok (.if_icmp .ge 62, 3) := by decide +kernel
theorem dX7_payDuesOf_13 : decode cX7_payDuesOf 13 = .ok (.aload_n 0, 1) := by decide +kernel
theorem dX7_payDuesOf_14 : decode cX7_payDuesOf 14 = .ok (.getfield 65, 3) := by decide +kernel
theorem dX7_payDuesOf_17 : decode cX7_payDuesOf 17 = .ok (.getfield 119, 3) := by decide +kernel
theorem dX7_payDuesOf_20 : decode cX7_payDuesOf 20 = .ok (.iload_n 2, 1) := by decide +kernel
theorem dX7_payDuesOf_21 : decode cX7_payDuesOf 21 = .ok (.iaload, 1) := by decide +kernel
theorem dX7_payDuesOf_22 : decode cX7_payDuesOf 22 = .ok (.iload_n 1, 1) := by decide +kernel
theorem dX7_payDuesOf_23 : decode cX7_payDuesOf 23 = .ok (.if_icmp .ne 43, 3) := by decide +kernel
theorem dX7_payDuesOf_26 : decode cX7_payDuesOf 26 = .ok (.aload_n 0, 1) := by decide +kernel
theorem dX7_payDuesOf_27 : decode cX7_payDuesOf 27 = .ok (.getfield 51, 3) := by decide +kernel
theorem dX7_payDuesOf_30 : decode cX7_payDuesOf 30 = .ok (.aload_n 0, 1) := by decide +kernel
theorem dX7_payDuesOf_31 : decode cX7_payDuesOf 31 = .ok (.getfield 23, 3) := by decide +kernel
theorem dX7_payDuesOf_34 : decode cX7_payDuesOf 34 = .ok (.aload_n 0, 1) := by decide +kernel
theorem dX7_payDuesOf_35 : decode cX7_payDuesOf 35 = .ok (.getfield 65, 3) := by decide +kernel
theorem dX7_payDuesOf_38 : decode cX7_payDuesOf 38 = .ok (.aload_n 0, 1) := by decide +kernel
theorem dX7_payDuesOf_39 : decode cX7_payDuesOf 39 = .ok (.getfield 65, 3) := by decide +kernel
theorem dX7_payDuesOf_42 : decode cX7_payDuesOf 42 = .ok (.getfield 122, 3) := by decide +kernel
theorem dX7_payDuesOf_45 : decode cX7_payDuesOf 45 = .ok (.iload_n 2, 1) := by decide +kernel
theorem dX7_payDuesOf_46 : decode cX7_payDuesOf 46 = .ok (.iaload, 1) := by decide +kernel
theorem dX7_payDuesOf_47 : decode cX7_payDuesOf 47 = .ok (.invokevirtual 178, 3) := by decide +kernel
theorem dX7_payDuesOf_50 : decode cX7_payDuesOf 50 = .ok (.ifCond .ne 5, 3) := by decide +kernel
theorem dX7_payDuesOf_53 : decode cX7_payDuesOf 53 = .ok (.iload_n 2, 1) := by decide +kernel
theorem dX7_payDuesOf_54 : decode cX7_payDuesOf 54 = .ok (.ireturn, 1) := by decide +kernel
theorem dX7_payDuesOf_55 : decode cX7_payDuesOf 55 = .ok (.aload_n 0, 1) := by decide +kernel
theorem dX7_payDuesOf_56 : decode cX7_payDuesOf 56 = .ok (.getfield 51, 3) := by decide +kernel
theorem dX7_payDuesOf_59 : decode cX7_payDuesOf 59 = .ok (.aload_n 0, 1) := by decide +kernel
theorem dX7_payDuesOf_60 : decode cX7_payDuesOf 60 = .ok (.getfield 23, 3) := by decide +kernel
theorem dX7_payDuesOf_63 : decode cX7_payDuesOf 63 = .ok (.invokevirtual 232, 3) := by decide +kernel
theorem dX7_payDuesOf_66 : decode cX7_payDuesOf 66 = .ok (.iinc 2 1, 3) := by decide +kernel
theorem dX7_payDuesOf_69 : decode cX7_payDuesOf 69 = .ok (.goto (-67), 3) := by decide +kernel
theorem dX7_payDuesOf_72 : decode cX7_payDuesOf 72 = .ok (.bipush (-9), 2) := by decide +kernel
theorem dX7_payDuesOf_74 : decode cX7_payDuesOf 74 = .ok (.ireturn, 1) := by decide +kernel
theorem dX7_greatestDivisor_0 : decode cX7_greatestDivisor 0 = .ok (.lload_n 0, 1) := by decide +kernel
theorem dX7_greatestDivisor_1 : decode cX7_greatestDivisor 1 = .ok (.lstore 4, 2) := by decide +kernel
theorem dX7_greatestDivisor_3 : decode cX7_greatestDivisor 3 = .ok (.lload_n 2, 1) := by decide +kernel
theorem dX7_greatestDivisor_4 : decode cX7_greatestDivisor 4 = .ok (.lstore 6, 2) := by decide +kernel
theorem dX7_greatestDivisor_6 : decode cX7_greatestDivisor 6 = .ok (.iconst 0, 1) := by decide +kernel
theorem dX7_greatestDivisor_7 : decode cX7_greatestDivisor 7 = .ok (.istore 8, 2) := by decide +kernel
theorem dX7_greatestDivisor_9 : decode cX7_greatestDivisor 9 = .ok (.iload 8, 2) := by decide +kernel
theorem dX7_greatestDivisor_11 : decode cX7_greatestDivisor 11 = .ok (.sipush 1000, 3) := by decide +kernel
theorem dX7_greatestDivisor_14 : decode cX7_greatestDivisor 14 = .ok (.if_icmp .ge 31, 3) := by decide +kernel
theorem dX7_greatestDivisor_17 : decode cX7_greatestDivisor 17 = .ok (.lload 6, 2) := by decide +kernel
theorem dX7_greatestDivisor_19 : decode cX7_greatestDivisor 19 = .ok (.lconst 0, 1) := by decide +kernel
theorem dX7_greatestDivisor_20 : decode cX7_greatestDivisor 20 = .ok (.lcmp, 1) := by decide +kernel
theorem dX7_greatestDivisor_21 : decode cX7_greatestDivisor 21 = .ok (.ifCond .eq 24, 3) := by decide +kernel
theorem dX7_greatestDivisor_24 : decode cX7_greatestDivisor 24 = .ok (.lload 4, 2) := by decide +kernel
