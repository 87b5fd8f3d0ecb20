theorem dX7_greatestDivisor_26 : decode cX7_greatestDivisor 26 = .ok (.lload 6, 2) := by decide +kernel
theorem dX7_greatestDivisor_28 : decode cX7_greatestDivisor 28 = .ok (.lrem, 1) := by decide +kernel
theorem dX7_greatestDivisor_29 : decode cX7_greatestDivisor 29 = .ok (.lstore 9, 2) := by decide +kernel
theorem dX7_greatestDivisor_31 : decode cX7_greatestDivisor 31 = .ok (.lload 6, 2) := by decide +kernel
theorem dX7_greatestDivisor_33 : decode cX7_greatestDivisor 33 = .ok (.lstore 4, 2) := by decide +kernel
theorem dX7_greatestDivisor_35 : decode cX7_greatestDivisor 35 = .ok (.lload 9, 2) := by decide +kernel
theorem dX7_greatestDivisor_37 : decode cX7_greatestDivisor 37 = .ok (.lstore 6, 2) := by decide +kernel
theorem dX7_greatestDivisor_39 : decode cX7_greatestDivisor 39 = .ok (.iinc 8 1, 3) := by decide +kernel
theorem dX7_greatestDivisor_42 : decode cX7_greatestDivisor 42 = .ok (.goto (-33), 3) := by decide +kernel
theorem dX7_greatestDivisor_45 : decode cX7_greatestDivisor 45 = .ok (.lload 4, 2) := by decide +kernel
theorem dX7_greatestDivisor_47 : decode cX7_greatestDivisor 47 = .ok (.lreturn, 1) := by decide +kernel
set_option maxRecDepth 20000 in
theorem ggX8_init_X8_readsFirst : GoodIn wsX8_init wsX8_readsFirst := goodIn_r _ [24, 15, 25, 26, 27, 42, 43, 44, 45, 46, 47, 48, 49, 50, 51, 52, 53, 54, 55, 56, 57, 58, 59, 60, 61, 62, 63, 64, 65, 66, 67, 68, 69] (by decide +kernel) (by decide +kernel)
set_option maxRecDepth 20000 in
theorem gX8_init_X8_readsFirst : GoodIn wsX8_init (wsV RX8 51 RX8 yX8_readsFirst wsX8_readsFirst) := goodIn_app (goodIn_of _ (by decide +kernel)) ggX8_init_X8_readsFirst
set_option maxRecDepth 20000 in
theorem ggX8_init_X8_becomes : GoodIn wsX8_init wsX8_becomes := goodIn_r _ [31, 9, 15, 32, 33, 34, 25, 35, 10, 16, 11, 17, 36, 37, 7, 38, 39, 40, 23, 41, 5, 42, 43, 44, 45, 46, 47, 48, 49, 50, 51, 52, 53, 54, 55, 56, 57, 58, 59, 60, 61, 62, 63, 64, 65, 66, 67, 68, 69] (by decide +kernel) (by decide +kernel)
set_option maxRecDepth 20000 in
theorem gX8_init_X8_becomes : GoodIn wsX8_init (wsV RX8 54 RX8 yX8_becomes wsX8_becomes) := goodIn_app (goodIn_of _ (by decide +kernel)) ggX8_init_X8_becomes
theorem dX8_init_0 : decode cX8_init 0 = .ok (.aload_n 0, 1) := by decide +kernel
theorem dX8_init_1 : decode cX8_init 1 = .ok (.invokespecial 1, 3) := by decide +kernel
theorem dX8_init_4 : decode cX8_init 4 = .ok (.aload_n 0, 1) := by decide +kernel
theorem dX8_init_5 : decode cX8_init 5 = .ok (.sipush 7284, 3) := by decide +kernel
theorem dX8_init_8 : decode cX8_init 8 = .ok (.newarray .long, 2) := by decide +kernel
theorem dX8_init_10 : decode cX8_init 10 = .ok (.putfield 7, 3) := by decide +kernel
theorem dX8_init_13 : decode cX8_init 13 = .ok (.aload_n 0, 1) := by decide +kernel
theorem dX8_init_14 : decode cX8_init 14 = .ok (.iconst 2, 1) := by decide +kernel
theorem dX8_init_15 : decode cX8_init 15 = .ok (.newarray .boolean, 2) := by decide +kernel
theorem dX8_init_17 : decode cX8_init 17 = .ok (.putfield 13, 3) := by decide +kernel
theorem dX8_init_20 : decode cX8_init 20 = .ok (.aload_n 0, 1) := by decide +kernel
theorem dX8_init_21 : decode cX8_init 21 = .ok (.iconst 5, 1) := by decide +kernel
theorem dX8_init_22 : decode cX8_init 22 = .ok (.newarray .int, 2) := by decide +kernel
theorem dX8_init_24 : decode cX8_init 24 = .ok (.putfield 17, 3) := by decide +kernel
theorem dX8_init_27 : decode cX8_init 27 = .ok (.aload_n 0, 1) := by decide +kernel
theorem dX8_init_28 : decode cX8_init 28 = .ok (.bipush 6, 2) := by decide +kernel
theorem dX8_init_30 : decode cX8_init 30 = .ok (.newarray .int, 2) := by decide +kernel
theorem dX8_init_32 : decode cX8_init 32 = .ok (.putfield 21, 3) := by decide +kernel
theorem dX8_init_35 : decode cX8_init 35 = .ok (.aload_n 0, 1) := by decide +kernel
theorem dX8_init_36 : decode cX8_init 36 = .ok (.bipush 6, 2) := by decide +kernel
theorem dX8_init_38 : decode cX8_init 38 = .ok (.newarray .int, 2) := by decide +kernel
theorem dX8_init_40 : decode cX8_init 40 = .ok (.putfield 24, 3) := by decide +kernel
theorem dX8_init_43 : decode cX8_init 43 = .ok (.aload_n 0, 1) := by decide +kernel
theorem dX8_init_44 : decode cX8_init 44 = .ok (.iconst 5, 1) := by decide +kernel
theorem dX8_init_45 : decode cX8_init 45 = .ok (.newarray .int, 2) := by decide +kernel
theorem dX8_init_47 : decode cX8_init 47 = .ok (.putfield 27, 3) := by decide +kernel
theorem dX8_init_50 : decode cX8_init 50 = .ok (.aload_n 0, 1) := by decide +kernel
theorem dX8_init_51 : decode cX8_init 51 = .ok (.iconst 5, 1) := by decide +kernel
theorem dX8_init_52 : decode cX8_init 52 = .ok (.newarray .int, 2) := by decide +kernel
theorem dX8_init_54 : decode cX8_init 54 = .ok (.putfield 30, 3) := by decide +kernel
theorem dX8_init_57 : decode cX8_init 57 = .ok (.aload_n 0, 1) := by decide +kernel
theorem dX8_init_58 : decode cX8_init 58 = .ok (.sipush 200, 3) := by decide +kernel
theorem dX8_init_61 : decode cX8_init 61 = .ok (.newarray .int, 2) := by decide +kernel
theorem dX8_init_63 : decode cX8_init 63 = .ok (.putfield 33, 3) := by decide +kernel
theorem dX8_init_66 : decode cX8_init 66 = .ok (.aload_n 0, 1) := by decide +kernel
theorem dX8_init_67 : decode cX8_init 67 = .ok (.bipush 6, 2) := by decide +kernel
theorem dX8_init_69 : decode cX8_init 69 = .ok (.newarray .int, 2) := by decide +kernel
theorem dX8_init_71 : decode cX8_init 71 = .ok (.putfield 36, 3) := by decide +kernel
theorem dX8_init_74 : decode cX8_init 74 = .ok (.aload_n 0, 1) := by decide +kernel
theorem dX8_init_75 : decode cX8_init 75 = .ok (.bipush 6, 2) := by decide +kernel
theorem dX8_init_77 : decode cX8_init 77 = .ok (.newarray .int, 2) := by decide +kernel
theorem dX8_init_79 : decode cX8_init 79 = .ok (.putfield 39, 3) := by decide +kernel
theorem dX8_init_82 : decode cX8_init 82 = .ok (.aload_n 0, 1) := by decide +kernel
theorem dX8_init_83 : decode cX8_init 83 = .ok (.bipush 6, 2) := by decide +kernel
theorem dX8_init_85 : decode cX8_init 85 = .ok (.newarray .int, 2) := by decide +kernel
theorem dX8_init_87 : decode cX8_init 87 = .ok (.putfield 42, 3) := by decide +kernel
theorem dX8_init_90 : decode cX8_init 90 = .ok (.aload_n 0, 1) := by decide +kernel
theorem dX8_init_91 : decode cX8_init 91 = .ok (.sipush 1806, 3) := by decide +kernel
theorem dX8_init_94 : decode cX8_init 94 = .ok (.newarray .boolean, 2) := by decide +kernel
theorem dX8_init_96 : decode cX8_init 96 = .ok (.putfield 45, 3) := by decide +kernel
theorem dX8_init_99 : decode cX8_init 99 = .ok (.aload_n 0, 1) := by decide +kernel
theorem dX8_init_100 : decode cX8_init 100 = .ok (.iconst 5, 1) := by decide +kernel
theorem dX8_init_101 : decode cX8_init 101 = .ok (.newarray .int, 2) := by decide +kernel
theorem dX8_init_103 : decode cX8_init 103 = .ok (.putfield 48, 3) := by decide +kernel
theorem dX8_init_106 : decode cX8_init 106 = .ok (.aload_n 0, 1) := by decide +kernel
theorem dX8_init_107 : decode cX8_init 107 = .ok (.invokevirtual 51, 3) := by decide +kernel
theorem dX8_init_110 : decode cX8_init 110 = .ok (.aload_n 0, 1) := by decide +kernel
theorem dX8_init_111 : decode cX8_init 111 = .ok (.invokevirtual 54, 3) := by decide +kernel
theorem dX8_init_114 : decode cX8_init 114 = .ok (.return_, 1) := by decide +kernel
theorem dX8_in_0 : decode cX8_in 0 = .ok (.lload_n 0, 1) := by decide +kernel
theorem dX8_in_1 : decode cX8_in 1 = .ok (.lload_n 2, 1) := by decide +kernel
theorem dX8_in_2 : decode cX8_in 2 = .ok (.lcmp, 1) := by decide +kernel
theorem dX8_in_3 : decode cX8_in 3 = .ok (.ifCond .lt 14, 3) := by decide +kernel
theorem dX8_in_6 : decode cX8_in 6 = .ok (.lload_n 0, 1) := by decide +kernel
theorem dX8_in_7 : decode cX8_in 7 = .ok (.lload 4, 2) := by decide +kernel
theorem dX8_in_9 : decode cX8_in 9 = .ok (.lcmp, 1) := by decide +kernel
theorem dX8_in_10 : decode cX8_in 10 = .ok (.ifCond .gt 7, 3) := by decide +kernel
theorem dX8_in_13 : decode cX8_in 13 = .ok (.iconst 1, 1) := by decide +kernel
theorem dX8_in_14 : decode cX8_in 14 = .ok (.goto 4, 3) := by decide +kernel
theorem dX8_in_17 : decode cX8_in 17 = .ok (.iconst 0, 1) := by decide +kernel
theorem dX8_in_18 : decode cX8_in 18 = .ok (.ireturn, 1) := by decide +kernel
theorem dX8_readsFirst_0 : decode cX8_readsFirst 0 = .ok (.aload_n 0, 1) := by decide +kernel
theorem dX8_readsFirst_1 : decode cX8_readsFirst 1 = .ok (.getfield 36, 3) := by decide +kernel
theorem dX8_readsFirst_4 : decode cX8_readsFirst 4 = .ok (.iconst 0, 1) := by decide +kernel
theorem dX8_readsFirst_5 : decode cX8_readsFirst 5 = .ok (.bipush 81, 2) := by decide +kernel
theorem dX8_readsFirst_7 : decode cX8_readsFirst 7 = .ok (.iastore, 1) := by decide +kernel
theorem dX8_readsFirst_8 : decode cX8_readsFirst 8 = .ok (.aload_n 0, 1) := by decide +kernel
theorem dX8_readsFirst_9 : decode cX8_readsFirst 9 = .ok (.getfield 36, 3) := by decide +kernel
theorem dX8_readsFirst_12 : decode cX8_readsFirst 12 = .ok (.iconst 1, 1) := by decide +kernel
theorem dX8_readsFirst_13 : decode cX8_readsFirst 13 = .ok (.bipush 8, 2) := by decide +kernel
theorem dX8_readsFirst_15 : decode cX8_readsFirst 15 = .ok (.iastore, 1) := by decide +kernel
theorem dX8_readsFirst_16 : decode cX8_readsFirst 16 = .ok (.aload_n 0, 1) := by decide +kernel
theorem dX8_readsFirst_17 : decode cX8_readsFirst 17 = .ok (.getfield 36, 3) := by decide +kernel
theorem dX8_readsFirst_20 : decode cX8_readsFirst 20 = .ok (.iconst 2, 1) := by decide +kernel
theorem dX8_readsFirst_21 : decode cX8_readsFirst 21 = .ok (.bipush 9, 2) := by decide +kernel
theorem dX8_readsFirst_23 : decode cX8_readsFirst 23 = .ok (.iastore, 1) := by decide +kernel
theorem dX8_readsFirst_24 : decode cX8_readsFirst 24 = .ok (.aload_n 0, 1) := by decide +kernel
theorem dX8_readsFirst_25 : decode cX8_readsFirst 25 = .ok (.getfield 36, 3) := by decide +kernel
theorem dX8_readsFirst_28 : decode cX8_readsFirst 28 = .ok (.iconst 3, 1) := by decide +kernel
theorem dX8_readsFirst_29 : decode cX8_readsFirst 29 = .ok (.iconst 1, 1) := by decide +kernel
theorem dX8_readsFirst_30 : decode cX8_readsFirst 30 = .ok (.iastore, 1) := by decide +kernel
theorem dX8_readsFirst_31 : decode cX8_readsFirst 31 = .ok (.aload_n 0, 1) := by decide +kernel
theorem dX8_readsFirst_32 : decode cX8_readsFirst 32 = .ok (.getfield 36, 3) := by decide +kernel
theorem dX8_readsFirst_35 : decode cX8_readsFirst 35 = .ok (.iconst 4, 1) := by decide +kernel
theorem dX8_readsFirst_36 : decode cX8_readsFirst 36 = .ok (.iconst 3, 1) := by decide +kernel
theorem dX8_readsFirst_37 : decode cX8_readsFirst 37 = .ok (.iastore, 1) := by decide +kernel
theorem dX8_readsFirst_38 : decode cX8_readsFirst 38 = .ok (.aload_n 0, 1) := by decide +kernel
theorem dX8_readsFirst_39 : decode cX8_readsFirst 39 = .ok (.getfield 36, 3) := by decide +kernel
theorem dX8_readsFirst_42 : decode cX8_readsFirst 42 = .ok (.iconst 5, 1) := by decide +kernel
theorem dX8_readsFirst_43 : decode cX8_readsFirst 43 = .ok (.iconst 0, 1) := by decide +kernel
theorem dX8_readsFirst_44 : decode cX8_readsFirst 44 = .ok (.iastore, 1) := by decide +kernel
theorem dX8_readsFirst_45 : decode cX8_readsFirst 45 = .ok (.aload_n 0, 1) := by decide +kernel
theorem dX8_readsFirst_46 : decode cX8_readsFirst 46 = .ok (.iconst 0, 1) := by decide +kernel
theorem dX8_readsFirst_47 : decode cX8_readsFirst 47 = .ok (.putfield 57, 3) := by decide +kernel
theorem dX8_readsFirst_50 : decode cX8_readsFirst 50 = .ok (.aload_n 0, 1) := by decide +kernel
theorem dX8_readsFirst_51 : decode cX8_readsFirst 51 = .ok (.iconst 0, 1) := by decide +kernel
theorem dX8_readsFirst_52 : decode cX8_readsFirst 52 = .ok (.putfield 61, 3) := by decide +kernel
theorem dX8_readsFirst_55 : decode cX8_readsFirst 55 = .ok (.aload_n 0, 1) := by decide +kernel
theorem dX8_readsFirst_56 : decode cX8_readsFirst 56 = .ok (.iconst 0, 1) := by decide +kernel
theorem dX8_readsFirst_57 : decode cX8_readsFirst 57 = .ok (.putfield 64, 3) := by decide +kernel
theorem dX8_readsFirst_60 : decode cX8_readsFirst 60 = .ok (.return_, 1) := by decide +kernel
set_option maxRecDepth 20000 in
theorem ggX8_becomes_X8_begins : GoodIn wsX8_becomes wsX8_begins := goodIn_r _ [19, 20, 21, 22, 23, 24, 25, 26, 27, 28, 29, 30, 31, 32, 33, 34, 35, 36, 37, 38, 39, 40, 41, 42, 43, 44, 45, 46, 47, 48] (by decide +kernel) (by decide +kernel)
set_option maxRecDepth 20000 in
theorem gX8_becomes_X8_begins : GoodIn wsX8_becomes (wsV RX8 85 RX8 yX8_begins wsX8_begins) := goodIn_app (goodIn_of _ (by decide +kernel)) ggX8_becomes_X8_begins
theorem dX8_becomes_0 : decode cX8_becomes 0 = .ok (.aload_n 0, 1) := by decide +kernel
theorem dX8_becomes_1 : decode cX8_becomes 1 = .ok (.getfield 17, 3) := by decide +kernel
theorem dX8_becomes_4 : decode cX8_becomes 4 = .ok (.iconst 0, 1) := by decide +kernel
theorem dX8_becomes_5 : decode cX8_becomes 5 = .ok (.aload_n 0, 1) := by decide +kernel
theorem dX8_becomes_6 : decode cX8_becomes 6 = .ok (.getfield 36, 3) := by decide +kernel
theorem dX8_becomes_9 : decode cX8_becomes 9 = .ok (.iconst 0, 1) := by decide +kernel
theorem dX8_becomes_10 : decode cX8_becomes 10 = .ok (.iaload, 1) := by decide +kernel
theorem dX8_becomes_11 : decode cX8_becomes 11 = .ok (.iastore, 1) := by decide +kernel
theorem dX8_becomes_12 : decode cX8_becomes 12 = .ok (.iconst 1, 1) := by decide +kernel
theorem dX8_becomes_13 : decode cX8_becomes 13 = .ok (.istore_n 1, 1) := by decide +kernel
theorem dX8_becomes_14 : decode cX8_becomes 14 = .ok (.iload_n 1, 1) := by decide +kernel
theorem dX8_becomes_15 : decode cX8_becomes 15 = .ok (.iconst 5, 1) := by decide +kernel
theorem dX8_becomes_16 : decode cX8_becomes 16 = .ok (.if_icmp .ge 37, 3) := by decide +kernel
theorem dX8_becomes_19 : decode cX8_becomes 19 = .ok (.aload_n 0, 1) := by decide +kernel
theorem dX8_becomes_20 : decode cX8_becomes 20 = .ok (.getfield 17, 3) := by decide +kernel
theorem dX8_becomes_23 : decode cX8_becomes 23 = .ok (.iload_n 1, 1) := by decide +kernel
theorem dX8_becomes_24 : decode cX8_becomes 24 = .ok (.aload_n 0, 1) := by decide +kernel
theorem dX8_becomes_25 : decode cX8_becomes 25 = .ok (.getfield 17, 3) := by decide +kernel
theorem dX8_becomes_28 : decode cX8_becomes 28 = .ok (.iload_n 1, 1) := by decide +kernel
theorem dX8_becomes_29 : decode cX8_becomes 29 = .ok (.iconst 1, 1) := by decide +kernel
theorem dX8_becomes_30 : decode cX8_becomes 30 = .ok (.isub, 1) := by decide +kernel
theorem dX8_becomes_31 : decode cX8_becomes 31 = .ok (.iaload, 1) := by decide +kernel
theorem dX8_becomes_32 : decode cX8_becomes 32 = .ok (.aload_n 0, 1) := by decide +kernel
theorem dX8_becomes_33 : decode cX8_becomes 33 = .ok (.getfield 36, 3) := by decide +kernel
theorem dX8_becomes_36 : decode cX8_becomes 36 = .ok (.iconst 3, 1) := by decide +kernel
theorem dX8_becomes_37 : decode cX8_becomes 37 = .ok (.iaload, 1) := by decide +kernel
theorem dX8_becomes_38 : decode cX8_becomes 38 = .ok (.imul, 1) := by decide +kernel
theorem dX8_becomes_39 : decode cX8_becomes 39 = .ok (.aload_n 0, 1) := by decide +kernel
theorem dX8_becomes_40 : decode cX8_becomes 40 = .ok (.getfield 36, 3) := by decide +kernel
theorem dX8_becomes_43 : decode cX8_becomes 43 = .ok (.iconst 4, 1) := by decide +kernel
theorem dX8_becomes_44 : decode cX8_becomes 44 = .ok (.iaload, 1) := by decide +kernel
theorem dX8_becomes_45 : decode cX8_becomes 45 = .ok (.idiv, 1) := by decide +kernel
theorem dX8_becomes_46 : decode cX8_becomes 46 = .ok (.iastore, 1) := by decide +kernel
theorem dX8_becomes_47 : decode cX8_becomes 47 = .ok (.iinc 1 1, 3) := by decide +kernel
theorem dX8_becomes_50 : decode cX8_becomes 50 = .ok (.goto (-36), 3) := by decide +kernel
theorem dX8_becomes_53 : decode cX8_becomes 53 = .ok (.aload_n 0, 1) := by decide +kernel
theorem dX8_becomes_54 : decode cX8_becomes 54 = .ok (.aload_n 0, 1) := by decide +kernel
theorem dX8_becomes_55 : decode cX8_becomes 55 = .ok (.getfield 36, 3) := by decide +kernel
theorem dX8_becomes_58 : decode cX8_becomes 58 = .ok (.iconst 1, 1) := by decide +kernel
theorem dX8_becomes_59 : decode cX8_becomes 59 = .ok (.iaload, 1) := by decide +kernel
theorem dX8_becomes_60 : decode cX8_becomes 60 = .ok (.putfield 67, 3) := by decide +kernel
theorem dX8_becomes_63 : decode cX8_becomes 63 = .ok (.aload_n 0, 1) := by decide +kernel
theorem dX8_becomes_64 : decode cX8_becomes 64 = .ok (.aload_n 0, 1) := by decide +kernel
theorem dX8_becomes_65 : decode cX8_becomes 65 = .ok (.getfield 36, 3) := by decide +kernel
theorem dX8_becomes_68 : decode cX8_becomes 68 = .ok (.iconst 2, 1) := by decide +kernel
theorem dX8_becomes_69 : decode cX8_becomes 69 = .ok (.iaload, 1) := by decide +kernel
theorem dX8_becomes_70 : decode cX8_becomes 70 = .ok (.putfield 70, 3) := by decide +kernel
theorem dX8_becomes_73 : decode cX8_becomes 73 = .ok (.aload_n 0, 1) := by decide +kernel
theorem dX8_becomes_74 : decode cX8_becomes 74 = .ok (.aload_n 0, 1) := by decide +kernel
theorem dX8_becomes_75 : decode cX8_becomes 75 = .ok (.getfield 36, 3) := by decide +kernel
theorem dX8_becomes_78 : decode cX8_becomes 78 = .ok (.iconst 5, 1) := by decide +kernel
theorem dX8_becomes_79 : decode cX8_becomes 79 = .ok (.iaload, 1) := by decide +kernel
theorem dX8_becomes_80 : decode cX8_becomes 80 = .ok (.putfield 73, 3) := by decide +kernel
theorem dX8_becomes_83 : decode cX8_becomes 83 = .ok (.aload_n 0, 1) := by decide +kernel
theorem dX8_becomes_84 : decode cX8_becomes 84 = .ok (.aload_n 0, 1) := by decide +kernel
theorem dX8_becomes_85 : decode cX8_becomes 85 = .ok (.getfield 57, 3) := by decide +kernel
theorem dX8_becomes_88 : decode cX8_becomes 88 = .ok (.putfield 76, 3) := by decide +kernel
theorem dX8_becomes_91 : decode cX8_becomes 91 = .ok (.iconst 0, 1) := by decide +kernel
theorem dX8_becomes_92 : decode cX8_becomes 92 = .ok (.istore_n 1, 1) := by decide +kernel
theorem dX8_becomes_93 : decode cX8_becomes 93 = .ok (.iload_n 1, 1) := by decide +kernel
theorem dX8_becomes_94 : decode cX8_becomes 94 = .ok (.bipush 6, 2) := by decide +kernel
theorem dX8_becomes_96 : decode cX8_becomes 96 = .ok (.if_icmp .ge 33, 3) := by decide +kernel
theorem dX8_becomes_99 : decode cX8_becomes 99 = .ok (.aload_n 0, 1) := by decide +kernel
theorem dX8_becomes_100 : decode cX8_becomes 100 = .ok (.getfield 21, 3) := by decide +kernel
theorem dX8_becomes_103 : decode cX8_becomes 103 = .ok (.iload_n 1, 1) := by decide +kernel
theorem dX8_becomes_104 : decode cX8_becomes 104 = .ok (.aload_n 0, 1) := by decide +kernel
theorem dX8_becomes_105 : decode cX8_becomes 105 = .ok (.getfield 39, 3) := by decide +kernel
theorem dX8_becomes_108 : decode cX8_becomes 108 = .ok (.iload_n 1, 1) := by decide +kernel
theorem dX8_becomes_109 : decode cX8_becomes 109 = .ok (.iaload, 1) := by decide +kernel
theorem dX8_becomes_110 : decode cX8_becomes 110 = .ok (.iastore, 1) := by decide +kernel
theorem dX8_becomes_111 : decode cX8_becomes 111 = .ok (.aload_n 0, 1) := by decide +kernel
theorem dX8_becomes_112 : decode cX8_becomes 112 = .ok (.getfield 24, 3) := by decide +kernel
theorem dX8_becomes_115 : decode cX8_becomes 115 = .ok (.iload_n 1, 1) := by decide +kernel
theorem dX8_becomes_116 : decode cX8_becomes 116 = .ok (.aload_n 0, 1) := by decide +kernel
theorem dX8_becomes_117 : decode cX8_becomes 117 = .ok (.getfield 42, 3) := by decide +kernel
theorem dX8_becomes_120 : decode cX8_becomes 120 = .ok (.iload_n 1, 1) := by decide +kernel
theorem dX8_becomes_121 : decode cX8_becomes 121 = .ok (.iaload, 1) := by decide +kernel
theorem dX8_becomes_122 : decode cX8_becomes 122 = .ok (.iastore, 1) := by decide +kernel
theorem dX8_becomes_123 : decode cX8_becomes 123 = .ok (.iinc 1 1, 3) := by decide +kernel
theorem dX8_becomes_126 : decode cX8_becomes 126 = .ok (.goto (-33), 3) := by decide +kernel
theorem dX8_becomes_129 : decode cX8_becomes 129 = .ok (.aload_n 0, 1) := by decide +kernel
theorem dX8_becomes_130 : decode cX8_becomes 130 = .ok (.iconst 0, 1) := by decide +kernel
theorem dX8_becomes_131 : decode cX8_becomes 131 = .ok (.putfield 79, 3) := by decide +kernel
theorem dX8_becomes_134 : decode cX8_becomes 134 = .ok (.aload_n 0, 1) := by decide +kernel
theorem dX8_becomes_135 : decode cX8_becomes 135 = .ok (.iconst 0, 1) := by decide +kernel
theorem dX8_becomes_136 : decode cX8_becomes 136 = .ok (.putfield 82, 3) := by decide +kernel
theorem dX8_becomes_139 : decode cX8_becomes 139 = .ok (.aload_n 0, 1) := by decide +kernel
theorem dX8_becomes_140 : decode cX8_becomes 140 = .ok (.getfield 13, 3) := by decide +kernel
theorem dX8_becomes_143 : decode cX8_becomes 143 = .ok (.iconst 0, 1) := by decide +kernel
theorem dX8_becomes_144 : decode cX8_becomes 144 = .ok (.iconst 0, 1) := by decide +kernel
theorem dX8_becomes_145 : decode cX8_becomes 145 = .ok (.bastore, 1) := by decide +kernel
theorem dX8_becomes_146 : decode cX8_becomes 146 = .ok (.aload_n 0, 1) := by decide +kernel
theorem dX8_becomes_147 : decode cX8_becomes 147 = .ok (.getfield 13, 3) := by decide +kernel
theorem dX8_becomes_150 : decode cX8_becomes 150 = .ok (.iconst 1, 1) := by decide +kernel
theorem dX8_becomes_151 : decode cX8_becomes 151 = .ok (.iconst 0, 1) := by decide +kernel
theorem dX8_becomes_152 : decode cX8_becomes 152 = .ok (.bastore, 1) := by decide +kernel
theorem dX8_becomes_153 : decode cX8_becomes 153 = .ok (.aload_n 0, 1) := by decide +kernel
theorem dX8_becomes_154 : decode cX8_becomes 154 = .ok (.iconst 0, 1) := by decide +kernel
theorem dX8_becomes_155 : decode cX8_becomes 155 = .ok (.invokevirtual 85, 3) := by decide +kernel
theorem dX8_becomes_158 : decode cX8_becomes 158 = .ok (.return_, 1) := by decide +kernel
set_option maxRecDepth 20000 in
theorem ggX8_type_X8_in : GoodIn wsX8_type wsX8_in := goodIn_r _ [7] (by decide +kernel) (by decide +kernel)
set_option maxRecDepth 20000 in
theorem gX8_type_X8_in : GoodIn wsX8_type (va_wsS RX8 91 yX8_in wsX8_in) := goodIn_app (goodIn_of _ (by decide +kernel)) ggX8_type_X8_in
theorem dX8_type_0 : decode cX8_type 0 = .ok (.iload_n 1, 1) := by decide +kernel
theorem dX8_type_1 : decode cX8_type 1 = .ok (.i2l, 1) := by decide +kernel
theorem dX8_type_2 : decode cX8_type 2 = .ok (.lconst 0, 1) := by decide +kernel
theorem dX8_type_3 : decode cX8_type 3 = .ok (.ldc2_w 89, 3) := by decide +kernel
theorem dX8_type_6 : decode cX8_type 6 = .ok (.invokestatic 91, 3) := by decide +kernel
theorem dX8_type_9 : decode cX8_type 9 = .ok (.ifCond .ne 5, 3) := by decide +kernel
theorem dX8_type_12 : decode cX8_type 12 = .ok (.iconst (-1), 1) := by decide +kernel
theorem dX8_type_13 : decode cX8_type 13 = .ok (.ireturn, 1) := by decide +kernel
theorem dX8_type_14 : decode cX8_type 14 = .ok (.aload_n 0, 1) := by decide +kernel
theorem dX8_type_15 : decode cX8_type 15 = .ok (.getfield 95, 3) := by decide +kernel
theorem dX8_type_18 : decode cX8_type 18 = .ok (.sipush 200, 3) := by decide +kernel
theorem dX8_type_21 : decode cX8_type 21 = .ok (.if_icmp .ne 6, 3) := by decide +kernel
theorem dX8_type_24 : decode cX8_type 24 = .ok (.bipush (-3), 2) := by decide +kernel
theorem dX8_type_26 : decode cX8_type 26 = .ok (.ireturn, 1) := by decide +kernel
theorem dX8_type_27 : decode cX8_type 27 = .ok (.aload_n 0, 1) := by decide +kernel
theorem dX8_type_28 : decode cX8_type 28 = .ok (.getfield 33, 3) := by decide +kernel
theorem dX8_type_31 : decode cX8_type 31 = .ok (.aload_n 0, 1) := by decide +kernel
theorem dX8_type_32 : decode cX8_type 32 = .ok (.getfield 95, 3) := by decide +kernel
theorem dX8_type_35 : decode cX8_type 35 = .ok (.iload_n 1, 1) := by decide +kernel
theorem dX8_type_36 : decode cX8_type 36 = .ok (.iastore, 1) := by decide +kernel
theorem dX8_type_37 : decode cX8_type 37 = .ok (.aload_n 0, 1) := by decide +kernel
theorem dX8_type_38 : decode cX8_type 38 = .ok (.dup, 1) := by decide +kernel
theorem dX8_type_39 : decode cX8_type 39 = .ok (.getfield 95, 3) := by decide +kernel
theorem dX8_type_42 : decode cX8_type 42 = .ok (.iconst 1, 1) := by decide +kernel
theorem dX8_type_43 : decode cX8_type 43 = .ok (.iadd, 1) := by decide +kernel
theorem dX8_type_44 : decode cX8_type 44 = .ok (.putfield 95, 3) := by decide +kernel
theorem dX8_type_47 : decode cX8_type 47 = .ok (.aload_n 0, 1) := by decide +kernel
theorem dX8_type_48 : decode cX8_type 48 = .ok (.getfield 95, 3) := by decide +kernel
theorem dX8_type_51 : decode cX8_type 51 = .ok (.ireturn, 1) := by decide +kernel
theorem dX8_clear_0 : decode cX8_clear 0 = .ok (.aload_n 0, 1) := by decide +kernel
theorem dX8_clear_1 : decode cX8_clear 1 = .ok (.getfield 95, 3) := by decide +kernel
theorem dX8_clear_4 : decode cX8_clear 4 = .ok (.istore_n 1, 1) := by decide +kernel
theorem dX8_clear_5 : decode cX8_clear 5 = .ok (.aload_n 0, 1) := by decide +kernel
theorem dX8_clear_6 : decode cX8_clear 6 = .ok (.iconst 0, 1) := by decide +kernel
theorem dX8_clear_7 : decode cX8_clear 7 = .ok (.putfield 95, 3) := by decide +kernel
theorem dX8_clear_10 : decode cX8_clear 10 = .ok (.iload_n 1, 1) := by decide +kernel
theorem dX8_clear_11 : decode cX8_clear 11 = .ok (.ireturn, 1) := by decide +kernel
theorem dX8_letterAt_0 : decode cX8_letterAt 0 = .ok (.iload_n 1, 1) := by decide +kernel
theorem dX8_letterAt_1 : decode cX8_letterAt 1 = .ok (.aload_n 0, 1) := by decide +kernel
theorem dX8_letterAt_2 : decode cX8_letterAt 2 = .ok (.getfield 95, 3) := by decide +kernel
theorem dX8_letterAt_5 : decode cX8_letterAt 5 = .ok (.if_icmp .ge 12, 3) := by decide +kernel
theorem dX8_letterAt_8 : decode cX8_letterAt 8 = .ok (.aload_n 0, 1) := by decide +kernel
theorem dX8_letterAt_9 : decode cX8_letterAt 9 = .ok (.getfield 33, 3) := by decide +kernel
theorem dX8_letterAt_12 : decode cX8_letterAt 12 = .ok (.iload_n 1, 1) := by decide +kernel
theorem dX8_letterAt_13 : decode cX8_letterAt 13 = .ok (.iaload, 1) := by decide +kernel
theorem dX8_letterAt_14 : decode cX8_letterAt 14 = .ok (.goto 4, 3) := by decide +kernel
theorem dX8_letterAt_17 : decode cX8_letterAt 17 = .ok (.iconst (-1), 1) := by decide +kernel
theorem dX8_letterAt_18 : decode cX8_letterAt 18 = .ok (.ireturn, 1) := by decide +kernel
set_option maxRecDepth 20000 in
theorem ggX8_blanks_X8_letterAt : GoodIn wsX8_blanks wsX8_letterAt := goodIn_r _ [7, 8, 9, 10, 11, 12, 13, 14, 15, 16, 17, 18, 19, 20, 21, 22, 23, 24, 25, 26, 27, 28, 29, 30, 31, 32, 33, 34, 35, 36, 37] (by decide +kernel) (by decide +kernel)
set_option maxRecDepth 20000 in
theorem gX8_blanks_X8_letterAt : GoodIn wsX8_blanks (wsV RX8 101 RX8 yX8_letterAt wsX8_letterAt) := goodIn_app (goodIn_of _ (by decide +kernel)) ggX8_blanks_X8_letterAt
theorem dX8_blanks_0 : decode cX8_blanks 0 = .ok (.aload_n 0, 1) := by decide +kernel
theorem dX8_blanks_1 : decode cX8_blanks 1 = .ok (.aload_n 0, 1) := by decide +kernel
theorem dX8_blanks_2 : decode cX8_blanks 2 = .ok (.getfield 98, 3) := by decide +kernel
theorem dX8_blanks_5 : decode cX8_blanks 5 = .ok (.invokevirtual 101, 3) := by decide +kernel
theorem dX8_blanks_8 : decode cX8_blanks 8 = .ok (.bipush 32, 2) := by decide +kernel
theorem dX8_blanks_10 : decode cX8_blanks 10 = .ok (.if_icmp .ne 16, 3) := by decide +kernel
theorem dX8_blanks_13 : decode cX8_blanks 13 = .ok (.aload_n 0, 1) := by decide +kernel
theorem dX8_blanks_14 : decode cX8_blanks 14 = .ok (.dup, 1) := by decide +kernel
theorem dX8_blanks_15 : decode cX8_blanks 15 = .ok (.getfield 98, 3) := by decide +kernel
theorem dX8_blanks_18 : decode cX8_blanks 18 = .ok (.iconst 1, 1) := by decide +kernel
theorem dX8_blanks_19 : decode cX8_blanks 19 = .ok (.iadd, 1) := by decide +kernel
theorem dX8_blanks_20 : decode cX8_blanks 20 = .ok (.putfield 98, 3) := by decide +kernel
theorem dX8_blanks_23 : decode cX8_blanks 23 = .ok (.goto (-23), 3) := by decide +kernel
theorem dX8_blanks_26 : decode cX8_blanks 26 = .ok (.aload_n 0, 1) := by decide +kernel
theorem dX8_blanks_27 : decode cX8_blanks 27 = .ok (.aload_n 0, 1) := by decide +kernel
theorem dX8_blanks_28 : decode cX8_blanks 28 = .ok (.getfield 98, 3) := by decide +kernel
theorem dX8_blanks_31 : decode cX8_blanks 31 = .ok (.putfield 105, 3) := by decide +kernel
theorem dX8_blanks_34 : decode cX8_blanks 34 = .ok (.return_, 1) := by decide +kernel
set_option maxRecDepth 20000 in
theorem ggX8_takesNumber_X8_blanks : GoodIn wsX8_takesNumber wsX8_blanks := goodIn_r _ [10, 2, 5, 11, 12, 13, 9, 14, 15, 16, 20, 21, 22, 23, 24, 25, 26, 27, 28, 29, 30, 31, 32, 33, 34, 35, 36, 37, 38, 39, 40, 41, 42, 43, 44, 45, 46, 47] (by decide +kernel) (by decide +kernel)
set_option maxRecDepth 20000 in
theorem gX8_takesNumber_X8_blanks : GoodIn wsX8_takesNumber (wsV RX8 108 RX8 yX8_blanks wsX8_blanks) := goodIn_app (goodIn_of _ (by decide +kernel)) ggX8_takesNumber_X8_blanks
set_option maxRecDepth 20000 in
theorem ggX8_takesNumber_X8_letterAt : GoodIn wsX8_takesNumber wsX8_letterAt := goodIn_r _ [14, 15, 16, 20, 21, 22, 23, 24, 25, 26, 27, 28, 29, 30, 31, 32, 33, 34, 35, 36, 37, 38, 39, 40, 41, 42, 43, 44, 45, 46, 47] (by decide +kernel) (by decide +kernel)
set_option maxRecDepth 20000 in
theorem gX8_takesNumber_X8_letterAt : GoodIn wsX8_takesNumber (wsV RX8 101 RX8 yX8_letterAt wsX8_letterAt) := goodIn_app (goodIn_of _ (by decide +kernel)) ggX8_takesNumber_X8_letterAt
set_option maxRecDepth 20000 in
theorem ggX8_takesNumber_X8_in : GoodIn wsX8_takesNumber wsX8_in := goodIn_r _ [19] (by decide +kernel) (by decide +kernel)
set_option maxRecDepth 20000 in
theorem gX8_takesNumber_X8_in : GoodIn wsX8_takesNumber (va_wsS RX8 91 yX8_in wsX8_in) := goodIn_app (goodIn_of _ (by decide +kernel)) ggX8_takesNumber_X8_in
theorem dX8_takesNumber_0 : decode cX8_takesNumber 0 = .ok (.aload_n 0, 1) := by decide +kernel
theorem dX8_takesNumber_1 : decode cX8_takesNumber 1 = .ok (.invokevirtual 108, 3) := by decide +kernel
theorem dX8_takesNumber_4 : decode cX8_takesNumber 4 = .ok (.aload_n 0, 1) := by decide +kernel
theorem dX8_takesNumber_5 : decode cX8_takesNumber 5 = .ok (.iconst 0, 1) := by decide +kernel
theorem dX8_takesNumber_6 : decode cX8_takesNumber 6 = .ok (.putfield 111, 3) := by decide +kernel
theorem dX8_takesNumber_9 : decode cX8_takesNumber 9 = .ok (.aload_n 0, 1) := by decide +kernel
theorem dX8_takesNumber_10 : decode cX8_takesNumber 10 = .ok (.aload_n 0, 1) := by decide +kernel
theorem dX8_takesNumber_11 : decode cX8_takesNumber 11 = .ok (.getfield 98, 3) := by decide +kernel
theorem dX8_takesNumber_14 : decode cX8_takesNumber 14 = .ok (.invokevirtual 101, 3) := by decide +kernel
theorem dX8_takesNumber_17 : decode cX8_takesNumber 17 = .ok (.i2l, 1) := by decide +kernel
theorem dX8_takesNumber_18 : decode cX8_takesNumber 18 = .ok (.ldc2_w 114, 3) := by decide +kernel
theorem dX8_takesNumber_21 : decode cX8_takesNumber 21 = .ok (.ldc2_w 116, 3) := by decide +kernel
theorem dX8_takesNumber_24 : decode cX8_takesNumber 24 = .ok (.invokestatic 91, 3) := by decide +kernel
theorem dX8_takesNumber_27 : decode cX8_takesNumber 27 = .ok (.ifCond .eq 56, 3) := by decide +kernel
theorem dX8_takesNumber_30 : decode cX8_takesNumber 30 = .ok (.aload_n 0, 1) := by decide +kernel
theorem dX8_takesNumber_31 : decode cX8_takesNumber 31 = .ok (.aload_n 0, 1) := by decide +kernel
theorem dX8_takesNumber_32 : decode cX8_takesNumber 32 = .ok (.getfield 111, 3) := by decide +kernel
theorem dX8_takesNumber_35 : decode cX8_takesNumber 35 = .ok (.sipush 200, 3) := by decide +kernel
theorem dX8_takesNumber_38 : decode cX8_takesNumber 38 = .ok (.if_icmp .le 10, 3) := by decide +kernel
theorem dX8_takesNumber_41 : decode cX8_takesNumber 41 = .ok (.aload_n 0, 1) := by decide +kernel
theorem dX8_takesNumber_42 : decode cX8_takesNumber 42 = .ok (.getfield 111, 3) := by decide +kernel
theorem dX8_takesNumber_45 : decode cX8_takesNumber 45 = .ok (.goto 22, 3) := by decide +kernel
theorem dX8_takesNumber_48 : decode cX8_takesNumber 48 = .ok (.bipush 10, 2) := by decide +kernel
theorem dX8_takesNumber_50 : decode cX8_takesNumber 50 = .ok (.aload_n 0, 1) := by decide +kernel
theorem dX8_takesNumber_51 : decode cX8_takesNumber 51 = .ok (.getfield 111, 3) := by decide +kernel
theorem dX8_takesNumber_54 : decode cX8_takesNumber 54 = .ok (.imul, 1) := by decide +kernel
theorem dX8_takesNumber_55 : decode cX8_takesNumber 55 = .ok (.aload_n 0, 1) := by decide +kernel
theorem dX8_takesNumber_56 : decode cX8_takesNumber 56 = .ok (.aload_n 0, 1) := by decide +kernel
theorem dX8_takesNumber_57 : decode cX8_takesNumber 57 = .ok (.getfield 98, 3) := by decide +kernel
theorem dX8_takesNumber_60 : decode cX8_takesNumber 60 = .ok (.invokevirtual 101, 3) := by decide +kernel
theorem dX8_takesNumber_63 : decode cX8_takesNumber 63 = .ok (.iadd, 1) := by decide +kernel
theorem dX8_takesNumber_64 : decode cX8_takesNumber 64 = .ok (.bipush 48, 2) := by decide +kernel
theorem dX8_takesNumber_66 : decode cX8_takesNumber 66 = .ok (.isub, 1) := by decide +kernel
theorem dX8_takesNumber_67 : decode cX8_takesNumber 67 = .ok (.putfield 111, 3) := by decide +kernel
theorem dX8_takesNumber_70 : decode cX8_takesNumber 70 = .ok (.aload_n 0, 1) := by decide +kernel
theorem dX8_takesNumber_71 : decode cX8_takesNumber 71 = .ok (.dup, 1) := by decide +kernel
theorem dX8_takesNumber_72 : decode cX8_takesNumber 72 = .ok (.getfield 98, 3) := by decide +kernel
theorem dX8_takesNumber_75 : decode cX8_takesNumber 75 = .ok (.iconst 1, 1) := by decide +kernel
theorem dX8_takesNumber_76 : decode cX8_takesNumber 76 = .ok (.iadd, 1) := by decide +kernel
theorem dX8_takesNumber_77 : decode cX8_takesNumber 77 = .ok (.putfield 98, 3) := by decide +kernel
theorem dX8_takesNumber_80 : decode cX8_takesNumber 80 = .ok (.goto (-71), 3) := by decide +kernel
theorem dX8_takesNumber_83 : decode cX8_takesNumber 83 = .ok (.aload_n 0, 1) := by decide +kernel
theorem dX8_takesNumber_84 : decode cX8_takesNumber 84 = .ok (.getfield 98, 3) := by decide +kernel
theorem dX8_takesNumber_87 : decode cX8_takesNumber 87 = .ok (.aload_n 0, 1) := by decide +kernel
theorem dX8_takesNumber_88 : decode cX8_takesNumber 88 = .ok (.getfield 105, 3) := by decide +kernel
theorem dX8_takesNumber_91 : decode cX8_takesNumber 91 = .ok (.iconst 1, 1) := by decide +kernel
theorem dX8_takesNumber_92 : decode cX8_takesNumber 92 = .ok (.iadd, 1) := by decide +kernel
theorem dX8_takesNumber_93 : decode cX8_takesNumber 93 = .ok (.if_icmp .eq 27, 3) := by decide +kernel
theorem dX8_takesNumber_96 : decode cX8_takesNumber 96 = .ok (.aload_n 0, 1) := by decide +kernel
theorem dX8_takesNumber_97 : decode cX8_takesNumber 97 = .ok (.getfield 98, 3) := by decide +kernel
theorem dX8_takesNumber_100 : decode cX8_takesNumber 100 = .ok (.aload_n 0, 1) := by decide +kernel
theorem dX8_takesNumber_101 : decode cX8_takesNumber 101 = .ok (.getfield 105, 3) := by decide +kernel
theorem dX8_takesNumber_104 : decode cX8_takesNumber 104 = .ok (.if_icmp .le 20, 3) := by decide +kernel
theorem dX8_takesNumber_107 : decode cX8_takesNumber 107 = .ok (.aload_n 0, 1) := by decide +kernel
theorem dX8_takesNumber_108 : decode cX8_takesNumber 108 = .ok (.aload_n 0, 1) := by decide +kernel
theorem dX8_takesNumber_109 : decode cX8_takesNumber 109 = .ok (.getfield 105, 3) := by decide +kernel
theorem dX8_takesNumber_112 : decode cX8_takesNumber 112 = .ok (.invokevirtual 101, 3) := by decide +kernel
theorem dX8_takesNumber_115 : decode cX8_takesNumber 115 = .ok (.bipush 48, 2) := by decide +kernel
theorem dX8_takesNumber_117 : decode cX8_takesNumber 117 = .ok (.if_icmp .eq 7, 3) := by decide +kernel
theorem dX8_takesNumber_120 : decode cX8_takesNumber 120 = .ok (.iconst 1, 1) := by decide +kernel
theorem dX8_takesNumber_121 : decode cX8_takesNumber 121 = .ok (.goto 4, 3) := by decide +kernel
theorem dX8_takesNumber_124 : decode cX8_takesNumber 124 = .ok (.iconst 0, 1) := by decide +kernel
theorem dX8_takesNumber_125 : decode cX8_takesNumber 125 = .ok (.istore_n 3, 1) := by decide +kernel
theorem dX8_takesNumber_126 : decode cX8_takesNumber 126 = .ok (.iload_n 3, 1) := by decide +kernel
theorem dX8_takesNumber_127 : decode cX8_takesNumber 127 = .ok (.ifCond .eq 32, 3) := by decide +kernel
theorem dX8_takesNumber_130 : decode cX8_takesNumber 130 = .ok (.aload_n 0, 1) := by decide +kernel
theorem dX8_takesNumber_131 : decode cX8_takesNumber 131 = .ok (.getfield 111, 3) := by decide +kernel
theorem dX8_takesNumber_134 : decode cX8_takesNumber 134 = .ok (.sipush 200, 3) := by decide +kernel
theorem dX8_takesNumber_137 : decode cX8_takesNumber 137 = .ok (.if_icmp .gt 22, 3) := by decide +kernel
theorem dX8_takesNumber_140 : decode cX8_takesNumber 140 = .ok (.aload_n 0, 1) := by decide +kernel
theorem dX8_takesNumber_141 : decode cX8_takesNumber 141 = .ok (.getfield 111, 3) := by decide +kernel
theorem dX8_takesNumber_144 : decode cX8_takesNumber 144 = .ok (.i2l, 1) := by decide +kernel
theorem dX8_takesNumber_145 : decode cX8_takesNumber 145 = .ok (.iload_n 1, 1) := by decide +kernel
theorem dX8_takesNumber_146 : decode cX8_takesNumber 146 = .ok (.i2l, 1) := by decide +kernel
theorem dX8_takesNumber_147 : decode cX8_takesNumber 147 = .ok (.iload_n 2, 1) := by decide +kernel
theorem dX8_takesNumber_148 : decode cX8_takesNumber 148 = .ok (.i2l, 1) := by decide +kernel
theorem dX8_takesNumber_149 : decode cX8_takesNumber 149 = .ok (.invokestatic 91, 3) := by decide +kernel
theorem dX8_takesNumber_152 : decode cX8_takesNumber 152 = .ok (.ifCond .eq 7, 3) := by decide +kernel
theorem dX8_takesNumber_155 : decode cX8_takesNumber 155 = .ok (.iconst 1, 1) := by decide +kernel
theorem dX8_takesNumber_156 : decode cX8_takesNumber 156 = .ok (.goto 4, 3) := by decide +kernel
theorem dX8_takesNumber_159 : decode cX8_takesNumber 159 = .ok (.iconst 0, 1) := by decide +kernel
theorem dX8_takesNumber_160 : decode cX8_takesNumber 160 = .ok (.ireturn, 1) := by decide +kernel
set_option maxRecDepth 20000 in
theorem ggX8_takesEnd_X8_blanks : GoodIn wsX8_takesEnd wsX8_blanks := goodIn_r _ [6, 1, 7, 8, 9, 10, 5, 11, 12, 13, 14, 15, 16, 17, 18, 19, 20, 21, 22, 23, 24, 25, 26, 27, 28, 29, 30, 31, 32, 33, 34, 35, 36, 37, 38, 39, 40, 41] (by decide +kernel) (by decide +kernel)
set_option maxRecDepth 20000 in
theorem gX8_takesEnd_X8_blanks : GoodIn wsX8_takesEnd (wsV RX8 108 RX8 yX8_blanks wsX8_blanks) := goodIn_app (goodIn_of _ (by decide +kernel)) ggX8_takesEnd_X8_blanks
set_option maxRecDepth 20000 in
theorem ggX8_takesEnd_X8_letterAt : GoodIn wsX8_takesEnd wsX8_letterAt := goodIn_r _ [11, 12, 13, 14, 15, 16, 17, 18, 19, 20, 21, 22, 23, 24, 25, 26, 27, 28, 29, 30, 31, 32, 33, 34, 35, 36, 37, 38, 39, 40, 41] (by decide +kernel) (by decide +kernel)
set_option maxRecDepth 20000 in
theorem gX8_takesEnd_X8_letterAt : GoodIn wsX8_takesEnd (wsV RX8 101 RX8 yX8_letterAt wsX8_letterAt) := goodIn_app (goodIn_of _ (by decide +kernel)) ggX8_takesEnd_X8_letterAt
theorem dX8_takesEnd_0 : decode cX8_takesEnd 0 = .ok (.aload_n 0, 1) := by decide +kernel
theorem dX8_takesEnd_1 : decode cX8_takesEnd 1 = .ok (.invokevirtual 108, 3) := by decide +kernel
theorem dX8_takesEnd_4 : decode cX8_takesEnd 4 = .ok (.aload_n 0, 1) := by decide +kernel
theorem dX8_takesEnd_5 : decode cX8_takesEnd 5 = .ok (.aload_n 0, 1) := by decide +kernel
theorem dX8_takesEnd_6 : decode cX8_takesEnd 6 = .ok (.getfield 98, 3) := by decide +kernel
theorem dX8_takesEnd_9 : decode cX8_takesEnd 9 = .ok (.invokevirtual 101, 3) := by decide +kernel
theorem dX8_takesEnd_12 : decode cX8_takesEnd 12 = .ok (.bipush 59, 2) := by decide +kernel
theorem dX8_takesEnd_14 : decode cX8_takesEnd 14 = .ok (.if_icmp .ne 7, 3) := by decide +kernel
theorem dX8_takesEnd_17 : decode cX8_takesEnd 17 = .ok (.iconst 1, 1) := by decide +kernel
theorem dX8_takesEnd_18 : decode cX8_takesEnd 18 = .ok (.goto 4, 3) := by decide +kernel
theorem dX8_takesEnd_21 : decode cX8_takesEnd 21 = .ok (.iconst 0, 1) := by decide +kernel
theorem dX8_takesEnd_22 : decode cX8_takesEnd 22 = .ok (.istore_n 1, 1) := by decide +kernel
theorem dX8_takesEnd_23 : decode cX8_takesEnd 23 = .ok (.aload_n 0, 1) := by decide +kernel
theorem dX8_takesEnd_24 : decode cX8_takesEnd 24 = .ok (.dup, 1) := by decide +kernel
theorem dX8_takesEnd_25 : decode cX8_takesEnd 25 = .ok (.getfield 98, 3) := by decide +kernel
theorem dX8_takesEnd_28 : decode cX8_takesEnd 28 = .ok (.iload_n 1, 1) := by decide +kernel
theorem dX8_takesEnd_29 : decode cX8_takesEnd 29 = .ok (.ifCond .eq 7, 3) := by decide +kernel
theorem dX8_takesEnd_32 : decode cX8_takesEnd 32 = .ok (.iconst 1, 1) := by decide +kernel
theorem dX8_takesEnd_33 : decode cX8_takesEnd 33 = .ok (.goto 4, 3) := by decide +kernel
theorem dX8_takesEnd_36 : decode cX8_takesEnd 36 = .ok (.iconst 0, 1) := by decide +kernel
theorem dX8_takesEnd_37 : decode cX8_takesEnd 37 = .ok (.iadd, 1) := by decide +kernel
theorem dX8_takesEnd_38 : decode cX8_takesEnd 38 = .ok (.putfield 98, 3) := by decide +kernel
theorem dX8_takesEnd_41 : decode cX8_takesEnd 41 = .ok (.iload_n 1, 1) := by decide +kernel
theorem dX8_takesEnd_42 : decode cX8_takesEnd 42 = .ok (.ireturn, 1) := by decide +kernel
set_option maxRecDepth 20000 in
theorem ggX8_takes_X8_takesNumber : GoodIn wsX8_takes wsX8_takesNumber := goodIn_r _ [7, 2, 8, 9, 10, 11, 12, 13, 14, 6, 15, 16, 17, 18, 19, 20, 21, 22, 23, 24, 25, 26, 27, 28, 29, 30, 31, 32, 33, 34, 35, 36, 37, 38, 39, 40, 41, 42, 43, 44, 45, 46, 47, 48, 49, 50, 51, 52] (by decide +kernel) (by decide +kernel)
set_option maxRecDepth 20000 in
theorem gX8_takes_X8_takesNumber : GoodIn wsX8_takes (wsV RX8 118 RX8 yX8_takesNumber wsX8_takesNumber) := goodIn_app (goodIn_of _ (by decide +kernel)) ggX8_takes_X8_takesNumber
theorem dX8_takes_0 : decode cX8_takes 0 = .ok (.aload_n 0, 1) := by decide +kernel
theorem dX8_takes_1 : decode cX8_takes 1 = .ok (.iload_n 2, 1) := by decide +kernel
theorem dX8_takes_2 : decode cX8_takes 2 = .ok (.iload_n 3, 1) := by decide +kernel
theorem dX8_takes_3 : decode cX8_takes 3 = .ok (.invokevirtual 118, 3) := by decide +kernel
theorem dX8_takes_6 : decode cX8_takes 6 = .ok (.ifCond .ne 5, 3) := by decide +kernel
theorem dX8_takes_9 : decode cX8_takes 9 = .ok (.iconst 0, 1) := by decide +kernel
theorem dX8_takes_10 : decode cX8_takes 10 = .ok (.ireturn, 1) := by decide +kernel
theorem dX8_takes_11 : decode cX8_takes 11 = .ok (.aload_n 0, 1) := by decide +kernel
theorem dX8_takes_12 : decode cX8_takes 12 = .ok (.getfield 36, 3) := by decide +kernel
theorem dX8_takes_15 : decode cX8_takes 15 = .ok (.iload_n 1, 1) := by decide +kernel
theorem dX8_takes_16 : decode cX8_takes 16 = .ok (.aload_n 0, 1) := by decide +kernel
theorem dX8_takes_17 : decode cX8_takes 17 = .ok (.getfield 111, 3) := by decide +kernel
theorem dX8_takes_20 : decode cX8_takes 20 = .ok (.iastore, 1) := by decide +kernel
theorem dX8_takes_21 : decode cX8_takes 21 = .ok (.iconst 1, 1) := by decide +kernel
theorem dX8_takes_22 : decode cX8_takes 22 = .ok (.ireturn, 1) := by decide +kernel
set_option maxRecDepth 20000 in
theorem ggX8_takesDue_X8_takesNumber : GoodIn wsX8_takesDue wsX8_takesNumber := goodIn_r _ [9, 3, 10, 11, 12, 13, 14, 15, 16, 8, 17, 18, 19, 20, 21, 22, 23, 24, 25, 26, 27, 28, 29, 30, 31, 32, 33, 34, 35, 36, 37, 38, 39, 40, 41, 42, 43, 44, 45, 46, 47, 48, 49, 50, 51, 52, 53, 54] (by decide +kernel) (by decide +kernel)
set_option maxRecDepth 20000 in
theorem gX8_takesDue_X8_takesNumber : GoodIn wsX8_takesDue (wsV RX8 118 RX8 yX8_takesNumber wsX8_takesNumber) := goodIn_app (goodIn_of _ (by decide +kernel)) ggX8_takesDue_X8_takesNumber
theorem dX8_takesDue_0 : decode cX8_takesDue 0 = .ok (.aload_n 0, 1) := by decide +kernel
theorem dX8_takesDue_1 : decode cX8_takesDue 1 = .ok (.getfield 57, 3) := by decide +kernel
theorem dX8_takesDue_4 : decode cX8_takesDue 4 = .ok (.bipush 6, 2) := by decide +kernel
theorem dX8_takesDue_6 : decode cX8_takesDue 6 = .ok (.if_icmp .eq 13, 3) := by decide +kernel
theorem dX8_takesDue_9 : decode cX8_takesDue 9 = .ok (.aload_n 0, 1) := by decide +kernel
theorem dX8_takesDue_10 : decode cX8_takesDue 10 = .ok (.iconst 1, 1) := by decide +kernel
theorem dX8_takesDue_11 : decode cX8_takesDue 11 = .ok (.bipush 120, 2) := by decide +kernel
theorem dX8_takesDue_13 : decode cX8_takesDue 13 = .ok (.invokevirtual 118, 3) := by decide +kernel
theorem dX8_takesDue_16 : decode cX8_takesDue 16 = .ok (.ifCond .ne 5, 3) := by decide +kernel
theorem dX8_takesDue_19 : decode cX8_takesDue 19 = .ok (.iconst 0, 1) := by decide +kernel
theorem dX8_takesDue_20 : decode cX8_takesDue 20 = .ok (.ireturn, 1) := by decide +kernel
theorem dX8_takesDue_21 : decode cX8_takesDue 21 = .ok (.aload_n 0, 1) := by decide +kernel
theorem dX8_takesDue_22 : decode cX8_takesDue 22 = .ok (.getfield 39, 3) := by decide +kernel
theorem dX8_takesDue_25 : decode cX8_takesDue 25 = .ok (.aload_n 0, 1) := by decide +kernel
theorem dX8_takesDue_26 : decode cX8_takesDue 26 = .ok (.getfield 57, 3) := by decide +kernel
theorem dX8_takesDue_29 : decode cX8_takesDue 29 = .ok (.aload_n 0, 1) := by decide +kernel
theorem dX8_takesDue_30 : decode cX8_takesDue 30 = .ok (.getfield 111, 3) := by decide +kernel
theorem dX8_takesDue_33 : decode cX8_takesDue 33 = .ok (.iastore, 1) := by decide +kernel
theorem dX8_takesDue_34 : decode cX8_takesDue 34 = .ok (.aload_n 0, 1) := by decide +kernel
theorem dX8_takesDue_35 : decode cX8_takesDue 35 = .ok (.iconst 1, 1) := by decide +kernel
theorem dX8_takesDue_36 : decode cX8_takesDue 36 = .ok (.sipush 200, 3) := by decide +kernel
theorem dX8_takesDue_39 : decode cX8_takesDue 39 = .ok (.invokevirtual 118, 3) := by decide +kernel
theorem dX8_takesDue_42 : decode cX8_takesDue 42 = .ok (.ifCond .ne 5, 3) := by decide +kernel
theorem dX8_takesDue_45 : decode cX8_takesDue 45 = .ok (.iconst 0, 1) := by decide +kernel
theorem dX8_takesDue_46 : decode cX8_takesDue 46 = .ok (.ireturn, 1) := by decide +kernel
theorem dX8_takesDue_47 : decode cX8_takesDue 47 = .ok (.aload_n 0, 1) := by decide +kernel
theorem dX8_takesDue_48 : decode cX8_takesDue 48 = .ok (.getfield 42, 3) := by decide +kernel
theorem dX8_takesDue_51 : decode cX8_takesDue 51 = .ok (.aload_n 0, 1) := by decide +kernel
theorem dX8_takesDue_52 : decode cX8_takesDue 52 = .ok (.getfield 57, 3) := by decide +kernel
theorem dX8_takesDue_55 : decode cX8_takesDue 55 = .ok (.aload_n 0, 1) := by decide +kernel
theorem dX8_takesDue_56 : decode cX8_takesDue 56 = .ok (.getfield 111, 3) := by decide +kernel
theorem dX8_takesDue_59 : decode cX8_takesDue 59 = .ok (.iastore, 1) := by decide +kernel
theorem dX8_takesDue_60 : decode cX8_takesDue 60 = .ok (.aload_n 0, 1) := by decide +kernel
theorem dX8_takesDue_61 : decode cX8_takesDue 61 = .ok (.dup, 1) := by decide +kernel
theorem dX8_takesDue_62 : decode cX8_takesDue 62 = .ok (.getfield 57, 3) := by decide +kernel
theorem dX8_takesDue_65 : decode cX8_takesDue 65 = .ok (.iconst 1, 1) := by decide +kernel
theorem dX8_takesDue_66 : decode cX8_takesDue 66 = .ok (.iadd, 1) := by decide +kernel
theorem dX8_takesDue_67 : decode cX8_takesDue 67 = .ok (.putfield 57, 3) := by decide +kernel
theorem dX8_takesDue_70 : decode cX8_takesDue 70 = .ok (.iconst 1, 1) := by decide +kernel
theorem dX8_takesDue_71 : decode cX8_takesDue 71 = .ok (.ireturn, 1) := by decide +kernel
set_option maxRecDepth 20000 in
theorem ggX8_takesItem_X8_letterAt : GoodIn wsX8_takesItem wsX8_letterAt := goodIn_r _ [8, 9, 10, 37, 38, 39, 40, 41, 42, 43, 44, 45, 46, 47, 48, 49, 50, 51, 52, 53, 54, 55, 56, 57, 58, 59, 60, 61, 62, 63, 64] (by decide +kernel) (by decide +kernel)
set_option maxRecDepth 20000 in
theorem gX8_takesItem_X8_letterAt : GoodIn wsX8_takesItem (wsV RX8 101 RX8 yX8_letterAt wsX8_letterAt) := goodIn_app (goodIn_of _ (by decide +kernel)) ggX8_takesItem_X8_letterAt
set_option maxRecDepth 20000 in
theorem ggX8_takesItem_X8_takes : GoodIn wsX8_takesItem wsX8_takes := goodIn_r _ [14, 3, 15, 16, 17, 18, 7, 19, 1, 20, 21, 22, 23, 24, 25, 26, 4, 5, 6, 8, 9, 10, 27, 28, 29, 37, 38, 39, 40, 41, 42, 43, 44, 45, 46, 47, 48, 49, 50, 51, 52, 53, 54, 55, 56, 57, 58, 59, 60, 61, 62, 63, 64] (by decide +kernel) (by decide +kernel)
set_option maxRecDepth 20000 in
theorem gX8_takesItem_X8_takes : GoodIn wsX8_takesItem (wsV RX8 122 RX8 yX8_takes wsX8_takes) := goodIn_app (goodIn_of _ (by decide +kernel)) ggX8_takesItem_X8_takes
set_option maxRecDepth 20000 in
theorem ggX8_takesItem_X8_takesDue : GoodIn wsX8_takesItem wsX8_takesDue := goodIn_r _ [33, 34, 35, 15, 36, 16, 17, 18, 7, 19, 1, 20, 21, 22, 23, 24, 25, 26, 4, 5, 6, 8, 9, 10, 27, 28, 29, 37, 38, 39, 40, 41, 42, 43, 44, 45, 46, 47, 48, 49, 50, 51, 52, 53, 54, 55, 56, 57, 58, 59, 60, 61, 62, 63, 64] (by decide +kernel) (by decide +kernel)
set_option maxRecDepth 20000 in
theorem gX8_takesItem_X8_takesDue : GoodIn wsX8_takesItem (wsV RX8 126 RX8 yX8_takesDue wsX8_takesDue) := goodIn_app (goodIn_of _ (by decide +kernel)) ggX8_takesItem_X8_takesDue
theorem dX8_takesItem_0 : decode cX8_takesItem 0 = .ok (.aload_n 0, 1) := by decide +kernel
theorem dX8_takesItem_1 : decode cX8_takesItem 1 = .ok (.aload_n 0, 1) := by decide +kernel
theorem dX8_takesItem_2 : decode cX8_takesItem 2 = .ok (.getfield 98, 3) := by decide +kernel
theorem dX8_takesItem_5 : decode cX8_takesItem 5 = .ok (.invokevirtual 101, 3) := by decide +kernel
theorem dX8_takesItem_8 : decode cX8_takesItem 8 = .ok (.istore_n 1, 1) := by decide +kernel
theorem dX8_takesItem_9 : decode cX8_takesItem 9 = .ok (.iload_n 1, 1) := by decide +kernel
theorem dX8_takesItem_10 : decode cX8_takesItem 10 = .ok (.bipush 114, 2) := by decide +kernel
theorem dX8_takesItem_12 : decode cX8_takesItem 12 = .ok (.if_icmp .ne 7, 3) := by decide +kernel
theorem dX8_takesItem_15 : decode cX8_takesItem 15 = .ok (.iconst 1, 1) := by decide +kernel
theorem dX8_takesItem_16 : decode cX8_takesItem 16 = .ok (.goto 24, 3) := by decide +kernel
theorem dX8_takesItem_19 : decode cX8_takesItem 19 = .ok (.iload_n 1, 1) := by decide +kernel
theorem dX8_takesItem_20 : decode cX8_takesItem 20 = .ok (.bipush 108, 2) := by decide +kernel
theorem dX8_takesItem_22 : decode cX8_takesItem 22 = .ok (.if_icmp .ne 7, 3) := by decide +kernel
theorem dX8_takesItem_25 : decode cX8_takesItem 25 = .ok (.iconst 2, 1) := by decide +kernel
theorem dX8_takesItem_26 : decode cX8_takesItem 26 = .ok (.goto 14, 3) := by decide +kernel
theorem dX8_takesItem_29 : decode cX8_takesItem 29 = .ok (.iload_n 1, 1) := by decide +kernel
theorem dX8_takesItem_30 : decode cX8_takesItem 30 = .ok (.bipush 116, 2) := by decide +kernel
theorem dX8_takesItem_32 : decode cX8_takesItem 32 = .ok (.if_icmp .ne 7, 3) := by decide +kernel
theorem dX8_takesItem_35 : decode cX8_takesItem 35 = .ok (.iconst 4, 1) := by decide +kernel
theorem dX8_takesItem_36 : decode cX8_takesItem 36 = .ok (.goto 4, 3) := by decide +kernel
theorem dX8_takesItem_39 : decode cX8_takesItem 39 = .ok (.iconst 0, 1) := by decide +kernel
theorem dX8_takesItem_40 : decode cX8_takesItem 40 = .ok (.istore_n 2, 1) := by decide +kernel
theorem dX8_takesItem_41 : decode cX8_takesItem 41 = .ok (.iload_n 2, 1) := by decide +kernel
theorem dX8_takesItem_42 : decode cX8_takesItem 42 = .ok (.ifCond .ne 9, 3) := by decide +kernel
theorem dX8_takesItem_45 : decode cX8_takesItem 45 = .ok (.iload_n 1, 1) := by decide +kernel
theorem dX8_takesItem_46 : decode cX8_takesItem 46 = .ok (.bipush 112, 2) := by decide +kernel
theorem dX8_takesItem_48 : decode cX8_takesItem 48 = .ok (.if_icmp .ne 12, 3) := by decide +kernel
theorem dX8_takesItem_51 : decode cX8_takesItem 51 = .ok (.aload_n 0, 1) := by decide +kernel
theorem dX8_takesItem_52 : decode cX8_takesItem 52 = .ok (.getfield 61, 3) := by decide +kernel
theorem dX8_takesItem_55 : decode cX8_takesItem 55 = .ok (.iload_n 2, 1) := by decide +kernel
theorem dX8_takesItem_56 : decode cX8_takesItem 56 = .ok (.iand, 1) := by decide +kernel
theorem dX8_takesItem_57 : decode cX8_takesItem 57 = .ok (.ifCond .eq 5, 3) := by decide +kernel
theorem dX8_takesItem_60 : decode cX8_takesItem 60 = .ok (.iconst 0, 1) := by decide +kernel
theorem dX8_takesItem_61 : decode cX8_takesItem 61 = .ok (.ireturn, 1) := by decide +kernel
theorem dX8_takesItem_62 : decode cX8_takesItem 62 = .ok (.aload_n 0, 1) := by decide +kernel
theorem dX8_takesItem_63 : decode cX8_takesItem 63 = .ok (.dup, 1) := by decide +kernel
theorem dX8_takesItem_64 : decode cX8_takesItem 64 = .ok (.getfield 61, 3) := by decide +kernel
theorem dX8_takesItem_67 : decode cX8_takesItem 67 = .ok (.iload_n 2, 1) := by decide +kernel
theorem dX8_takesItem_68 : decode cX8_takesItem 68 = .ok (.ior, 1) := by decide +kernel
theorem dX8_takesItem_69 : decode cX8_takesItem 69 = .ok (.putfield 61, 3) := by decide +kernel
theorem dX8_takesItem_72 : decode cX8_takesItem 72 = .ok (.aload_n 0, 1) := by decide +kernel
theorem dX8_takesItem_73 : decode cX8_takesItem 73 = .ok (.dup, 1) := by decide +kernel
theorem dX8_takesItem_74 : decode cX8_takesItem 74 = .ok (.getfield 98, 3) := by decide +kernel
theorem dX8_takesItem_77 : decode cX8_takesItem 77 = .ok (.iconst 1, 1) := by decide +kernel
theorem dX8_takesItem_78 : decode cX8_takesItem 78 = .ok (.iadd, 1) := by decide +kernel
theorem dX8_takesItem_79 : decode cX8_takesItem 79 = .ok (.putfield 98, 3) := by decide +kernel
theorem dX8_takesItem_82 : decode cX8_takesItem 82 = .ok (.iload_n 1, 1) := by decide +kernel
theorem dX8_takesItem_83 : decode cX8_takesItem 83 = .ok (.lookupswitch 116 #[(108, 72), (114, 33), (116, 107)], 33) := by decide +kernel
theorem dX8_takesItem_116 : decode cX8_takesItem 116 = .ok (.aload_n 0, 1) := by decide +kernel
theorem dX8_takesItem_117 : decode cX8_takesItem 117 = .ok (.iconst 0, 1) := by decide +kernel
theorem dX8_takesItem_118 : decode cX8_takesItem 118 = .ok (.iconst 1, 1) := by decide +kernel
theorem dX8_takesItem_119 : decode cX8_takesItem 119 = .ok (.bipush 99, 2) := by decide +kernel
theorem dX8_takesItem_121 : decode cX8_takesItem 121 = .ok (.invokevirtual 122, 3) := by decide +kernel
theorem dX8_takesItem_124 : decode cX8_takesItem 124 = .ok (.ifCond .eq 29, 3) := by decide +kernel
theorem dX8_takesItem_127 : decode cX8_takesItem 127 = .ok (.aload_n 0, 1) := by decide +kernel
theorem dX8_takesItem_128 : decode cX8_takesItem 128 = .ok (.iconst 1, 1) := by decide +kernel
theorem dX8_takesItem_129 : decode cX8_takesItem 129 = .ok (.iconst 1, 1) := by decide +kernel
theorem dX8_takesItem_130 : decode cX8_takesItem 130 = .ok (.bipush 9, 2) := by decide +kernel
theorem dX8_takesItem_132 : decode cX8_takesItem 132 = .ok (.invokevirtual 122, 3) := by decide +kernel
theorem dX8_takesItem_135 : decode cX8_takesItem 135 = .ok (.ifCond .eq 18, 3) := by decide +kernel
theorem dX8_takesItem_138 : decode cX8_takesItem 138 = .ok (.aload_n 0, 1) := by decide +kernel
theorem dX8_takesItem_139 : decode cX8_takesItem 139 = .ok (.iconst 2, 1) := by decide +kernel
theorem dX8_takesItem_140 : decode cX8_takesItem 140 = .ok (.iconst 1, 1) := by decide +kernel
theorem dX8_takesItem_141 : decode cX8_takesItem 141 = .ok (.bipush 20, 2) := by decide +kernel
theorem dX8_takesItem_143 : decode cX8_takesItem 143 = .ok (.invokevirtual 122, 3) := by decide +kernel
theorem dX8_takesItem_146 : decode cX8_takesItem 146 = .ok (.ifCond .eq 7, 3) := by decide +kernel
theorem dX8_takesItem_149 : decode cX8_takesItem 149 = .ok (.iconst 1, 1) := by decide +kernel
theorem dX8_takesItem_150 : decode cX8_takesItem 150 = .ok (.goto 4, 3) := by decide +kernel
theorem dX8_takesItem_153 : decode cX8_takesItem 153 = .ok (.iconst 0, 1) := by decide +kernel
theorem dX8_takesItem_154 : decode cX8_takesItem 154 = .ok (.ireturn, 1) := by decide +kernel
theorem dX8_takesItem_155 : decode cX8_takesItem 155 = .ok (.aload_n 0, 1) := by decide +kernel
theorem dX8_takesItem_156 : decode cX8_takesItem 156 = .ok (.iconst 3, 1) := by decide +kernel
theorem dX8_takesItem_157 : decode cX8_takesItem 157 = .ok (.iconst 1, 1) := by decide +kernel
theorem dX8_takesItem_158 : decode cX8_takesItem 158 = .ok (.bipush 8, 2) := by decide +kernel
theorem dX8_takesItem_160 : decode cX8_takesItem 160 = .ok (.invokevirtual 122, 3) := by decide +kernel
theorem dX8_takesItem_163 : decode cX8_takesItem 163 = .ok (.ifCond .eq 25, 3) := by decide +kernel
theorem dX8_takesItem_166 : decode cX8_takesItem 166 = .ok (.aload_n 0, 1) := by decide +kernel
theorem dX8_takesItem_167 : decode cX8_takesItem 167 = .ok (.iconst 4, 1) := by decide +kernel
theorem dX8_takesItem_168 : decode cX8_takesItem 168 = .ok (.aload_n 0, 1) := by decide +kernel
theorem dX8_takesItem_169 : decode cX8_takesItem 169 = .ok (.getfield 36, 3) := by decide +kernel
theorem dX8_takesItem_172 : decode cX8_takesItem 172 = .ok (.iconst 3, 1) := by decide +kernel
theorem dX8_takesItem_173 : decode cX8_takesItem 173 = .ok (.iaload, 1) := by decide +kernel
theorem dX8_takesItem_174 : decode cX8_takesItem 174 = .ok (.iconst 1, 1) := by decide +kernel
theorem dX8_takesItem_175 : decode cX8_takesItem 175 = .ok (.iadd, 1) := by decide +kernel
theorem dX8_takesItem_176 : decode cX8_takesItem 176 = .ok (.bipush 9, 2) := by decide +kernel
theorem dX8_takesItem_178 : decode cX8_takesItem 178 = .ok (.invokevirtual 122, 3) := by decide +kernel
theorem dX8_takesItem_181 : decode cX8_takesItem 181 = .ok (.ifCond .eq 7, 3) := by decide +kernel
theorem dX8_takesItem_184 : decode cX8_takesItem 184 = .ok (.iconst 1, 1) := by decide +kernel
theorem dX8_takesItem_185 : decode cX8_takesItem 185 = .ok (.goto 4, 3) := by decide +kernel
theorem dX8_takesItem_188 : decode cX8_takesItem 188 = .ok (.iconst 0, 1) := by decide +kernel
theorem dX8_takesItem_189 : decode cX8_takesItem 189 = .ok (.ireturn, 1) := by decide +kernel
theorem dX8_takesItem_190 : decode cX8_takesItem 190 = .ok (.aload_n 0, 1) := by decide +kernel
theorem dX8_takesItem_191 : decode cX8_takesItem 191 = .ok (.iconst 5, 1) := by decide +kernel
theorem dX8_takesItem_192 : decode cX8_takesItem 192 = .ok (.iconst 0, 1) := by decide +kernel
theorem dX8_takesItem_193 : decode cX8_takesItem 193 = .ok (.bipush 9, 2) := by decide +kernel
theorem dX8_takesItem_195 : decode cX8_takesItem 195 = .ok (.invokevirtual 122, 3) := by decide +kernel
theorem dX8_takesItem_198 : decode cX8_takesItem 198 = .ok (.ireturn, 1) := by decide +kernel
theorem dX8_takesItem_199 : decode cX8_takesItem 199 = .ok (.aload_n 0, 1) := by decide +kernel
theorem dX8_takesItem_200 : decode cX8_takesItem 200 = .ok (.invokevirtual 126, 3) := by decide +kernel
theorem dX8_takesItem_203 : decode cX8_takesItem 203 = .ok (.ireturn, 1) := by decide +kernel
set_option maxRecDepth 20000 in
theorem ggX8_ring_X8_readsFirst : GoodIn wsX8_ring wsX8_readsFirst := goodIn_r _ [9, 10, 11, 12, 4, 69, 70, 71, 72, 73, 74, 75, 76, 77, 78, 79, 80, 81, 82, 83, 84, 85, 86, 87, 88, 89, 90, 91, 92, 93, 94, 95, 96] (by decide +kernel) (by decide +kernel)
set_option maxRecDepth 20000 in
theorem gX8_ring_X8_readsFirst : GoodIn wsX8_ring (wsV RX8 51 RX8 yX8_readsFirst wsX8_readsFirst) := goodIn_app (goodIn_of _ (by decide +kernel)) ggX8_ring_X8_readsFirst
set_option maxRecDepth 20000 in
theorem ggX8_ring_X8_blanks : GoodIn wsX8_ring wsX8_blanks := goodIn_r _ [16, 1, 3, 17, 18, 19, 8, 20, 2, 21, 69, 70, 71, 72, 73, 74, 75, 76, 77, 78, 79, 80, 81, 82, 83, 84, 85, 86, 87, 88, 89, 90, 91, 92, 93, 94, 95, 96] (by decide +kernel) (by decide +kernel)
set_option maxRecDepth 20000 in
theorem gX8_ring_X8_blanks : GoodIn wsX8_ring (wsV RX8 108 RX8 yX8_blanks wsX8_blanks) := goodIn_app (goodIn_of _ (by decide +kernel)) ggX8_ring_X8_blanks
set_option maxRecDepth 20000 in
theorem ggX8_ring_X8_takesItem : GoodIn wsX8_ring wsX8_takesItem := goodIn_r _ [25, 1, 12, 10, 17, 18, 19, 8, 20, 2, 21, 26, 27, 28, 29, 30, 31, 32, 33, 34, 35, 36, 3, 13, 14, 15, 16, 37, 38, 39, 40, 41, 42, 43, 11, 44, 45, 69, 70, 71, 72, 73, 74, 75, 76, 77, 78, 79, 80, 81, 82, 83, 84, 85, 86, 87, 88, 89, 90, 91, 92, 93, 94, 95, 96] (by decide +kernel) (by decide +kernel)
set_option maxRecDepth 20000 in
theorem gX8_ring_X8_takesItem : GoodIn wsX8_ring (wsV RX8 130 RX8 yX8_takesItem wsX8_takesItem) := goodIn_app (goodIn_of _ (by decide +kernel)) ggX8_ring_X8_takesItem
set_option maxRecDepth 20000 in
theorem ggX8_ring_X8_takesEnd : GoodIn wsX8_ring wsX8_takesEnd := goodIn_r _ [49, 1, 13, 14, 15, 8, 16, 3, 17, 18, 19, 20, 2, 21, 69, 70, 71, 72, 73, 74, 75, 76, 77, 78, 79, 80, 81, 82, 83, 84, 85, 86, 87, 88, 89, 90, 91, 92, 93, 94, 95, 96] (by decide +kernel) (by decide +kernel)
set_option maxRecDepth 20000 in
theorem gX8_ring_X8_takesEnd : GoodIn wsX8_ring (wsV RX8 133 RX8 yX8_takesEnd wsX8_takesEnd) := goodIn_app (goodIn_of _ (by decide +kernel)) ggX8_ring_X8_takesEnd
set_option maxRecDepth 20000 in
theorem ggX8_ring_X8_becomes : GoodIn wsX8_ring wsX8_becomes := goodIn_r _ [53, 54, 10, 55, 56, 57, 11, 58, 59, 44, 60, 45, 61, 62, 63, 64, 65, 66, 8, 67, 68, 69, 70, 71, 72, 73, 74, 75, 76, 77, 78, 79, 80, 81, 82, 83, 84, 85, 86, 87, 88, 89, 90, 91, 92, 93, 94, 95, 96] (by decide +kernel) (by decide +kernel)
set_option maxRecDepth 20000 in
theorem gX8_ring_X8_becomes : GoodIn wsX8_ring (wsV RX8 54 RX8 yX8_becomes wsX8_becomes) := goodIn_app (goodIn_of _ (by decide +kernel)) ggX8_ring_X8_becomes
theorem dX8_ring_0 : decode cX8_ring 0 = .ok (.aload_n 0, 1) := by decide +kernel
theorem dX8_ring_1 : decode cX8_ring 1 = .ok (.invokevirtual 51, 3) := by decide +kernel
theorem dX8_ring_4 : decode cX8_ring 4 = .ok (.aload_n 0, 1) := by decide +kernel
theorem dX8_ring_5 : decode cX8_ring 5 = .ok (.iconst 0, 1) := by decide +kernel
theorem dX8_ring_6 : decode cX8_ring 6 = .ok (.putfield 98, 3) := by decide +kernel
theorem dX8_ring_9 : decode cX8_ring 9 = .ok (.aload_n 0, 1) := by decide +kernel
theorem dX8_ring_10 : decode cX8_ring 10 = .ok (.invokevirtual 108, 3) := by decide +kernel
theorem dX8_ring_13 : decode cX8_ring 13 = .ok (.aload_n 0, 1) := by decide +kernel
theorem dX8_ring_14 : decode cX8_ring 14 = .ok (.getfield 98, 3) := by decide +kernel
theorem dX8_ring_17 : decode cX8_ring 17 = .ok (.aload_n 0, 1) := by decide +kernel
theorem dX8_ring_18 : decode cX8_ring 18 = .ok (.getfield 95, 3) := by decide +kernel
theorem dX8_ring_21 : decode cX8_ring 21 = .ok (.if_icmp .ge 50, 3) := by decide +kernel
theorem dX8_ring_24 : decode cX8_ring 24 = .ok (.aload_n 0, 1) := by decide +kernel
theorem dX8_ring_25 : decode cX8_ring 25 = .ok (.aload_n 0, 1) := by decide +kernel
theorem dX8_ring_26 : decode cX8_ring 26 = .ok (.getfield 98, 3) := by decide +kernel
theorem dX8_ring_29 : decode cX8_ring 29 = .ok (.putfield 105, 3) := by decide +kernel
theorem dX8_ring_32 : decode cX8_ring 32 = .ok (.aload_n 0, 1) := by decide +kernel
theorem dX8_ring_33 : decode cX8_ring 33 = .ok (.invokevirtual 130, 3) := by decide +kernel
theorem dX8_ring_36 : decode cX8_ring 36 = .ok (.ifCond .eq 10, 3) := by decide +kernel
theorem dX8_ring_39 : decode cX8_ring 39 = .ok (.aload_n 0, 1) := by decide +kernel
theorem dX8_ring_40 : decode cX8_ring 40 = .ok (.invokevirtual 133, 3) := by decide +kernel
theorem dX8_ring_43 : decode cX8_ring 43 = .ok (.ifCond .ne 11, 3) := by decide +kernel
theorem dX8_ring_46 : decode cX8_ring 46 = .ok (.bipush (-10), 2) := by decide +kernel
theorem dX8_ring_48 : decode cX8_ring 48 = .ok (.aload_n 0, 1) := by decide +kernel
theorem dX8_ring_49 : decode cX8_ring 49 = .ok (.getfield 105, 3) := by decide +kernel
theorem dX8_ring_52 : decode cX8_ring 52 = .ok (.isub, 1) := by decide +kernel
theorem dX8_ring_53 : decode cX8_ring 53 = .ok (.ireturn, 1) := by decide +kernel
theorem dX8_ring_54 : decode cX8_ring 54 = .ok (.aload_n 0, 1) := by decide +kernel
theorem dX8_ring_55 : decode cX8_ring 55 = .ok (.dup, 1) := by decide +kernel
theorem dX8_ring_56 : decode cX8_ring 56 = .ok (.getfield 64, 3) := by decide +kernel
theorem dX8_ring_59 : decode cX8_ring 59 = .ok (.iconst 1, 1) := by decide +kernel
theorem dX8_ring_60 : decode cX8_ring 60 = .ok (.iadd, 1) := by decide +kernel
theorem dX8_ring_61 : decode cX8_ring 61 = .ok (.putfield 64, 3) := by decide +kernel
theorem dX8_ring_64 : decode cX8_ring 64 = .ok (.aload_n 0, 1) := by decide +kernel
theorem dX8_ring_65 : decode cX8_ring 65 = .ok (.invokevirtual 108, 3) := by decide +kernel
theorem dX8_ring_68 : decode cX8_ring 68 = .ok (.goto (-55), 3) := by decide +kernel
theorem dX8_ring_71 : decode cX8_ring 71 = .ok (.aload_n 0, 1) := by decide +kernel
theorem dX8_ring_72 : decode cX8_ring 72 = .ok (.invokevirtual 54, 3) := by decide +kernel
theorem dX8_ring_75 : decode cX8_ring 75 = .ok (.aload_n 0, 1) := by decide +kernel
theorem dX8_ring_76 : decode cX8_ring 76 = .ok (.iconst 0, 1) := by decide +kernel
theorem dX8_ring_77 : decode cX8_ring 77 = .ok (.putfield 95, 3) := by decide +kernel
theorem dX8_ring_80 : decode cX8_ring 80 = .ok (.aload_n 0, 1) := by decide +kernel
theorem dX8_ring_81 : decode cX8_ring 81 = .ok (.getfield 64, 3) := by decide +kernel
theorem dX8_ring_84 : decode cX8_ring 84 = .ok (.ireturn, 1) := by decide +kernel
set_option maxRecDepth 20000 in
theorem ggX8_isOrder_X8_in : GoodIn wsX8_isOrder wsX8_in := goodIn_r _ [5] (by decide +kernel) (by decide +kernel)
set_option maxRecDepth 20000 in
theorem gX8_isOrder_X8_in : GoodIn wsX8_isOrder (va_wsS RX8 91 yX8_in wsX8_in) := goodIn_app (goodIn_of _ (by decide +kernel)) ggX8_isOrder_X8_in
theorem dX8_isOrder_0 : decode cX8_isOrder 0 = .ok (.iload_n 0, 1) := by decide +kernel
theorem dX8_isOrder_1 : decode cX8_isOrder 1 = .ok (.i2l, 1) := by decide +kernel
theorem dX8_isOrder_2 : decode cX8_isOrder 2 = .ok (.lconst 0, 1) := by decide +kernel
theorem dX8_isOrder_3 : decode cX8_isOrder 3 = .ok (.ldc2_w 136, 3) := by decide +kernel
theorem dX8_isOrder_6 : decode cX8_isOrder 6 = .ok (.invokestatic 91, 3) := by decide +kernel
theorem dX8_isOrder_9 : decode cX8_isOrder 9 = .ok (.ireturn, 1) := by decide +kernel
theorem dX8_eachOf_0 : decode cX8_eachOf 0 = .ok (.aload_n 0, 1) := by decide +kernel
theorem dX8_eachOf_1 : decode cX8_eachOf 1 = .ok (.getfield 70, 3) := by decide +kernel
theorem dX8_eachOf_4 : decode cX8_eachOf 4 = .ok (.aload_n 0, 1) := by decide +kernel
theorem dX8_eachOf_5 : decode cX8_eachOf 5 = .ok (.getfield 73, 3) := by decide +kernel
theorem dX8_eachOf_8 : decode cX8_eachOf 8 = .ok (.iload_n 1, 1) := by decide +kernel
theorem dX8_eachOf_9 : decode cX8_eachOf 9 = .ok (.imul, 1) := by decide +kernel
theorem dX8_eachOf_10 : decode cX8_eachOf 10 = .ok (.iadd, 1) := by decide +kernel
theorem dX8_eachOf_11 : decode cX8_eachOf 11 = .ok (.ireturn, 1) := by decide +kernel
theorem dX8_dripsOf_0 : decode cX8_dripsOf 0 = .ok (.iload_n 1, 1) := by decide +kernel
theorem dX8_dripsOf_1 : decode cX8_dripsOf 1 = .ok (.iconst 4, 1) := by decide +kernel
theorem dX8_dripsOf_2 : decode cX8_dripsOf 2 = .ok (.if_icmp .ge 18, 3) := by decide +kernel
theorem dX8_dripsOf_5 : decode cX8_dripsOf 5 = .ok (.aload_n 0, 1) := by decide +kernel
theorem dX8_dripsOf_6 : decode cX8_dripsOf 6 = .ok (.getfield 17, 3) := by decide +kernel
theorem dX8_dripsOf_9 : decode cX8_dripsOf 9 = .ok (.iload_n 1, 1) := by decide +kernel
theorem dX8_dripsOf_10 : decode cX8_dripsOf 10 = .ok (.iconst 1, 1) := by decide +kernel
theorem dX8_dripsOf_11 : decode cX8_dripsOf 11 = .ok (.iadd, 1) := by decide +kernel
theorem dX8_dripsOf_12 : decode cX8_dripsOf 12 = .ok (.iaload, 1) := by decide +kernel
theorem dX8_dripsOf_13 : decode cX8_dripsOf 13 = .ok (.ifCond .le 7, 3) := by decide +kernel
theorem dX8_dripsOf_16 : decode cX8_dripsOf 16 = .ok (.iconst 1, 1) := by decide +kernel
theorem dX8_dripsOf_17 : decode cX8_dripsOf 17 = .ok (.goto 4, 3) := by decide +kernel
theorem dX8_dripsOf_20 : decode cX8_dripsOf 20 = .ok (.iconst 0, 1) := by decide +kernel
theorem dX8_dripsOf_21 : decode cX8_dripsOf 21 = .ok (.ireturn, 1) := by decide +kernel
theorem dX8_begins_0 : decode cX8_begins 0 = .ok (.iconst 0, 1) := by decide +kernel
theorem dX8_begins_1 : decode cX8_begins 1 = .ok (.istore_n 2, 1) := by decide +kernel
theorem dX8_begins_2 : decode cX8_begins 2 = .ok (.iload_n 2, 1) := by decide +kernel
theorem dX8_begins_3 : decode cX8_begins 3 = .ok (.sipush 607, 3) := by decide +kernel
theorem dX8_begins_6 : decode cX8_begins 6 = .ok (.if_icmp .ge 18, 3) := by decide +kernel
theorem dX8_begins_9 : decode cX8_begins 9 = .ok (.aload_n 0, 1) := by decide +kernel
theorem dX8_begins_10 : decode cX8_begins 10 = .ok (.getfield 7, 3) := by decide +kernel
theorem dX8_begins_13 : decode cX8_begins 13 = .ok (.iload_n 1, 1) := by decide +kernel
theorem dX8_begins_14 : decode cX8_begins 14 = .ok (.iload_n 2, 1) := by decide +kernel
theorem dX8_begins_15 : decode cX8_begins 15 = .ok (.iadd, 1) := by decide +kernel
theorem dX8_begins_16 : decode cX8_begins 16 = .ok (.lconst 0, 1) := by decide +kernel
theorem dX8_begins_17 : decode cX8_begins 17 = .ok (.lastore, 1) := by decide +kernel
theorem dX8_begins_18 : decode cX8_begins 18 = .ok (.iinc 2 1, 3) := by decide +kernel
theorem dX8_begins_21 : decode cX8_begins 21 = .ok (.goto (-19), 3) := by decide +kernel
theorem dX8_begins_24 : decode cX8_begins 24 = .ok (.aload_n 0, 1) := by decide +kernel
theorem dX8_begins_25 : decode cX8_begins 25 = .ok (.getfield 7, 3) := by decide +kernel
theorem dX8_begins_28 : decode cX8_begins 28 = .ok (.iload_n 1, 1) := by decide +kernel
theorem dX8_begins_29 : decode cX8_begins 29 = .ok (.lconst 1, 1) := by decide +kernel
theorem dX8_begins_30 : decode cX8_begins 30 = .ok (.lastore, 1) := by decide +kernel
theorem dX8_begins_31 : decode cX8_begins 31 = .ok (.return_, 1) := by decide +kernel
theorem dX8_copy_0 : decode cX8_copy 0 = .ok (.iconst 0, 1) := by decide +kernel
theorem dX8_copy_1 : decode cX8_copy 1 = .ok (.istore_n 3, 1) := by decide +kernel
theorem dX8_copy_2 : decode cX8_copy 2 = .ok (.iload_n 3, 1) := by decide +kernel
theorem dX8_copy_3 : decode cX8_copy 3 = .ok (.sipush 607, 3) := by decide +kernel
theorem dX8_copy_6 : decode cX8_copy 6 = .ok (.if_icmp .ge 25, 3) := by decide +kernel
theorem dX8_copy_9 : decode cX8_copy 9 = .ok (.aload_n 0, 1) := by decide +kernel
theorem dX8_copy_10 : decode cX8_copy 10 = .ok (.getfield 7, 3) := by decide +kernel
theorem dX8_copy_13 : decode cX8_copy 13 = .ok (.iload_n 2, 1) := by decide +kernel
theorem dX8_copy_14 : decode cX8_copy 14 = .ok (.iload_n 3, 1) := by decide +kernel
theorem dX8_copy_15 : decode cX8_copy 15 = .ok (.iadd, 1) := by decide +kernel
theorem dX8_copy_16 : decode cX8_copy 16 = .ok (.aload_n 0, 1) := by decide +kernel
theorem dX8_copy_17 : decode cX8_copy 17 = .ok (.getfield 7, 3) := by decide +kernel
theorem dX8_copy_20 : decode cX8_copy 20 = .ok (.iload_n 1, 1) := by decide +kernel
theorem dX8_copy_21 : decode cX8_copy 21 = .ok (.iload_n 3, 1) := by decide +kernel
theorem dX8_copy_22 : decode cX8_copy 22 = .ok (.iadd, 1) := by decide +kernel
theorem dX8_copy_23 : decode cX8_copy 23 = .ok (.laload, 1) := by decide +kernel
theorem dX8_copy_24 : decode cX8_copy 24 = .ok (.lastore, 1) := by decide +kernel
theorem dX8_copy_25 : decode cX8_copy 25 = .ok (.iinc 3 1, 3) := by decide +kernel
theorem dX8_copy_28 : decode cX8_copy 28 = .ok (.goto (-26), 3) := by decide +kernel
theorem dX8_copy_31 : decode cX8_copy 31 = .ok (.return_, 1) := by decide +kernel
set_option maxRecDepth 20000 in
theorem ggX8_goes_X8_eachOf : GoodIn wsX8_goes wsX8_eachOf := goodIn_r _ [7, 8, 9, 15, 16, 17, 18, 19, 20, 21, 22, 23, 24, 25, 26, 27, 28, 29, 30, 31, 32, 33, 34, 35, 36, 37, 38, 39, 40, 41, 42] (by decide +kernel) (by decide +kernel)
set_option maxRecDepth 20000 in
theorem gX8_goes_X8_eachOf : GoodIn wsX8_goes (wsV RX8 138 RX8 yX8_eachOf wsX8_eachOf) := goodIn_app (goodIn_of _ (by decide +kernel)) ggX8_goes_X8_eachOf
set_option maxRecDepth 20000 in
theorem ggX8_goes_X8_dripsOf : GoodIn wsX8_goes wsX8_dripsOf := goodIn_r _ [13, 14, 15, 16, 17, 18, 19, 20, 21, 22, 23, 24, 25, 26, 27, 28, 29, 30, 31, 32, 33, 34, 35, 36, 37, 38, 39, 40, 41, 42] (by decide +kernel) (by decide +kernel)
set_option maxRecDepth 20000 in
theorem gX8_goes_X8_dripsOf : GoodIn wsX8_goes (wsV RX8 141 RX8 yX8_dripsOf wsX8_dripsOf) := goodIn_app (goodIn_of _ (by decide +kernel)) ggX8_goes_X8_dripsOf
theorem dX8_goes_0 : decode cX8_goes 0 = .ok (.aload_n 0, 1) := by decide +kernel
theorem dX8_goes_1 : decode cX8_goes 1 = .ok (.getfield 7, 3) := by decide +kernel
theorem dX8_goes_4 : decode cX8_goes 4 = .ok (.iload_n 1, 1) := by decide +kernel
theorem dX8_goes_5 : decode cX8_goes 5 = .ok (.sipush 606, 3) := by decide +kernel
theorem dX8_goes_8 : decode cX8_goes 8 = .ok (.iadd, 1) := by decide +kernel
theorem dX8_goes_9 : decode cX8_goes 9 = .ok (.laload, 1) := by decide +kernel
theorem dX8_goes_10 : decode cX8_goes 10 = .ok (.l2i, 1) := by decide +kernel
theorem dX8_goes_11 : decode cX8_goes 11 = .ok (.iconst 1, 1) := by decide +kernel
theorem dX8_goes_12 : decode cX8_goes 12 = .ok (.iadd, 1) := by decide +kernel
theorem dX8_goes_13 : decode cX8_goes 13 = .ok (.istore_n 2, 1) := by decide +kernel
theorem dX8_goes_14 : decode cX8_goes 14 = .ok (.aload_n 0, 1) := by decide +kernel
theorem dX8_goes_15 : decode cX8_goes 15 = .ok (.getfield 7, 3) := by decide +kernel
theorem dX8_goes_18 : decode cX8_goes 18 = .ok (.iload_n 1, 1) := by decide +kernel
theorem dX8_goes_19 : decode cX8_goes 19 = .ok (.sipush 606, 3) := by decide +kernel
theorem dX8_goes_22 : decode cX8_goes 22 = .ok (.iadd, 1) := by decide +kernel
theorem dX8_goes_23 : decode cX8_goes 23 = .ok (.iload_n 2, 1) := by decide +kernel
theorem dX8_goes_24 : decode cX8_goes 24 = .ok (.i2l, 1) := by decide +kernel
theorem dX8_goes_25 : decode cX8_goes 25 = .ok (.lastore, 1) := by decide +kernel
theorem dX8_goes_26 : decode cX8_goes 26 = .ok (.lconst 0, 1) := by decide +kernel
theorem dX8_goes_27 : decode cX8_goes 27 = .ok (.lstore_n 3, 1) := by decide +kernel
theorem dX8_goes_28 : decode cX8_goes 28 = .ok (.iconst 0, 1) := by decide +kernel
theorem dX8_goes_29 : decode cX8_goes 29 = .ok (.istore 5, 2) := by decide +kernel
theorem dX8_goes_31 : decode cX8_goes 31 = .ok (.iload 5, 2) := by decide +kernel
theorem dX8_goes_33 : decode cX8_goes 33 = .ok (.iconst 5, 1) := by decide +kernel
theorem dX8_goes_34 : decode cX8_goes 34 = .ok (.if_icmp .ge 109, 3) := by decide +kernel
theorem dX8_goes_37 : decode cX8_goes 37 = .ok (.lconst 0, 1) := by decide +kernel
theorem dX8_goes_38 : decode cX8_goes 38 = .ok (.lstore 6, 2) := by decide +kernel
theorem dX8_goes_40 : decode cX8_goes 40 = .ok (.iload_n 2, 1) := by decide +kernel
theorem dX8_goes_41 : decode cX8_goes 41 = .ok (.aload_n 0, 1) := by decide +kernel
theorem dX8_goes_42 : decode cX8_goes 42 = .ok (.iload 5, 2) := by decide +kernel
theorem dX8_goes_44 : decode cX8_goes 44 = .ok (.invokevirtual 138, 3) := by decide +kernel
theorem dX8_goes_47 : decode cX8_goes 47 = .ok (.isub, 1) := by decide +kernel
theorem dX8_goes_48 : decode cX8_goes 48 = .ok (.istore 8, 2) := by decide +kernel
theorem dX8_goes_50 : decode cX8_goes 50 = .ok (.iload 8, 2) := by decide +kernel
theorem dX8_goes_52 : decode cX8_goes 52 = .ok (.ifCond .lt 46, 3) := by decide +kernel
theorem dX8_goes_55 : decode cX8_goes 55 = .ok (.aload_n 0, 1) := by decide +kernel
theorem dX8_goes_56 : decode cX8_goes 56 = .ok (.iload 5, 2) := by decide +kernel
theorem dX8_goes_58 : decode cX8_goes 58 = .ok (.invokevirtual 141, 3) := by decide +kernel
theorem dX8_goes_61 : decode cX8_goes 61 = .ok (.ifCond .eq 37, 3) := by decide +kernel
theorem dX8_goes_64 : decode cX8_goes 64 = .ok (.lload 6, 2) := by decide +kernel
theorem dX8_goes_66 : decode cX8_goes 66 = .ok (.aload_n 0, 1) := by decide +kernel
theorem dX8_goes_67 : decode cX8_goes 67 = .ok (.getfield 7, 3) := by decide +kernel
theorem dX8_goes_70 : decode cX8_goes 70 = .ok (.iload_n 1, 1) := by decide +kernel
theorem dX8_goes_71 : decode cX8_goes 71 = .ok (.bipush 121, 2) := by decide +kernel
theorem dX8_goes_73 : decode cX8_goes 73 = .ok (.iload 5, 2) := by decide +kernel
theorem dX8_goes_75 : decode cX8_goes 75 = .ok (.imul, 1) := by decide +kernel
theorem dX8_goes_76 : decode cX8_goes 76 = .ok (.iadd, 1) := by decide +kernel
theorem dX8_goes_77 : decode cX8_goes 77 = .ok (.iload 8, 2) := by decide +kernel
theorem dX8_goes_79 : decode cX8_goes 79 = .ok (.iadd, 1) := by decide +kernel
theorem dX8_goes_80 : decode cX8_goes 80 = .ok (.laload, 1) := by decide +kernel
theorem dX8_goes_81 : decode cX8_goes 81 = .ok (.ladd, 1) := by decide +kernel
theorem dX8_goes_82 : decode cX8_goes 82 = .ok (.lstore 6, 2) := by decide +kernel
theorem dX8_goes_84 : decode cX8_goes 84 = .ok (.iload 8, 2) := by decide +kernel
theorem dX8_goes_86 : decode cX8_goes 86 = .ok (.aload_n 0, 1) := by decide +kernel
theorem dX8_goes_87 : decode cX8_goes 87 = .ok (.iload 5, 2) := by decide +kernel
theorem dX8_goes_89 : decode cX8_goes 89 = .ok (.invokevirtual 138, 3) := by decide +kernel
theorem dX8_goes_92 : decode cX8_goes 92 = .ok (.isub, 1) := by decide +kernel
theorem dX8_goes_93 : decode cX8_goes 93 = .ok (.istore 8, 2) := by decide +kernel
theorem dX8_goes_95 : decode cX8_goes 95 = .ok (.goto (-45), 3) := by decide +kernel
theorem dX8_goes_98 : decode cX8_goes 98 = .ok (.lload 6, 2) := by decide +kernel
theorem dX8_goes_100 : decode cX8_goes 100 = .ok (.lconst 0, 1) := by decide +kernel
theorem dX8_goes_101 : decode cX8_goes 101 = .ok (.lcmp, 1) := by decide +kernel
theorem dX8_goes_102 : decode cX8_goes 102 = .ok (.ifCond .le 30, 3) := by decide +kernel
theorem dX8_goes_105 : decode cX8_goes 105 = .ok (.aload_n 0, 1) := by decide +kernel
theorem dX8_goes_106 : decode cX8_goes 106 = .ok (.getfield 7, 3) := by decide +kernel
theorem dX8_goes_109 : decode cX8_goes 109 = .ok (.iload_n 1, 1) := by decide +kernel
theorem dX8_goes_110 : decode cX8_goes 110 = .ok (.bipush 121, 2) := by decide +kernel
theorem dX8_goes_112 : decode cX8_goes 112 = .ok (.iload 5, 2) := by decide +kernel
theorem dX8_goes_114 : decode cX8_goes 114 = .ok (.iconst 1, 1) := by decide +kernel
theorem dX8_goes_115 : decode cX8_goes 115 = .ok (.iadd, 1) := by decide +kernel
theorem dX8_goes_116 : decode cX8_goes 116 = .ok (.imul, 1) := by decide +kernel
theorem dX8_goes_117 : decode cX8_goes 117 = .ok (.iadd, 1) := by decide +kernel
theorem dX8_goes_118 : decode cX8_goes 118 = .ok (.iload_n 2, 1) := by decide +kernel
theorem dX8_goes_119 : decode cX8_goes 119 = .ok (.iadd, 1) := by decide +kernel
theorem dX8_goes_120 : decode cX8_goes 120 = .ok (.dup2, 1) := by decide +kernel
theorem dX8_goes_121 : decode cX8_goes 121 = .ok (.laload, 1) := by decide +kernel
theorem dX8_goes_122 : decode cX8_goes 122 = .ok (.lload 6, 2) := by decide +kernel
theorem dX8_goes_124 : decode cX8_goes 124 = .ok (.aload_n 0, 1) := by decide +kernel
theorem dX8_goes_125 : decode cX8_goes 125 = .ok (.getfield 67, 3) := by decide +kernel
theorem dX8_goes_128 : decode cX8_goes 128 = .ok (.i2l, 1) := by decide +kernel
theorem dX8_goes_129 : decode cX8_goes 129 = .ok (.lmul, 1) := by decide +kernel
theorem dX8_goes_130 : decode cX8_goes 130 = .ok (.ladd, 1) := by decide +kernel
theorem dX8_goes_131 : decode cX8_goes 131 = .ok (.lastore, 1) := by decide +kernel
theorem dX8_goes_132 : decode cX8_goes 132 = .ok (.lload_n 3, 1) := by decide +kernel
theorem dX8_goes_133 : decode cX8_goes 133 = .ok (.lload 6, 2) := by decide +kernel
theorem dX8_goes_135 : decode cX8_goes 135 = .ok (.ladd, 1) := by decide +kernel
theorem dX8_goes_136 : decode cX8_goes 136 = .ok (.lstore_n 3, 1) := by decide +kernel
theorem dX8_goes_137 : decode cX8_goes 137 = .ok (.iinc 5 1, 3) := by decide +kernel
theorem dX8_goes_140 : decode cX8_goes 140 = .ok (.goto (-109), 3) := by decide +kernel
theorem dX8_goes_143 : decode cX8_goes 143 = .ok (.lload_n 3, 1) := by decide +kernel
theorem dX8_goes_144 : decode cX8_goes 144 = .ok (.lreturn, 1) := by decide +kernel
theorem dX8_manyOf_0 : decode cX8_manyOf 0 = .ok (.lconst 0, 1) := by decide +kernel
theorem dX8_manyOf_1 : decode cX8_manyOf 1 = .ok (.lstore_n 3, 1) := by decide +kernel
theorem dX8_manyOf_2 : decode cX8_manyOf 2 = .ok (.iconst 0, 1) := by decide +kernel
theorem dX8_manyOf_3 : decode cX8_manyOf 3 = .ok (.istore 5, 2) := by decide +kernel
theorem dX8_manyOf_5 : decode cX8_manyOf 5 = .ok (.iload 5, 2) := by decide +kernel
theorem dX8_manyOf_7 : decode cX8_manyOf 7 = .ok (.bipush 121, 2) := by decide +kernel
theorem dX8_manyOf_9 : decode cX8_manyOf 9 = .ok (.if_icmp .ge 26, 3) := by decide +kernel
theorem dX8_manyOf_12 : decode cX8_manyOf 12 = .ok (.lload_n 3, 1) := by decide +kernel
theorem dX8_manyOf_13 : decode cX8_manyOf 13 = .ok (.aload_n 0, 1) := by decide +kernel
theorem dX8_manyOf_14 : decode cX8_manyOf 14 = .ok (.getfield 7, 3) := by decide +kernel
theorem dX8_manyOf_17 : decode cX8_manyOf 17 = .ok (.iload_n 1, 1) := by decide +kernel
theorem dX8_manyOf_18 : decode cX8_manyOf 18 = .ok (.bipush 121, 2) := by decide +kernel
theorem dX8_manyOf_20 : decode cX8_manyOf 20 = .ok (.iload_n 2, 1) := by decide +kernel
theorem dX8_manyOf_21 : decode cX8_manyOf 21 = .ok (.imul, 1) := by decide +kernel
theorem dX8_manyOf_22 : decode cX8_manyOf 22 = .ok (.iadd, 1) := by decide +kernel
theorem dX8_manyOf_23 : decode cX8_manyOf 23 = .ok (.iload 5, 2) := by decide +kernel
theorem dX8_manyOf_25 : decode cX8_manyOf 25 = .ok (.iadd, 1) := by decide +kernel
theorem dX8_manyOf_26 : decode cX8_manyOf 26 = .ok (.laload, 1) := by decide +kernel
theorem dX8_manyOf_27 : decode cX8_manyOf 27 = .ok (.ladd, 1) := by decide +kernel
theorem dX8_manyOf_28 : decode cX8_manyOf 28 = .ok (.lstore_n 3, 1) := by decide +kernel
theorem dX8_manyOf_29 : decode cX8_manyOf 29 = .ok (.iinc 5 1, 3) := by decide +kernel
theorem dX8_manyOf_32 : decode cX8_manyOf 32 = .ok (.goto (-27), 3) := by decide +kernel
theorem dX8_manyOf_35 : decode cX8_manyOf 35 = .ok (.lload_n 3, 1) := by decide +kernel
theorem dX8_manyOf_36 : decode cX8_manyOf 36 = .ok (.lreturn, 1) := by decide +kernel
set_option maxRecDepth 20000 in
theorem ggX8_allOf_X8_manyOf : GoodIn wsX8_allOf wsX8_manyOf := goodIn_r _ [5, 6, 7, 8, 9, 10, 11, 12, 13, 14, 15, 16, 17, 18, 19, 20, 21, 22, 23, 24, 25, 26, 27, 28, 29, 30, 31, 32, 33, 34] (by decide +kernel) (by decide +kernel)
set_option maxRecDepth 20000 in
theorem gX8_allOf_X8_manyOf : GoodIn wsX8_allOf (wsV RX8 145 RX8 yX8_manyOf wsX8_manyOf) := goodIn_app (goodIn_of _ (by decide +kernel)) ggX8_allOf_X8_manyOf
theorem dX8_allOf_0 : decode cX8_allOf 0 = .ok (.lconst 0, 1) := by decide +kernel
theorem dX8_allOf_1 : decode cX8_allOf 1 = .ok (.lstore_n 2, 1) := by decide +kernel
theorem dX8_allOf_2 : decode cX8_allOf 2 = .ok (.iconst 0, 1) := by decide +kernel
theorem dX8_allOf_3 : decode cX8_allOf 3 = .ok (.istore 4, 2) := by decide +kernel
theorem dX8_allOf_5 : decode cX8_allOf 5 = .ok (.iload 4, 2) := by decide +kernel
theorem dX8_allOf_7 : decode cX8_allOf 7 = .ok (.iconst 5, 1) := by decide +kernel
theorem dX8_allOf_8 : decode cX8_allOf 8 = .ok (.if_icmp .ge 19, 3) := by decide +kernel
theorem dX8_allOf_11 : decode cX8_allOf 11 = .ok (.lload_n 2, 1) := by decide +kernel
theorem dX8_allOf_12 : decode cX8_allOf 12 = .ok (.aload_n 0, 1) := by decide +kernel
theorem dX8_allOf_13 : decode cX8_allOf 13 = .ok (.iload_n 1, 1) := by decide +kernel
theorem dX8_allOf_14 : decode cX8_allOf 14 = .ok (.iload 4, 2) := by decide +kernel
theorem dX8_allOf_16 : decode cX8_allOf 16 = .ok (.invokevirtual 145, 3) := by decide +kernel
theorem dX8_allOf_19 : decode cX8_allOf 19 = .ok (.ladd, 1) := by decide +kernel
theorem dX8_allOf_20 : decode cX8_allOf 20 = .ok (.lstore_n 2, 1) := by decide +kernel
theorem dX8_allOf_21 : decode cX8_allOf 21 = .ok (.iinc 4 1, 3) := by decide +kernel
theorem dX8_allOf_24 : decode cX8_allOf 24 = .ok (.goto (-19), 3) := by decide +kernel
theorem dX8_allOf_27 : decode cX8_allOf 27 = .ok (.lload_n 2, 1) := by decide +kernel
theorem dX8_allOf_28 : decode cX8_allOf 28 = .ok (.lreturn, 1) := by decide +kernel
set_option maxRecDepth 20000 in
theorem ggX8_weighs_X8_manyOf : GoodIn wsX8_weighs wsX8_manyOf := goodIn_r _ [7, 1, 8, 9, 10, 11, 12, 13, 14, 15, 16, 17, 18, 19, 20, 21, 22, 23, 24, 25, 26, 27, 28, 29, 30, 31, 32, 33, 34, 35] (by decide +kernel) (by decide +kernel)
set_option maxRecDepth 20000 in
theorem gX8_weighs_X8_manyOf : GoodIn wsX8_weighs (wsV RX8 145 RX8 yX8_manyOf wsX8_manyOf) := goodIn_app (goodIn_of _ (by decide +kernel)) ggX8_weighs_X8_manyOf
theorem dX8_weighs_0 : decode cX8_weighs 0 = .ok (.aload_n 0, 1) := by decide +kernel
theorem dX8_weighs_1 : decode cX8_weighs 1 = .ok (.getfield 7, 3) := by decide +kernel
theorem dX8_weighs_4 : decode cX8_weighs 4 = .ok (.iload_n 1, 1) := by decide +kernel
theorem dX8_weighs_5 : decode cX8_weighs 5 = .ok (.sipush 605, 3) := by decide +kernel
theorem dX8_weighs_8 : decode cX8_weighs 8 = .ok (.iadd, 1) := by decide +kernel
theorem dX8_weighs_9 : decode cX8_weighs 9 = .ok (.laload, 1) := by decide +kernel
theorem dX8_weighs_10 : decode cX8_weighs 10 = .ok (.lstore_n 2, 1) := by decide +kernel
theorem dX8_weighs_11 : decode cX8_weighs 11 = .ok (.iconst 0, 1) := by decide +kernel
theorem dX8_weighs_12 : decode cX8_weighs 12 = .ok (.istore 4, 2) := by decide +kernel
theorem dX8_weighs_14 : decode cX8_weighs 14 = .ok (.iload 4, 2) := by decide +kernel
theorem dX8_weighs_16 : decode cX8_weighs 16 = .ok (.iconst 5, 1) := by decide +kernel
theorem dX8_weighs_17 : decode cX8_weighs 17 = .ok (.if_icmp .ge 28, 3) := by decide +kernel
theorem dX8_weighs_20 : decode cX8_weighs 20 = .ok (.lload_n 2, 1) := by decide +kernel
theorem dX8_weighs_21 : decode cX8_weighs 21 = .ok (.aload_n 0, 1) := by decide +kernel
theorem dX8_weighs_22 : decode cX8_weighs 22 = .ok (.iload_n 1, 1) := by decide +kernel
theorem dX8_weighs_23 : decode cX8_weighs 23 = .ok (.iload 4, 2) := by decide +kernel
theorem dX8_weighs_25 : decode cX8_weighs 25 = .ok (.invokevirtual 145, 3) := by decide +kernel
theorem dX8_weighs_28 : decode cX8_weighs 28 = .ok (.aload_n 0, 1) := by decide +kernel
theorem dX8_weighs_29 : decode cX8_weighs 29 = .ok (.getfield 17, 3) := by decide +kernel
theorem dX8_weighs_32 : decode cX8_weighs 32 = .ok (.iload 4, 2) := by decide +kernel
theorem dX8_weighs_34 : decode cX8_weighs 34 = .ok (.iaload, 1) := by decide +kernel
theorem dX8_weighs_35 : decode cX8_weighs 35 = .ok (.i2l, 1) := by decide +kernel
theorem dX8_weighs_36 : decode cX8_weighs 36 = .ok (.lmul, 1) := by decide +kernel
theorem dX8_weighs_37 : decode cX8_weighs 37 = .ok (.ladd, 1) := by decide +kernel
theorem dX8_weighs_38 : decode cX8_weighs 38 = .ok (.lstore_n 2, 1) := by decide +kernel
theorem dX8_weighs_39 : decode cX8_weighs 39 = .ok (.iinc 4 1, 3) := by decide +kernel
theorem dX8_weighs_42 : decode cX8_weighs 42 = .ok (.goto (-28), 3) := by decide +kernel
theorem dX8_weighs_45 : decode cX8_weighs 45 = .ok (.lload_n 2, 1) := by decide +kernel
theorem dX8_weighs_46 : decode cX8_weighs 46 = .ok (.lreturn, 1) := by decide +kernel
theorem dX8_takesAway_0 : decode cX8_takesAway 0 = .ok (.lload_n 3, 1) := by decide +kernel
theorem dX8_takesAway_1 : decode cX8_takesAway 1 = .ok (.lstore 5, 2) := by decide +kernel
theorem dX8_takesAway_3 : decode cX8_takesAway 3 = .ok (.iconst 0, 1) := by decide +kernel
theorem dX8_takesAway_4 : decode cX8_takesAway 4 = .ok (.istore 7, 2) := by decide +kernel
theorem dX8_takesAway_6 : decode cX8_takesAway 6 = .ok (.iload 7, 2) := by decide +kernel
theorem dX8_takesAway_8 : decode cX8_takesAway 8 = .ok (.bipush 121, 2) := by decide +kernel
theorem dX8_takesAway_10 : decode cX8_takesAway 10 = .ok (.if_icmp .ge 68, 3) := by decide +kernel
theorem dX8_takesAway_13 : decode cX8_takesAway 13 = .ok (.aload_n 0, 1) := by decide +kernel
theorem dX8_takesAway_14 : decode cX8_takesAway 14 = .ok (.getfield 7, 3) := by decide +kernel
theorem dX8_takesAway_17 : decode cX8_takesAway 17 = .ok (.iload_n 1, 1) := by decide +kernel
theorem dX8_takesAway_18 : decode cX8_takesAway 18 = .ok (.bipush 121, 2) := by decide +kernel
theorem dX8_takesAway_20 : decode cX8_takesAway 20 = .ok (.iload_n 2, 1) := by decide +kernel
theorem dX8_takesAway_21 : decode cX8_takesAway 21 = .ok (.imul, 1) := by decide +kernel
theorem dX8_takesAway_22 : decode cX8_takesAway 22 = .ok (.iadd, 1) := by decide +kernel
theorem dX8_takesAway_23 : decode cX8_takesAway 23 = .ok (.iload 7, 2) := by decide +kernel
theorem dX8_takesAway_25 : decode cX8_takesAway 25 = .ok (.iadd, 1) := by decide +kernel
theorem dX8_takesAway_26 : decode cX8_takesAway 26 = .ok (.laload, 1) := by decide +kernel
theorem dX8_takesAway_27 : decode cX8_takesAway 27 = .ok (.lstore 8, 2) := by decide +kernel
theorem dX8_takesAway_29 : decode cX8_takesAway 29 = .ok (.lload 8, 2) := by decide +kernel
theorem dX8_takesAway_31 : decode cX8_takesAway 31 = .ok (.lload 5, 2) := by decide +kernel
theorem dX8_takesAway_33 : decode cX8_takesAway 33 = .ok (.lcmp, 1) := by decide +kernel
theorem dX8_takesAway_34 : decode cX8_takesAway 34 = .ok (.ifCond .ge 8, 3) := by decide +kernel
theorem dX8_takesAway_37 : decode cX8_takesAway 37 = .ok (.lload 8, 2) := by decide +kernel
theorem dX8_takesAway_39 : decode cX8_takesAway 39 = .ok (.goto 5, 3) := by decide +kernel
theorem dX8_takesAway_42 : decode cX8_takesAway 42 = .ok (.lload 5, 2) := by decide +kernel
theorem dX8_takesAway_44 : decode cX8_takesAway 44 = .ok (.lstore 10, 2) := by decide +kernel
theorem dX8_takesAway_46 : decode cX8_takesAway 46 = .ok (.aload_n 0, 1) := by decide +kernel
theorem dX8_takesAway_47 : decode cX8_takesAway 47 = .ok (.getfield 7, 3) := by decide +kernel
theorem dX8_takesAway_50 : decode cX8_takesAway 50 = .ok (.iload_n 1, 1) := by decide +kernel
theorem dX8_takesAway_51 : decode cX8_takesAway 51 = .ok (.bipush 121, 2) := by decide +kernel
theorem dX8_takesAway_53 : decode cX8_takesAway 53 = .ok (.iload_n 2, 1) := by decide +kernel
theorem dX8_takesAway_54 : decode cX8_takesAway 54 = .ok (.imul, 1) := by decide +kernel
theorem dX8_takesAway_55 : decode cX8_takesAway 55 = .ok (.iadd, 1) := by decide +kernel
theorem dX8_takesAway_56 : decode cX8_takesAway 56 = .ok (.iload 7, 2) := by decide +kernel
theorem dX8_takesAway_58 : decode cX8_takesAway 58 = .ok (.iadd, 1) := by decide +kernel
theorem dX8_takesAway_59 : decode cX8_takesAway 59 = .ok (.dup2, 1) := by decide +kernel
theorem dX8_takesAway_60 : decode cX8_takesAway 60 = .ok (.laload, 1) := by decide +kernel
theorem dX8_takesAway_61 : decode cX8_takesAway 61 = .ok (.lload 10, 2) := by decide +kernel
theorem dX8_takesAway_63 : decode cX8_takesAway 63 = .ok (.lsub, 1) := by decide +kernel
theorem dX8_takesAway_64 : decode cX8_takesAway 64 = .ok (.lastore, 1) := by decide +kernel
theorem dX8_takesAway_65 : decode cX8_takesAway 65 = .ok (.lload 5, 2) := by decide +kernel
theorem dX8_takesAway_67 : decode cX8_takesAway 67 = .ok (.lload 10, 2) := by decide +kernel
theorem dX8_takesAway_69 : decode cX8_takesAway 69 = .ok (.lsub, 1) := by decide +kernel
theorem dX8_takesAway_70 : decode cX8_takesAway 70 = .ok (.lstore 5, 2) := by decide +kernel
theorem dX8_takesAway_72 : decode cX8_takesAway 72 = .ok (.iinc 7 1, 3) := by decide +kernel
theorem dX8_takesAway_75 : decode cX8_takesAway 75 = .ok (.goto (-69), 3) := by decide +kernel
theorem dX8_takesAway_78 : decode cX8_takesAway 78 = .ok (.return_, 1) := by decide +kernel
theorem dX8_oldest_0 : decode cX8_oldest 0 = .ok (.iconst 0, 1) := by decide +kernel
theorem dX8_oldest_1 : decode cX8_oldest 1 = .ok (.istore_n 2, 1) := by decide +kernel
theorem dX8_oldest_2 : decode cX8_oldest 2 = .ok (.iload_n 2, 1) := by decide +kernel
theorem dX8_oldest_3 : decode cX8_oldest 3 = .ok (.bipush 121, 2) := by decide +kernel
theorem dX8_oldest_5 : decode cX8_oldest 5 = .ok (.if_icmp .ge 37, 3) := by decide +kernel
theorem dX8_oldest_8 : decode cX8_oldest 8 = .ok (.aload_n 0, 1) := by decide +kernel
theorem dX8_oldest_9 : decode cX8_oldest 9 = .ok (.getfield 7, 3) := by decide +kernel
theorem dX8_oldest_12 : decode cX8_oldest 12 = .ok (.bipush 121, 2) := by decide +kernel
theorem dX8_oldest_14 : decode cX8_oldest 14 = .ok (.iload_n 1, 1) := by decide +kernel
theorem dX8_oldest_15 : decode cX8_oldest 15 = .ok (.imul, 1) := by decide +kernel
theorem dX8_oldest_16 : decode cX8_oldest 16 = .ok (.iload_n 2, 1) := by decide +kernel
theorem dX8_oldest_17 : decode cX8_oldest 17 = .ok (.iadd, 1) := by decide +kernel
theorem dX8_oldest_18 : decode cX8_oldest 18 = .ok (.laload, 1) := by decide +kernel
theorem dX8_oldest_19 : decode cX8_oldest 19 = .ok (.lconst 0, 1) := by decide +kernel
theorem dX8_oldest_20 : decode cX8_oldest 20 = .ok (.lcmp, 1) := by decide +kernel
theorem dX8_oldest_21 : decode cX8_oldest 21 = .ok (.ifCond .le 15, 3) := by decide +kernel
theorem dX8_oldest_24 : decode cX8_oldest 24 = .ok (.aload_n 0, 1) := by decide +kernel
theorem dX8_oldest_25 : decode cX8_oldest 25 = .ok (.getfield 7, 3) := by decide +kernel
theorem dX8_oldest_28 : decode cX8_oldest 28 = .ok (.sipush 606, 3) := by decide +kernel
theorem dX8_oldest_31 : decode cX8_oldest 31 = .ok (.laload, 1) := by decide +kernel
theorem dX8_oldest_32 : decode cX8_oldest 32 = .ok (.l2i, 1) := by decide +kernel
theorem dX8_oldest_33 : decode cX8_oldest 33 = .ok (.iload_n 2, 1) := by decide +kernel
theorem dX8_oldest_34 : decode cX8_oldest 34 = .ok (.isub, 1) := by decide +kernel
theorem dX8_oldest_35 : decode cX8_oldest 35 = .ok (.ireturn, 1) := by decide +kernel
theorem dX8_oldest_36 : decode cX8_oldest 36 = .ok (.iinc 2 1, 3) := by decide +kernel
theorem dX8_oldest_39 : decode cX8_oldest 39 = .ok (.goto (-37), 3) := by decide +kernel
theorem dX8_oldest_42 : decode cX8_oldest 42 = .ok (.bipush (-9), 2) := by decide +kernel
theorem dX8_oldest_44 : decode cX8_oldest 44 = .ok (.ireturn, 1) := by decide +kernel
set_option maxRecDepth 20000 in
theorem ggX8_order_X8_isOrder : GoodIn wsX8_order wsX8_isOrder := goodIn_r _ [6, 7, 8, 9, 5, 10] (by decide +kernel) (by decide +kernel)
set_option maxRecDepth 20000 in
theorem gX8_order_X8_isOrder : GoodIn wsX8_order (va_wsS RX8 149 yX8_isOrder wsX8_isOrder) := goodIn_app (goodIn_of _ (by decide +kernel)) ggX8_order_X8_isOrder
set_option maxRecDepth 20000 in
theorem ggX8_order_X8_in : GoodIn wsX8_order wsX8_in := goodIn_r _ [10] (by decide +kernel) (by decide +kernel)
set_option maxRecDepth 20000 in
theorem gX8_order_X8_in : GoodIn wsX8_order (va_wsS RX8 91 yX8_in wsX8_in) := goodIn_app (goodIn_of _ (by decide +kernel)) ggX8_order_X8_in
set_option maxRecDepth 20000 in
theorem ggX8_order_X8_eachOf : GoodIn wsX8_order wsX8_eachOf := goodIn_r _ [14, 15, 16, 26, 27, 28, 29, 30, 31, 32, 33, 34, 35, 36, 37, 38, 39, 40, 41, 42, 43, 44, 45, 46, 47, 48, 49, 50, 51, 52, 53] (by decide +kernel) (by decide +kernel)
set_option maxRecDepth 20000 in
theorem gX8_order_X8_eachOf : GoodIn wsX8_order (wsV RX8 138 RX8 yX8_eachOf wsX8_eachOf) := goodIn_app (goodIn_of _ (by decide +kernel)) ggX8_order_X8_eachOf
set_option maxRecDepth 20000 in
theorem ggX8_order_X8_dripsOf : GoodIn wsX8_order wsX8_dripsOf := goodIn_r _ [20, 2, 26, 27, 28, 29, 30, 31, 32, 33, 34, 35, 36, 37, 38, 39, 40, 41, 42, 43, 44, 45, 46, 47, 48, 49, 50, 51, 52, 53] (by decide +kernel) (by decide +kernel)
set_option maxRecDepth 20000 in
theorem gX8_order_X8_dripsOf : GoodIn wsX8_order (wsV RX8 141 RX8 yX8_dripsOf wsX8_dripsOf) := goodIn_app (goodIn_of _ (by decide +kernel)) ggX8_order_X8_dripsOf
set_option maxRecDepth 20000 in
theorem ggX8_order_X8_oldest : GoodIn wsX8_order wsX8_oldest := goodIn_r _ [24, 25, 26, 27, 28, 29, 30, 31, 32, 33, 34, 35, 36, 37, 38, 39, 40, 41, 42, 43, 44, 45, 46, 47, 48, 49, 50, 51, 52, 53] (by decide +kernel) (by decide +kernel)
set_option maxRecDepth 20000 in
theorem gX8_order_X8_oldest : GoodIn wsX8_order (wsV RX8 154 RX8 yX8_oldest wsX8_oldest) := goodIn_app (goodIn_of _ (by decide +kernel)) ggX8_order_X8_oldest
theorem dX8_order_0 : decode cX8_order 0 = .ok (.iload_n 1, 1) := by decide +kernel
theorem dX8_order_1 : decode cX8_order 1 = .ok (.invokestatic 149, 3) := by decide +kernel
theorem dX8_order_4 : decode cX8_order 4 = .ok (.ifCond .eq 15, 3) := by decide +kernel
theorem dX8_order_7 : decode cX8_order 7 = .ok (.iload_n 2, 1) := by decide +kernel
theorem dX8_order_8 : decode cX8_order 8 = .ok (.i2l, 1) := by decide +kernel
theorem dX8_order_9 : decode cX8_order 9 = .ok (.lconst 0, 1) := by decide +kernel
theorem dX8_order_10 : decode cX8_order 10 = .ok (.ldc2_w 152, 3) := by decide +kernel
theorem dX8_order_13 : decode cX8_order 13 = .ok (.invokestatic 91, 3) := by decide +kernel
theorem dX8_order_16 : decode cX8_order 16 = .ok (.ifCond .ne 5, 3) := by decide +kernel
theorem dX8_order_19 : decode cX8_order 19 = .ok (.iconst (-1), 1) := by decide +kernel
theorem dX8_order_20 : decode cX8_order 20 = .ok (.ireturn, 1) := by decide +kernel
theorem dX8_order_21 : decode cX8_order 21 = .ok (.iload_n 2, 1) := by decide +kernel
theorem dX8_order_22 : decode cX8_order 22 = .ok (.ifCond .ne 12, 3) := by decide +kernel
theorem dX8_order_25 : decode cX8_order 25 = .ok (.aload_n 0, 1) := by decide +kernel
theorem dX8_order_26 : decode cX8_order 26 = .ok (.getfield 17, 3) := by decide +kernel
theorem dX8_order_29 : decode cX8_order 29 = .ok (.iload_n 1, 1) := by decide +kernel
theorem dX8_order_30 : decode cX8_order 30 = .ok (.iaload, 1) := by decide +kernel
theorem dX8_order_31 : decode cX8_order 31 = .ok (.goto 42, 3) := by decide +kernel
theorem dX8_order_34 : decode cX8_order 34 = .ok (.iload_n 2, 1) := by decide +kernel
theorem dX8_order_35 : decode cX8_order 35 = .ok (.iconst 1, 1) := by decide +kernel
theorem dX8_order_36 : decode cX8_order 36 = .ok (.if_icmp .ne 11, 3) := by decide +kernel
theorem dX8_order_39 : decode cX8_order 39 = .ok (.aload_n 0, 1) := by decide +kernel
theorem dX8_order_40 : decode cX8_order 40 = .ok (.iload_n 1, 1) := by decide +kernel
theorem dX8_order_41 : decode cX8_order 41 = .ok (.invokevirtual 138, 3) := by decide +kernel
theorem dX8_order_44 : decode cX8_order 44 = .ok (.goto 29, 3) := by decide +kernel
theorem dX8_order_47 : decode cX8_order 47 = .ok (.iload_n 2, 1) := by decide +kernel
theorem dX8_order_48 : decode cX8_order 48 = .ok (.iconst 2, 1) := by decide +kernel
theorem dX8_order_49 : decode cX8_order 49 = .ok (.if_icmp .ne 19, 3) := by decide +kernel
theorem dX8_order_52 : decode cX8_order 52 = .ok (.aload_n 0, 1) := by decide +kernel
theorem dX8_order_53 : decode cX8_order 53 = .ok (.iload_n 1, 1) := by decide +kernel
theorem dX8_order_54 : decode cX8_order 54 = .ok (.invokevirtual 141, 3) := by decide +kernel
theorem dX8_order_57 : decode cX8_order 57 = .ok (.ifCond .eq 7, 3) := by decide +kernel
theorem dX8_order_60 : decode cX8_order 60 = .ok (.iconst 1, 1) := by decide +kernel
theorem dX8_order_61 : decode cX8_order 61 = .ok (.goto 12, 3) := by decide +kernel
theorem dX8_order_64 : decode cX8_order 64 = .ok (.iconst 0, 1) := by decide +kernel
theorem dX8_order_65 : decode cX8_order 65 = .ok (.goto 8, 3) := by decide +kernel
theorem dX8_order_68 : decode cX8_order 68 = .ok (.aload_n 0, 1) := by decide +kernel
theorem dX8_order_69 : decode cX8_order 69 = .ok (.iload_n 1, 1) := by decide +kernel
theorem dX8_order_70 : decode cX8_order 70 = .ok (.invokevirtual 154, 3) := by decide +kernel
theorem dX8_order_73 : decode cX8_order 73 = .ok (.ireturn, 1) := by decide +kernel
set_option maxRecDepth 20000 in
theorem ggX8_due_X8_in : GoodIn wsX8_due wsX8_in := goodIn_r _ [7] (by decide +kernel) (by decide +kernel)
set_option maxRecDepth 20000 in
theorem gX8_due_X8_in : GoodIn wsX8_due (va_wsS RX8 91 yX8_in wsX8_in) := goodIn_app (goodIn_of _ (by decide +kernel)) ggX8_due_X8_in
theorem dX8_due_0 : decode cX8_due 0 = .ok (.iload_n 1, 1) := by decide +kernel
theorem dX8_due_1 : decode cX8_due 1 = .ok (.i2l, 1) := by decide +kernel
theorem dX8_due_2 : decode cX8_due 2 = .ok (.lconst 0, 1) := by decide +kernel
theorem dX8_due_3 : decode cX8_due 3 = .ok (.aload_n 0, 1) := by decide +kernel
theorem dX8_due_4 : decode cX8_due 4 = .ok (.getfield 76, 3) := by decide +kernel
theorem dX8_due_7 : decode cX8_due 7 = .ok (.iconst 1, 1) := by decide +kernel
theorem dX8_due_8 : decode cX8_due 8 = .ok (.isub, 1) := by decide +kernel
theorem dX8_due_9 : decode cX8_due 9 = .ok (.i2l, 1) := by decide +kernel
theorem dX8_due_10 : decode cX8_due 10 = .ok (.invokestatic 91, 3) := by decide +kernel
theorem dX8_due_13 : decode cX8_due 13 = .ok (.ifCond .eq 13, 3) := by decide +kernel
theorem dX8_due_16 : decode cX8_due 16 = .ok (.iload_n 2, 1) := by decide +kernel
theorem dX8_due_17 : decode cX8_due 17 = .ok (.i2l, 1) := by decide +kernel
theorem dX8_due_18 : decode cX8_due 18 = .ok (.lconst 0, 1) := by decide +kernel
theorem dX8_due_19 : decode cX8_due 19 = .ok (.lconst 1, 1) := by decide +kernel
theorem dX8_due_20 : decode cX8_due 20 = .ok (.invokestatic 91, 3) := by decide +kernel
theorem dX8_due_23 : decode cX8_due 23 = .ok (.ifCond .ne 5, 3) := by decide +kernel
theorem dX8_due_26 : decode cX8_due 26 = .ok (.iconst (-1), 1) := by decide +kernel
theorem dX8_due_27 : decode cX8_due 27 = .ok (.ireturn, 1) := by decide +kernel
theorem dX8_due_28 : decode cX8_due 28 = .ok (.iload_n 2, 1) := by decide +kernel
theorem dX8_due_29 : decode cX8_due 29 = .ok (.ifCond .ne 12, 3) := by decide +kernel
theorem dX8_due_32 : decode cX8_due 32 = .ok (.aload_n 0, 1) := by decide +kernel
theorem dX8_due_33 : decode cX8_due 33 = .ok (.getfield 21, 3) := by decide +kernel
theorem dX8_due_36 : decode cX8_due 36 = .ok (.iload_n 1, 1) := by decide +kernel
theorem dX8_due_37 : decode cX8_due 37 = .ok (.iaload, 1) := by decide +kernel
theorem dX8_due_38 : decode cX8_due 38 = .ok (.goto 9, 3) := by decide +kernel
theorem dX8_due_41 : decode cX8_due 41 = .ok (.aload_n 0, 1) := by decide +kernel
theorem dX8_due_42 : decode cX8_due 42 = .ok (.getfield 24, 3) := by decide +kernel
theorem dX8_due_45 : decode cX8_due 45 = .ok (.iload_n 1, 1) := by decide +kernel
theorem dX8_due_46 : decode cX8_due 46 = .ok (.iaload, 1) := by decide +kernel
theorem dX8_due_47 : decode cX8_due 47 = .ok (.ireturn, 1) := by decide +kernel
set_option maxRecDepth 20000 in
theorem ggX8_now_X8_allOf : GoodIn wsX8_now wsX8_allOf := goodIn_r _ [8, 9, 10, 11, 7, 12, 1, 18, 19, 20, 21, 22, 23, 24, 25, 26, 27, 28, 29, 30, 31, 32, 33, 34, 35, 36, 37, 38, 39, 40, 41, 42, 43, 44, 45] (by decide +kernel) (by decide +kernel)
set_option maxRecDepth 20000 in
theorem gX8_now_X8_allOf : GoodIn wsX8_now (wsV RX8 157 RX8 yX8_allOf wsX8_allOf) := goodIn_app (goodIn_of _ (by decide +kernel)) ggX8_now_X8_allOf
set_option maxRecDepth 20000 in
theorem ggX8_now_X8_weighs : GoodIn wsX8_now wsX8_weighs := goodIn_r _ [16, 1, 17, 9, 10, 11, 7, 12, 18, 19, 20, 21, 22, 23, 24, 25, 26, 27, 28, 29, 30, 31, 32, 33, 34, 35, 36, 37, 38, 39, 40, 41, 42, 43, 44, 45] (by decide +kernel) (by decide +kernel)
set_option maxRecDepth 20000 in
theorem gX8_now_X8_weighs : GoodIn wsX8_now (wsV RX8 161 RX8 yX8_weighs wsX8_weighs) := goodIn_app (goodIn_of _ (by decide +kernel)) ggX8_now_X8_weighs
theorem dX8_now_0 : decode cX8_now 0 = .ok (.iload_n 1, 1) := by decide +kernel
theorem dX8_now_1 : decode cX8_now 1 = .ok (.tableswitch 71 0 4 #[35, 44, 53, 59, 65], 35) := by decide +kernel
theorem dX8_now_36 : decode cX8_now 36 = .ok (.aload_n 0, 1) := by decide +kernel
theorem dX8_now_37 : decode cX8_now 37 = .ok (.getfield 7, 3) := by decide +kernel
theorem dX8_now_40 : decode cX8_now 40 = .ok (.sipush 606, 3) := by decide +kernel
theorem dX8_now_43 : decode cX8_now 43 = .ok (.laload, 1) := by decide +kernel
theorem dX8_now_44 : decode cX8_now 44 = .ok (.lreturn, 1) := by decide +kernel
theorem dX8_now_45 : decode cX8_now 45 = .ok (.aload_n 0, 1) := by decide +kernel
theorem dX8_now_46 : decode cX8_now 46 = .ok (.getfield 7, 3) := by decide +kernel
theorem dX8_now_49 : decode cX8_now 49 = .ok (.sipush 605, 3) := by decide +kernel
theorem dX8_now_52 : decode cX8_now 52 = .ok (.laload, 1) := by decide +kernel
theorem dX8_now_53 : decode cX8_now 53 = .ok (.lreturn, 1) := by decide +kernel
theorem dX8_now_54 : decode cX8_now 54 = .ok (.aload_n 0, 1) := by decide +kernel
theorem dX8_now_55 : decode cX8_now 55 = .ok (.iconst 0, 1) := by decide +kernel
theorem dX8_now_56 : decode cX8_now 56 = .ok (.invokevirtual 157, 3) := by decide +kernel
theorem dX8_now_59 : decode cX8_now 59 = .ok (.lreturn, 1) := by decide +kernel
theorem dX8_now_60 : decode cX8_now 60 = .ok (.aload_n 0, 1) := by decide +kernel
theorem dX8_now_61 : decode cX8_now 61 = .ok (.iconst 0, 1) := by decide +kernel
theorem dX8_now_62 : decode cX8_now 62 = .ok (.invokevirtual 161, 3) := by decide +kernel
theorem dX8_now_65 : decode cX8_now 65 = .ok (.lreturn, 1) := by decide +kernel
theorem dX8_now_66 : decode cX8_now 66 = .ok (.aload_n 0, 1) := by decide +kernel
theorem dX8_now_67 : decode cX8_now 67 = .ok (.getfield 82, 3) := by decide +kernel
theorem dX8_now_70 : decode cX8_now 70 = .ok (.i2l, 1) := by decide +kernel
theorem dX8_now_71 : decode cX8_now 71 = .ok (.lreturn, 1) := by decide +kernel
theorem dX8_now_72 : decode cX8_now 72 = .ok (.ldc2_w 164, 3) := by decide +kernel
theorem dX8_now_75 : decode cX8_now 75 = .ok (.lreturn, 1) := by decide +kernel
set_option maxRecDepth 20000 in
theorem ggX8_minds_X8_copy : GoodIn wsX8_minds wsX8_copy := goodIn_r _ [7, 2, 8, 9, 10, 11, 12, 13, 14, 15, 16, 17, 18, 19, 20, 21, 22, 23, 24, 25, 26, 27, 28, 29, 30, 31, 32, 33, 34, 35] (by decide +kernel) (by decide +kernel)
set_option maxRecDepth 20000 in
theorem gX8_minds_X8_copy : GoodIn wsX8_minds (wsV RX8 166 RX8 yX8_copy wsX8_copy) := goodIn_app (goodIn_of _ (by decide +kernel)) ggX8_minds_X8_copy
theorem dX8_minds_0 : decode cX8_minds 0 = .ok (.aload_n 0, 1) := by decide +kernel
theorem dX8_minds_1 : decode cX8_minds 1 = .ok (.getfield 82, 3) := by decide +kernel
theorem dX8_minds_4 : decode cX8_minds 4 = .ok (.bipush 8, 2) := by decide +kernel
theorem dX8_minds_6 : decode cX8_minds 6 = .ok (.if_icmp .ne 52, 3) := by decide +kernel
theorem dX8_minds_9 : decode cX8_minds 9 = .ok (.iconst 0, 1) := by decide +kernel
theorem dX8_minds_10 : decode cX8_minds 10 = .ok (.istore_n 1, 1) := by decide +kernel
theorem dX8_minds_11 : decode cX8_minds 11 = .ok (.iload_n 1, 1) := by decide +kernel
theorem dX8_minds_12 : decode cX8_minds 12 = .ok (.sipush 4249, 3) := by decide +kernel
theorem dX8_minds_15 : decode cX8_minds 15 = .ok (.if_icmp .ge 33, 3) := by decide +kernel
theorem dX8_minds_18 : decode cX8_minds 18 = .ok (.aload_n 0, 1) := by decide +kernel
theorem dX8_minds_19 : decode cX8_minds 19 = .ok (.getfield 7, 3) := by decide +kernel
theorem dX8_minds_22 : decode cX8_minds 22 = .ok (.sipush 2428, 3) := by decide +kernel
theorem dX8_minds_25 : decode cX8_minds 25 = .ok (.iload_n 1, 1) := by decide +kernel
theorem dX8_minds_26 : decode cX8_minds 26 = .ok (.iadd, 1) := by decide +kernel
theorem dX8_minds_27 : decode cX8_minds 27 = .ok (.aload_n 0, 1) := by decide +kernel
theorem dX8_minds_28 : decode cX8_minds 28 = .ok (.getfield 7, 3) := by decide +kernel
theorem dX8_minds_31 : decode cX8_minds 31 = .ok (.sipush 2428, 3) := by decide +kernel
theorem dX8_minds_34 : decode cX8_minds 34 = .ok (.iload_n 1, 1) := by decide +kernel
theorem dX8_minds_35 : decode cX8_minds 35 = .ok (.iadd, 1) := by decide +kernel
theorem dX8_minds_36 : decode cX8_minds 36 = .ok (.sipush 607, 3) := by decide +kernel
theorem dX8_minds_39 : decode cX8_minds 39 = .ok (.iadd, 1) := by decide +kernel
theorem dX8_minds_40 : decode cX8_minds 40 = .ok (.laload, 1) := by decide +kernel
theorem dX8_minds_41 : decode cX8_minds 41 = .ok (.lastore, 1) := by decide +kernel
theorem dX8_minds_42 : decode cX8_minds 42 = .ok (.iinc 1 1, 3) := by decide +kernel
theorem dX8_minds_45 : decode cX8_minds 45 = .ok (.goto (-34), 3) := by decide +kernel
theorem dX8_minds_48 : decode cX8_minds 48 = .ok (.aload_n 0, 1) := by decide +kernel
theorem dX8_minds_49 : decode cX8_minds 49 = .ok (.dup, 1) := by decide +kernel
theorem dX8_minds_50 : decode cX8_minds 50 = .ok (.getfield 82, 3) := by decide +kernel
theorem dX8_minds_53 : decode cX8_minds 53 = .ok (.iconst 1, 1) := by decide +kernel
theorem dX8_minds_54 : decode cX8_minds 54 = .ok (.isub, 1) := by decide +kernel
theorem dX8_minds_55 : decode cX8_minds 55 = .ok (.putfield 82, 3) := by decide +kernel
theorem dX8_minds_58 : decode cX8_minds 58 = .ok (.aload_n 0, 1) := by decide +kernel
theorem dX8_minds_59 : decode cX8_minds 59 = .ok (.iconst 0, 1) := by decide +kernel
theorem dX8_minds_60 : decode cX8_minds 60 = .ok (.sipush 2428, 3) := by decide +kernel
theorem dX8_minds_63 : decode cX8_minds 63 = .ok (.sipush 607, 3) := by decide +kernel
theorem dX8_minds_66 : decode cX8_minds 66 = .ok (.aload_n 0, 1) := by decide +kernel
theorem dX8_minds_67 : decode cX8_minds 67 = .ok (.getfield 82, 3) := by decide +kernel
theorem dX8_minds_70 : decode cX8_minds 70 = .ok (.imul, 1) := by decide +kernel
theorem dX8_minds_71 : decode cX8_minds 71 = .ok (.iadd, 1) := by decide +kernel
theorem dX8_minds_72 : decode cX8_minds 72 = .ok (.invokevirtual 166, 3) := by decide +kernel
theorem dX8_minds_75 : decode cX8_minds 75 = .ok (.aload_n 0, 1) := by decide +kernel
theorem dX8_minds_76 : decode cX8_minds 76 = .ok (.dup, 1) := by decide +kernel
theorem dX8_minds_77 : decode cX8_minds 77 = .ok (.getfield 82, 3) := by decide +kernel
theorem dX8_minds_80 : decode cX8_minds 80 = .ok (.iconst 1, 1) := by decide +kernel
theorem dX8_minds_81 : decode cX8_minds 81 = .ok (.iadd, 1) := by decide +kernel
theorem dX8_minds_82 : decode cX8_minds 82 = .ok (.putfield 82, 3) := by decide +kernel
theorem dX8_minds_85 : decode cX8_minds 85 = .ok (.return_, 1) := by decide +kernel
set_option maxRecDepth 20000 in
theorem ggX8_night_X8_minds : GoodIn wsX8_night wsX8_minds := goodIn_r _ [8, 9, 1, 10, 11, 12, 7, 13, 30, 31, 32, 33, 34, 35, 36, 37, 38, 39, 40, 41, 42, 43, 44, 45, 46, 47, 48, 49, 50, 51, 52, 53, 54, 55, 56, 57] (by decide +kernel) (by decide +kernel)
set_option maxRecDepth 20000 in
theorem gX8_night_X8_minds : GoodIn wsX8_night (wsV RX8 174 RX8 yX8_minds wsX8_minds) := goodIn_app (goodIn_of _ (by decide +kernel)) ggX8_night_X8_minds
set_option maxRecDepth 20000 in
theorem ggX8_night_X8_goes : GoodIn wsX8_night wsX8_goes := goodIn_r _ [17, 1, 18, 19, 20, 21, 7, 22, 23, 24, 25, 26, 27, 28, 29, 30, 31, 32, 33, 34, 35, 36, 37, 38, 39, 40, 41, 42, 43, 44, 45, 46, 47, 48, 49, 50, 51, 52, 53, 54, 55, 56, 57] (by decide +kernel) (by decide +kernel)
set_option maxRecDepth 20000 in
theorem gX8_night_X8_goes : GoodIn wsX8_night (wsV RX8 177 RX8 yX8_goes wsX8_goes) := goodIn_app (goodIn_of _ (by decide +kernel)) ggX8_night_X8_goes
theorem dX8_night_0 : decode cX8_night 0 = .ok (.aload_n 0, 1) := by decide +kernel
theorem dX8_night_1 : decode cX8_night 1 = .ok (.getfield 7, 3) := by decide +kernel
theorem dX8_night_4 : decode cX8_night 4 = .ok (.sipush 606, 3) := by decide +kernel
theorem dX8_night_7 : decode cX8_night 7 = .ok (.laload, 1) := by decide +kernel
theorem dX8_night_8 : decode cX8_night 8 = .ok (.ldc2_w 170, 3) := by decide +kernel
theorem dX8_night_11 : decode cX8_night 11 = .ok (.lcmp, 1) := by decide +kernel
theorem dX8_night_12 : decode cX8_night 12 = .ok (.ifCond .ne 7, 3) := by decide +kernel
theorem dX8_night_15 : decode cX8_night 15 = .ok (.ldc2_w 172, 3) := by decide +kernel
theorem dX8_night_18 : decode cX8_night 18 = .ok (.lreturn, 1) := by decide +kernel
theorem dX8_night_19 : decode cX8_night 19 = .ok (.aload_n 0, 1) := by decide +kernel
theorem dX8_night_20 : decode cX8_night 20 = .ok (.invokevirtual 174, 3) := by decide +kernel
theorem dX8_night_23 : decode cX8_night 23 = .ok (.aload_n 0, 1) := by decide +kernel
theorem dX8_night_24 : decode cX8_night 24 = .ok (.iconst 0, 1) := by decide +kernel
theorem dX8_night_25 : decode cX8_night 25 = .ok (.invokevirtual 177, 3) := by decide +kernel
theorem dX8_night_28 : decode cX8_night 28 = .ok (.lreturn, 1) := by decide +kernel
set_option maxRecDepth 20000 in
theorem ggX8_areMany_X8_isOrder : GoodIn wsX8_areMany wsX8_isOrder := goodIn_r _ [5, 6, 7, 8, 4, 9] (by decide +kernel) (by decide +kernel)
set_option maxRecDepth 20000 in
theorem gX8_areMany_X8_isOrder : GoodIn wsX8_areMany (va_wsS RX8 149 yX8_isOrder wsX8_isOrder) := goodIn_app (goodIn_of _ (by decide +kernel)) ggX8_areMany_X8_isOrder
set_option maxRecDepth 20000 in
theorem ggX8_areMany_X8_in : GoodIn wsX8_areMany wsX8_in := goodIn_r _ [9] (by decide +kernel) (by decide +kernel)
set_option maxRecDepth 20000 in
theorem gX8_areMany_X8_in : GoodIn wsX8_areMany (va_wsS RX8 91 yX8_in wsX8_in) := goodIn_app (goodIn_of _ (by decide +kernel)) ggX8_areMany_X8_in
theorem dX8_areMany_0 : decode cX8_areMany 0 = .ok (.iload_n 1, 1) := by decide +kernel
theorem dX8_areMany_1 : decode cX8_areMany 1 = .ok (.invokestatic 149, 3) := by decide +kernel
theorem dX8_areMany_4 : decode cX8_areMany 4 = .ok (.ifCond .eq 19, 3) := by decide +kernel
theorem dX8_areMany_7 : decode cX8_areMany 7 = .ok (.iload_n 2, 1) := by decide +kernel
theorem dX8_areMany_8 : decode cX8_areMany 8 = .ok (.i2l, 1) := by decide +kernel
theorem dX8_areMany_9 : decode cX8_areMany 9 = .ok (.lconst 1, 1) := by decide +kernel
theorem dX8_areMany_10 : decode cX8_areMany 10 = .ok (.ldc2_w 180, 3) := by decide +kernel
theorem dX8_areMany_13 : decode cX8_areMany 13 = .ok (.invokestatic 91, 3) := by decide +kernel
theorem dX8_areMany_16 : decode cX8_areMany 16 = .ok (.ifCond .eq 7, 3) := by decide +kernel
theorem dX8_areMany_19 : decode cX8_areMany 19 = .ok (.iconst 1, 1) := by decide +kernel
theorem dX8_areMany_20 : decode cX8_areMany 20 = .ok (.goto 4, 3) := by decide +kernel
theorem dX8_areMany_23 : decode cX8_areMany 23 = .ok (.iconst 0, 1) := by decide +kernel
theorem dX8_areMany_24 : decode cX8_areMany 24 = .ok (.ireturn, 1) := by decide +kernel
set_option maxRecDepth 20000 in
theorem ggX8_swans_X8_areMany : GoodIn wsX8_swans wsX8_areMany := goodIn_r _ [8, 9, 10, 11, 7, 12, 13, 14, 15, 16] (by decide +kernel) (by decide +kernel)
set_option maxRecDepth 20000 in
theorem gX8_swans_X8_areMany : GoodIn wsX8_swans (wsV RX8 182 RX8 yX8_areMany wsX8_areMany) := goodIn_app (goodIn_of _ (by decide +kernel)) ggX8_swans_X8_areMany
set_option maxRecDepth 20000 in
theorem ggX8_swans_X8_manyOf : GoodIn wsX8_swans wsX8_manyOf := goodIn_r _ [20, 21, 35, 36, 37, 38, 39, 40, 41, 42, 43, 44, 45, 46, 47, 48, 49, 50, 51, 52, 53, 54, 55, 56, 57, 58, 59, 60, 61, 62] (by decide +kernel) (by decide +kernel)
set_option maxRecDepth 20000 in
theorem gX8_swans_X8_manyOf : GoodIn wsX8_swans (wsV RX8 145 RX8 yX8_manyOf wsX8_manyOf) := goodIn_app (goodIn_of _ (by decide +kernel)) ggX8_swans_X8_manyOf
set_option maxRecDepth 20000 in
theorem ggX8_swans_X8_minds : GoodIn wsX8_swans wsX8_minds := goodIn_r _ [25, 26, 21, 27, 28, 29, 7, 30, 35, 36, 37, 38, 39, 40, 41, 42, 43, 44, 45, 46, 47, 48, 49, 50, 51, 52, 53, 54, 55, 56, 57, 58, 59, 60, 61, 62] (by decide +kernel) (by decide +kernel)
set_option maxRecDepth 20000 in
theorem gX8_swans_X8_minds : GoodIn wsX8_swans (wsV RX8 174 RX8 yX8_minds wsX8_minds) := goodIn_app (goodIn_of _ (by decide +kernel)) ggX8_swans_X8_minds
set_option maxRecDepth 20000 in
theorem ggX8_swans_X8_takesAway : GoodIn wsX8_swans wsX8_takesAway := goodIn_r _ [34, 21, 35, 36, 37, 38, 39, 40, 41, 42, 43, 44, 45, 46, 47, 48, 49, 50, 51, 52, 53, 54, 55, 56, 57, 58, 59, 60, 61, 62] (by decide +kernel) (by decide +kernel)
set_option maxRecDepth 20000 in
theorem gX8_swans_X8_takesAway : GoodIn wsX8_swans (wsV RX8 185 RX8 yX8_takesAway wsX8_takesAway) := goodIn_app (goodIn_of _ (by decide +kernel)) ggX8_swans_X8_takesAway
theorem dX8_swans_0 : decode cX8_swans 0 = .ok (.aload_n 0, 1) := by decide +kernel
theorem dX8_swans_1 : decode cX8_swans 1 = .ok (.iload_n 1, 1) := by decide +kernel
theorem dX8_swans_2 : decode cX8_swans 2 = .ok (.iload_n 2, 1) := by decide +kernel
theorem dX8_swans_3 : decode cX8_swans 3 = .ok (.invokevirtual 182, 3) := by decide +kernel
theorem dX8_swans_6 : decode cX8_swans 6 = .ok (.ifCond .ne 7, 3) := by decide +kernel
theorem dX8_swans_9 : decode cX8_swans 9 = .ok (.ldc2_w 164, 3) := by decide +kernel
theorem dX8_swans_12 : decode cX8_swans 12 = .ok (.lreturn, 1) := by decide +kernel
theorem dX8_swans_13 : decode cX8_swans 13 = .ok (.aload_n 0, 1) := by decide +kernel
theorem dX8_swans_14 : decode cX8_swans 14 = .ok (.iconst 0, 1) := by decide +kernel
theorem dX8_swans_15 : decode cX8_swans 15 = .ok (.iload_n 1, 1) := by decide +kernel
theorem dX8_swans_16 : decode cX8_swans 16 = .ok (.invokevirtual 145, 3) := by decide +kernel
theorem dX8_swans_19 : decode cX8_swans 19 = .ok (.iload_n 2, 1) := by decide +kernel
theorem dX8_swans_20 : decode cX8_swans 20 = .ok (.i2l, 1) := by decide +kernel
theorem dX8_swans_21 : decode cX8_swans 21 = .ok (.lcmp, 1) := by decide +kernel
theorem dX8_swans_22 : decode cX8_swans 22 = .ok (.ifCond .ge 7, 3) := by decide +kernel
theorem dX8_swans_25 : decode cX8_swans 25 = .ok (.ldc2_w 172, 3) := by decide +kernel
theorem dX8_swans_28 : decode cX8_swans 28 = .ok (.lreturn, 1) := by decide +kernel
theorem dX8_swans_29 : decode cX8_swans 29 = .ok (.aload_n 0, 1) := by decide +kernel
theorem dX8_swans_30 : decode cX8_swans 30 = .ok (.invokevirtual 174, 3) := by decide +kernel
theorem dX8_swans_33 : decode cX8_swans 33 = .ok (.aload_n 0, 1) := by decide +kernel
theorem dX8_swans_34 : decode cX8_swans 34 = .ok (.iconst 0, 1) := by decide +kernel
theorem dX8_swans_35 : decode cX8_swans 35 = .ok (.iload_n 1, 1) := by decide +kernel
theorem dX8_swans_36 : decode cX8_swans 36 = .ok (.iload_n 2, 1) := by decide +kernel
theorem dX8_swans_37 : decode cX8_swans 37 = .ok (.i2l, 1) := by decide +kernel
theorem dX8_swans_38 : decode cX8_swans 38 = .ok (.invokevirtual 185, 3) := by decide +kernel
theorem dX8_swans_41 : decode cX8_swans 41 = .ok (.iload_n 2, 1) := by decide +kernel
theorem dX8_swans_42 : decode cX8_swans 42 = .ok (.i2l, 1) := by decide +kernel
theorem dX8_swans_43 : decode cX8_swans 43 = .ok (.aload_n 0, 1) := by decide +kernel
theorem dX8_swans_44 : decode cX8_swans 44 = .ok (.getfield 17, 3) := by decide +kernel
theorem dX8_swans_47 : decode cX8_swans 47 = .ok (.iload_n 1, 1) := by decide +kernel
theorem dX8_swans_48 : decode cX8_swans 48 = .ok (.iaload, 1) := by decide +kernel
theorem dX8_swans_49 : decode cX8_swans 49 = .ok (.i2l, 1) := by decide +kernel
theorem dX8_swans_50 : decode cX8_swans 50 = .ok (.lmul, 1) := by decide +kernel
theorem dX8_swans_51 : decode cX8_swans 51 = .ok (.lreturn, 1) := by decide +kernel
set_option maxRecDepth 20000 in
theorem ggX8_melts_X8_areMany : GoodIn wsX8_melts wsX8_areMany := goodIn_r _ [9, 10, 11, 12, 8, 13, 14, 15, 16, 17] (by decide +kernel) (by decide +kernel)
set_option maxRecDepth 20000 in
theorem gX8_melts_X8_areMany : GoodIn wsX8_melts (wsV RX8 182 RX8 yX8_areMany wsX8_areMany) := goodIn_app (goodIn_of _ (by decide +kernel)) ggX8_melts_X8_areMany
set_option maxRecDepth 20000 in
theorem ggX8_melts_X8_manyOf : GoodIn wsX8_melts wsX8_manyOf := goodIn_r _ [21, 3, 35, 36, 37, 38, 39, 40, 41, 42, 43, 44, 45, 46, 47, 48, 49, 50, 51, 52, 53, 54, 55, 56, 57, 58, 59, 60, 61, 62] (by decide +kernel) (by decide +kernel)
set_option maxRecDepth 20000 in
theorem gX8_melts_X8_manyOf : GoodIn wsX8_melts (wsV RX8 145 RX8 yX8_manyOf wsX8_manyOf) := goodIn_app (goodIn_of _ (by decide +kernel)) ggX8_melts_X8_manyOf
set_option maxRecDepth 20000 in
theorem ggX8_melts_X8_minds : GoodIn wsX8_melts wsX8_minds := goodIn_r _ [25, 26, 3, 27, 28, 29, 8, 30, 35, 36, 37, 38, 39, 40, 41, 42, 43, 44, 45, 46, 47, 48, 49, 50, 51, 52, 53, 54, 55, 56, 57, 58, 59, 60, 61, 62] (by decide +kernel) (by decide +kernel)
set_option maxRecDepth 20000 in
theorem gX8_melts_X8_minds : GoodIn wsX8_melts (wsV RX8 174 RX8 yX8_minds wsX8_minds) := goodIn_app (goodIn_of _ (by decide +kernel)) ggX8_melts_X8_minds
set_option maxRecDepth 20000 in
theorem ggX8_melts_X8_takesAway : GoodIn wsX8_melts wsX8_takesAway := goodIn_r _ [34, 3, 35, 36, 37, 38, 39, 40, 41, 42, 43, 44, 45, 46, 47, 48, 49, 50, 51, 52, 53, 54, 55, 56, 57, 58, 59, 60, 61, 62] (by decide +kernel) (by decide +kernel)
set_option maxRecDepth 20000 in
theorem gX8_melts_X8_takesAway : GoodIn wsX8_melts (wsV RX8 185 RX8 yX8_takesAway wsX8_takesAway) := goodIn_app (goodIn_of _ (by decide +kernel)) ggX8_melts_X8_takesAway
theorem dX8_melts_0 : decode cX8_melts 0 = .ok (.aload_n 0, 1) := by decide +kernel
theorem dX8_melts_1 : decode cX8_melts 1 = .ok (.iload_n 1, 1) := by decide +kernel
theorem dX8_melts_2 : decode cX8_melts 2 = .ok (.iload_n 2, 1) := by decide +kernel
theorem dX8_melts_3 : decode cX8_melts 3 = .ok (.invokevirtual 182, 3) := by decide +kernel
theorem dX8_melts_6 : decode cX8_melts 6 = .ok (.ifCond .ne 7, 3) := by decide +kernel
theorem dX8_melts_9 : decode cX8_melts 9 = .ok (.ldc2_w 164, 3) := by decide +kernel
theorem dX8_melts_12 : decode cX8_melts 12 = .ok (.lreturn, 1) := by decide +kernel
theorem dX8_melts_13 : decode cX8_melts 13 = .ok (.aload_n 0, 1) := by decide +kernel
theorem dX8_melts_14 : decode cX8_melts 14 = .ok (.iconst 0, 1) := by decide +kernel
theorem dX8_melts_15 : decode cX8_melts 15 = .ok (.iload_n 1, 1) := by decide +kernel
theorem dX8_melts_16 : decode cX8_melts 16 = .ok (.invokevirtual 145, 3) := by decide +kernel
theorem dX8_melts_19 : decode cX8_melts 19 = .ok (.iload_n 2, 1) := by decide +kernel
theorem dX8_melts_20 : decode cX8_melts 20 = .ok (.i2l, 1) := by decide +kernel
theorem dX8_melts_21 : decode cX8_melts 21 = .ok (.lcmp, 1) := by decide +kernel
theorem dX8_melts_22 : decode cX8_melts 22 = .ok (.ifCond .ge 7, 3) := by decide +kernel
theorem dX8_melts_25 : decode cX8_melts 25 = .ok (.ldc2_w 172, 3) := by decide +kernel
theorem dX8_melts_28 : decode cX8_melts 28 = .ok (.lreturn, 1) := by decide +kernel
theorem dX8_melts_29 : decode cX8_melts 29 = .ok (.aload_n 0, 1) := by decide +kernel
theorem dX8_melts_30 : decode cX8_melts 30 = .ok (.invokevirtual 174, 3) := by decide +kernel
theorem dX8_melts_33 : decode cX8_melts 33 = .ok (.aload_n 0, 1) := by decide +kernel
theorem dX8_melts_34 : decode cX8_melts 34 = .ok (.iconst 0, 1) := by decide +kernel
theorem dX8_melts_35 : decode cX8_melts 35 = .ok (.iload_n 1, 1) := by decide +kernel
theorem dX8_melts_36 : decode cX8_melts 36 = .ok (.iload_n 2, 1) := by decide +kernel
theorem dX8_melts_37 : decode cX8_melts 37 = .ok (.i2l, 1) := by decide +kernel
theorem dX8_melts_38 : decode cX8_melts 38 = .ok (.invokevirtual 185, 3) := by decide +kernel
theorem dX8_melts_41 : decode cX8_melts 41 = .ok (.aload_n 0, 1) := by decide +kernel
theorem dX8_melts_42 : decode cX8_melts 42 = .ok (.getfield 7, 3) := by decide +kernel
theorem dX8_melts_45 : decode cX8_melts 45 = .ok (.sipush 605, 3) := by decide +kernel
theorem dX8_melts_48 : decode cX8_melts 48 = .ok (.dup2, 1) := by decide +kernel
theorem dX8_melts_49 : decode cX8_melts 49 = .ok (.laload, 1) := by decide +kernel
theorem dX8_melts_50 : decode cX8_melts 50 = .ok (.iload_n 2, 1) := by decide +kernel
theorem dX8_melts_51 : decode cX8_melts 51 = .ok (.i2l, 1) := by decide +kernel
theorem dX8_melts_52 : decode cX8_melts 52 = .ok (.aload_n 0, 1) := by decide +kernel
theorem dX8_melts_53 : decode cX8_melts 53 = .ok (.getfield 17, 3) := by decide +kernel
theorem dX8_melts_56 : decode cX8_melts 56 = .ok (.iload_n 1, 1) := by decide +kernel
theorem dX8_melts_57 : decode cX8_melts 57 = .ok (.iaload, 1) := by decide +kernel
theorem dX8_melts_58 : decode cX8_melts 58 = .ok (.i2l, 1) := by decide +kernel
theorem dX8_melts_59 : decode cX8_melts 59 = .ok (.lmul, 1) := by decide +kernel
theorem dX8_melts_60 : decode cX8_melts 60 = .ok (.ladd, 1) := by decide +kernel
theorem dX8_melts_61 : decode cX8_melts 61 = .ok (.lastore, 1) := by decide +kernel
theorem dX8_melts_62 : decode cX8_melts 62 = .ok (.aload_n 0, 1) := by decide +kernel
theorem dX8_melts_63 : decode cX8_melts 63 = .ok (.getfield 7, 3) := by decide +kernel
theorem dX8_melts_66 : decode cX8_melts 66 = .ok (.sipush 605, 3) := by decide +kernel
theorem dX8_melts_69 : decode cX8_melts 69 = .ok (.laload, 1) := by decide +kernel
theorem dX8_melts_70 : decode cX8_melts 70 = .ok (.lreturn, 1) := by decide +kernel
set_option maxRecDepth 20000 in
theorem ggX8_pays_X8_in : GoodIn wsX8_pays wsX8_in := goodIn_r _ [8] (by decide +kernel) (by decide +kernel)
set_option maxRecDepth 20000 in
theorem gX8_pays_X8_in : GoodIn wsX8_pays (va_wsS RX8 91 yX8_in wsX8_in) := goodIn_app (goodIn_of _ (by decide +kernel)) ggX8_pays_X8_in
set_option maxRecDepth 20000 in
theorem ggX8_pays_X8_minds : GoodIn wsX8_pays wsX8_minds := goodIn_r _ [12, 13, 3, 14, 15, 16, 7, 17, 18, 19, 20, 21, 22, 23, 24, 25, 26, 27, 28, 29, 30, 31, 32, 33, 34, 35, 36, 37, 38, 39, 40, 41, 42, 43, 44, 45] (by decide +kernel) (by decide +kernel)
set_option maxRecDepth 20000 in
theorem gX8_pays_X8_minds : GoodIn wsX8_pays (wsV RX8 174 RX8 yX8_minds wsX8_minds) := goodIn_app (goodIn_of _ (by decide +kernel)) ggX8_pays_X8_minds
theorem dX8_pays_0 : decode cX8_pays 0 = .ok (.iload_n 1, 1) := by decide +kernel
theorem dX8_pays_1 : decode cX8_pays 1 = .ok (.i2l, 1) := by decide +kernel
theorem dX8_pays_2 : decode cX8_pays 2 = .ok (.lconst 1, 1) := by decide +kernel
theorem dX8_pays_3 : decode cX8_pays 3 = .ok (.ldc2_w 180, 3) := by decide +kernel
theorem dX8_pays_6 : decode cX8_pays 6 = .ok (.invokestatic 91, 3) := by decide +kernel
theorem dX8_pays_9 : decode cX8_pays 9 = .ok (.ifCond .ne 7, 3) := by decide +kernel
theorem dX8_pays_12 : decode cX8_pays 12 = .ok (.ldc2_w 164, 3) := by decide +kernel
theorem dX8_pays_15 : decode cX8_pays 15 = .ok (.lreturn, 1) := by decide +kernel
theorem dX8_pays_16 : decode cX8_pays 16 = .ok (.aload_n 0, 1) := by decide +kernel
theorem dX8_pays_17 : decode cX8_pays 17 = .ok (.getfield 7, 3) := by decide +kernel
theorem dX8_pays_20 : decode cX8_pays 20 = .ok (.sipush 605, 3) := by decide +kernel
theorem dX8_pays_23 : decode cX8_pays 23 = .ok (.laload, 1) := by decide +kernel
theorem dX8_pays_24 : decode cX8_pays 24 = .ok (.iload_n 1, 1) := by decide +kernel
theorem dX8_pays_25 : decode cX8_pays 25 = .ok (.i2l, 1) := by decide +kernel
theorem dX8_pays_26 : decode cX8_pays 26 = .ok (.lcmp, 1) := by decide +kernel
theorem dX8_pays_27 : decode cX8_pays 27 = .ok (.ifCond .ge 7, 3) := by decide +kernel
theorem dX8_pays_30 : decode cX8_pays 30 = .ok (.ldc2_w 172, 3) := by decide +kernel
theorem dX8_pays_33 : decode cX8_pays 33 = .ok (.lreturn, 1) := by decide +kernel
theorem dX8_pays_34 : decode cX8_pays 34 = .ok (.aload_n 0, 1) := by decide +kernel
theorem dX8_pays_35 : decode cX8_pays 35 = .ok (.invokevirtual 174, 3) := by decide +kernel
theorem dX8_pays_38 : decode cX8_pays 38 = .ok (.aload_n 0, 1) := by decide +kernel
theorem dX8_pays_39 : decode cX8_pays 39 = .ok (.getfield 7, 3) := by decide +kernel
theorem dX8_pays_42 : decode cX8_pays 42 = .ok (.sipush 605, 3) := by decide +kernel
theorem dX8_pays_45 : decode cX8_pays 45 = .ok (.dup2, 1) := by decide +kernel
theorem dX8_pays_46 : decode cX8_pays 46 = .ok (.laload, 1) := by decide +kernel
theorem dX8_pays_47 : decode cX8_pays 47 = .ok (.iload_n 1, 1) := by decide +kernel
theorem dX8_pays_48 : decode cX8_pays 48 = .ok (.i2l, 1) := by decide +kernel
theorem dX8_pays_49 : decode cX8_pays 49 = .ok (.lsub, 1) := by decide +kernel
theorem dX8_pays_50 : decode cX8_pays 50 = .ok (.lastore, 1) := by decide +kernel
theorem dX8_pays_51 : decode cX8_pays 51 = .ok (.aload_n 0, 1) := by decide +kernel
theorem dX8_pays_52 : decode cX8_pays 52 = .ok (.getfield 7, 3) := by decide +kernel
theorem dX8_pays_55 : decode cX8_pays 55 = .ok (.sipush 605, 3) := by decide +kernel
theorem dX8_pays_58 : decode cX8_pays 58 = .ok (.laload, 1) := by decide +kernel
theorem dX8_pays_59 : decode cX8_pays 59 = .ok (.lreturn, 1) := by decide +kernel
set_option maxRecDepth 20000 in
theorem ggX8_undo_X8_copy : GoodIn wsX8_undo wsX8_copy := goodIn_r _ [6, 7, 8, 9, 10, 11, 12, 13, 14, 15, 16, 17, 18, 19, 20, 21, 22, 23, 24, 25, 26, 27, 28, 29, 30, 31, 32, 33, 34, 35] (by decide +kernel) (by decide +kernel)
set_option maxRecDepth 20000 in
theorem gX8_undo_X8_copy : GoodIn wsX8_undo (wsV RX8 166 RX8 yX8_copy wsX8_copy) := goodIn_app (goodIn_of _ (by decide +kernel)) ggX8_undo_X8_copy
theorem dX8_undo_0 : decode cX8_undo 0 = .ok (.aload_n 0, 1) := by decide +kernel
theorem dX8_undo_1 : decode cX8_undo 1 = .ok (.getfield 82, 3) := by decide +kernel
theorem dX8_undo_4 : decode cX8_undo 4 = .ok (.ifCond .ne 6, 3) := by decide +kernel
theorem dX8_undo_7 : decode cX8_undo 7 = .ok (.bipush (-2), 2) := by decide +kernel
theorem dX8_undo_9 : decode cX8_undo 9 = .ok (.ireturn, 1) := by decide +kernel
theorem dX8_undo_10 : decode cX8_undo 10 = .ok (.aload_n 0, 1) := by decide +kernel
theorem dX8_undo_11 : decode cX8_undo 11 = .ok (.dup, 1) := by decide +kernel
theorem dX8_undo_12 : decode cX8_undo 12 = .ok (.getfield 82, 3) := by decide +kernel
theorem dX8_undo_15 : decode cX8_undo 15 = .ok (.iconst 1, 1) := by decide +kernel
theorem dX8_undo_16 : decode cX8_undo 16 = .ok (.isub, 1) := by decide +kernel
theorem dX8_undo_17 : decode cX8_undo 17 = .ok (.putfield 82, 3) := by decide +kernel
theorem dX8_undo_20 : decode cX8_undo 20 = .ok (.aload_n 0, 1) := by decide +kernel
theorem dX8_undo_21 : decode cX8_undo 21 = .ok (.sipush 2428, 3) := by decide +kernel
theorem dX8_undo_24 : decode cX8_undo 24 = .ok (.sipush 607, 3) := by decide +kernel
theorem dX8_undo_27 : decode cX8_undo 27 = .ok (.aload_n 0, 1) := by decide +kernel
theorem dX8_undo_28 : decode cX8_undo 28 = .ok (.getfield 82, 3) := by decide +kernel
theorem dX8_undo_31 : decode cX8_undo 31 = .ok (.imul, 1) := by decide +kernel
theorem dX8_undo_32 : decode cX8_undo 32 = .ok (.iadd, 1) := by decide +kernel
theorem dX8_undo_33 : decode cX8_undo 33 = .ok (.iconst 0, 1) := by decide +kernel
theorem dX8_undo_34 : decode cX8_undo 34 = .ok (.invokevirtual 166, 3) := by decide +kernel
theorem dX8_undo_37 : decode cX8_undo 37 = .ok (.aload_n 0, 1) := by decide +kernel
theorem dX8_undo_38 : decode cX8_undo 38 = .ok (.getfield 82, 3) := by decide +kernel
theorem dX8_undo_41 : decode cX8_undo 41 = .ok (.ireturn, 1) := by decide +kernel
set_option maxRecDepth 20000 in
theorem ggX8_goesTill_X8_goes : GoodIn wsX8_goesTill wsX8_goes := goodIn_r _ [6, 1, 7, 8, 9, 10, 5, 11, 12, 13, 14, 15, 16, 17, 18, 19, 20, 21, 22, 23, 24, 25, 26, 27, 28, 29, 30, 31, 32, 33, 34, 35, 36, 37, 38, 39, 40, 41, 42, 43, 44, 45, 46] (by decide +kernel) (by decide +kernel)
set_option maxRecDepth 20000 in
theorem gX8_goesTill_X8_goes : GoodIn wsX8_goesTill (wsV RX8 177 RX8 yX8_goes wsX8_goes) := goodIn_app (goodIn_of _ (by decide +kernel)) ggX8_goesTill_X8_goes
theorem dX8_goesTill_0 : decode cX8_goesTill 0 = .ok (.aload_n 0, 1) := by decide +kernel
theorem dX8_goesTill_1 : decode cX8_goesTill 1 = .ok (.getfield 7, 3) := by decide +kernel
theorem dX8_goesTill_4 : decode cX8_goesTill 4 = .ok (.iload_n 1, 1) := by decide +kernel
theorem dX8_goesTill_5 : decode cX8_goesTill 5 = .ok (.sipush 606, 3) := by decide +kernel
theorem dX8_goesTill_8 : decode cX8_goesTill 8 = .ok (.iadd, 1) := by decide +kernel
theorem dX8_goesTill_9 : decode cX8_goesTill 9 = .ok (.laload, 1) := by decide +kernel
theorem dX8_goesTill_10 : decode cX8_goesTill 10 = .ok (.iload_n 2, 1) := by decide +kernel
theorem dX8_goesTill_11 : decode cX8_goesTill 11 = .ok (.i2l, 1) := by decide +kernel
theorem dX8_goesTill_12 : decode cX8_goesTill 12 = .ok (.lcmp, 1) := by decide +kernel
theorem dX8_goesTill_13 : decode cX8_goesTill 13 = .ok (.ifCond .ge 12, 3) := by decide +kernel
theorem dX8_goesTill_16 : decode cX8_goesTill 16 = .ok (.aload_n 0, 1) := by decide +kernel
theorem dX8_goesTill_17 : decode cX8_goesTill 17 = .ok (.iload_n 1, 1) := by decide +kernel
theorem dX8_goesTill_18 : decode cX8_goesTill 18 = .ok (.invokevirtual 177, 3) := by decide +kernel
theorem dX8_goesTill_21 : decode cX8_goesTill 21 = .ok (.pop2, 1) := by decide +kernel
theorem dX8_goesTill_22 : decode cX8_goesTill 22 = .ok (.goto (-22), 3) := by decide +kernel
theorem dX8_goesTill_25 : decode cX8_goesTill 25 = .ok (.return_, 1) := by decide +kernel
set_option maxRecDepth 20000 in
theorem ggX8_isToCome_X8_in : GoodIn wsX8_isToCome wsX8_in := goodIn_r _ [6] (by decide +kernel) (by decide +kernel)
set_option maxRecDepth 20000 in
theorem gX8_isToCome_X8_in : GoodIn wsX8_isToCome (va_wsS RX8 91 yX8_in wsX8_in) := goodIn_app (goodIn_of _ (by decide +kernel)) ggX8_isToCome_X8_in
theorem dX8_isToCome_0 : decode cX8_isToCome 0 = .ok (.iload_n 1, 1) := by decide +kernel
theorem dX8_isToCome_1 : decode cX8_isToCome 1 = .ok (.i2l, 1) := by decide +kernel
theorem dX8_isToCome_2 : decode cX8_isToCome 2 = .ok (.aload_n 0, 1) := by decide +kernel
theorem dX8_isToCome_3 : decode cX8_isToCome 3 = .ok (.getfield 7, 3) := by decide +kernel
theorem dX8_isToCome_6 : decode cX8_isToCome 6 = .ok (.sipush 606, 3) := by decide +kernel
theorem dX8_isToCome_9 : decode cX8_isToCome 9 = .ok (.laload, 1) := by decide +kernel
theorem dX8_isToCome_10 : decode cX8_isToCome 10 = .ok (.ldc2_w 170, 3) := by decide +kernel
theorem dX8_isToCome_13 : decode cX8_isToCome 13 = .ok (.invokestatic 91, 3) := by decide +kernel
theorem dX8_isToCome_16 : decode cX8_isToCome 16 = .ok (.ireturn, 1) := by decide +kernel
set_option maxRecDepth 20000 in
theorem ggX8_all_X8_isToCome : GoodIn wsX8_all wsX8_isToCome := goodIn_r _ [8, 9, 10, 11, 12, 7, 13, 50, 51, 52, 53, 54, 55, 56, 57, 58, 59, 60, 61, 62, 63, 64, 65, 66, 67, 68, 69, 70, 71, 72, 73, 74, 75, 76, 77] (by decide +kernel) (by decide +kernel)
set_option maxRecDepth 20000 in
theorem gX8_all_X8_isToCome : GoodIn wsX8_all (wsV RX8 189 RX8 yX8_isToCome wsX8_isToCome) := goodIn_app (goodIn_of _ (by decide +kernel)) ggX8_all_X8_isToCome
set_option maxRecDepth 20000 in
theorem ggX8_all_X8_in : GoodIn wsX8_all wsX8_in := goodIn_r _ [13] (by decide +kernel) (by decide +kernel)
set_option maxRecDepth 20000 in
theorem gX8_all_X8_in : GoodIn wsX8_all (va_wsS RX8 91 yX8_in wsX8_in) := goodIn_app (goodIn_of _ (by decide +kernel)) ggX8_all_X8_in
set_option maxRecDepth 20000 in
theorem ggX8_all_X8_copy : GoodIn wsX8_all wsX8_copy := goodIn_r _ [17, 9, 50, 51, 52, 53, 54, 55, 56, 57, 58, 59, 60, 61, 62, 63, 64, 65, 66, 67, 68, 69, 70, 71, 72, 73, 74, 75, 76, 77] (by decide +kernel) (by decide +kernel)
set_option maxRecDepth 20000 in
theorem gX8_all_X8_copy : GoodIn wsX8_all (wsV RX8 166 RX8 yX8_copy wsX8_copy) := goodIn_app (goodIn_of _ (by decide +kernel)) ggX8_all_X8_copy
set_option maxRecDepth 20000 in
theorem ggX8_all_X8_goesTill : GoodIn wsX8_all wsX8_goesTill := goodIn_r _ [21, 9, 22, 23, 24, 7, 25, 26, 27, 28, 29, 30, 31, 32, 33, 34, 35, 36, 37, 50, 51, 52, 53, 54, 55, 56, 57, 58, 59, 60, 61, 62, 63, 64, 65, 66, 67, 68, 69, 70, 71, 72, 73, 74, 75, 76, 77] (by decide +kernel) (by decide +kernel)
set_option maxRecDepth 20000 in
theorem gX8_all_X8_goesTill : GoodIn wsX8_all (wsV RX8 192 RX8 yX8_goesTill wsX8_goesTill) := goodIn_app (goodIn_of _ (by decide +kernel)) ggX8_all_X8_goesTill
set_option maxRecDepth 20000 in
theorem ggX8_all_X8_weighs : GoodIn wsX8_all wsX8_weighs := goodIn_r _ [41, 9, 37, 42, 43, 44, 7, 45, 50, 51, 52, 53, 54, 55, 56, 57, 58, 59, 60, 61, 62, 63, 64, 65, 66, 67, 68, 69, 70, 71, 72, 73, 74, 75, 76, 77] (by decide +kernel) (by decide +kernel)
set_option maxRecDepth 20000 in
theorem gX8_all_X8_weighs : GoodIn wsX8_all (wsV RX8 161 RX8 yX8_weighs wsX8_weighs) := goodIn_app (goodIn_of _ (by decide +kernel)) ggX8_all_X8_weighs
set_option maxRecDepth 20000 in
theorem ggX8_all_X8_allOf : GoodIn wsX8_all wsX8_allOf := goodIn_r _ [49, 42, 43, 44, 7, 45, 9, 50, 51, 52, 53, 54, 55, 56, 57, 58, 59, 60, 61, 62, 63, 64, 65, 66, 67, 68, 69, 70, 71, 72, 73, 74, 75, 76, 77] (by decide +kernel) (by decide +kernel)
set_option maxRecDepth 20000 in
theorem gX8_all_X8_allOf : GoodIn wsX8_all (wsV RX8 157 RX8 yX8_allOf wsX8_allOf) := goodIn_app (goodIn_of _ (by decide +kernel)) ggX8_all_X8_allOf
set_option maxRecDepth 20000 in
theorem ggX8_all_X8_manyOf : GoodIn wsX8_all wsX8_manyOf := goodIn_r _ [45, 9, 50, 51, 52, 53, 54, 55, 56, 57, 58, 59, 60, 61, 62, 63, 64, 65, 66, 67, 68, 69, 70, 71, 72, 73, 74, 75, 76, 77] (by decide +kernel) (by decide +kernel)
set_option maxRecDepth 20000 in
theorem gX8_all_X8_manyOf : GoodIn wsX8_all (wsV RX8 145 RX8 yX8_manyOf wsX8_manyOf) := goodIn_app (goodIn_of _ (by decide +kernel)) ggX8_all_X8_manyOf
theorem dX8_all_0 : decode cX8_all 0 = .ok (.aload_n 0, 1) := by decide +kernel
theorem dX8_all_1 : decode cX8_all 1 = .ok (.iload_n 1, 1) := by decide +kernel
theorem dX8_all_2 : decode cX8_all 2 = .ok (.invokevirtual 189, 3) := by decide +kernel
theorem dX8_all_5 : decode cX8_all 5 = .ok (.ifCond .eq 17, 3) := by decide +kernel
theorem dX8_all_8 : decode cX8_all 8 = .ok (.iload_n 2, 1) := by decide +kernel
theorem dX8_all_9 : decode cX8_all 9 = .ok (.i2l, 1) := by decide +kernel
theorem dX8_all_10 : decode cX8_all 10 = .ok (.ldc2_w 172, 3) := by decide +kernel
theorem dX8_all_13 : decode cX8_all 13 = .ok (.ldc2_w 136, 3) := by decide +kernel
theorem dX8_all_16 : decode cX8_all 16 = .ok (.invokestatic 91, 3) := by decide +kernel
theorem dX8_all_19 : decode cX8_all 19 = .ok (.ifCond .ne 7, 3) := by decide +kernel
theorem dX8_all_22 : decode cX8_all 22 = .ok (.ldc2_w 164, 3) := by decide +kernel
theorem dX8_all_25 : decode cX8_all 25 = .ok (.lreturn, 1) := by decide +kernel
theorem dX8_all_26 : decode cX8_all 26 = .ok (.aload_n 0, 1) := by decide +kernel
theorem dX8_all_27 : decode cX8_all 27 = .ok (.iconst 0, 1) := by decide +kernel
theorem dX8_all_28 : decode cX8_all 28 = .ok (.sipush 607, 3) := by decide +kernel
theorem dX8_all_31 : decode cX8_all 31 = .ok (.invokevirtual 166, 3) := by decide +kernel
theorem dX8_all_34 : decode cX8_all 34 = .ok (.aload_n 0, 1) := by decide +kernel
theorem dX8_all_35 : decode cX8_all 35 = .ok (.sipush 607, 3) := by decide +kernel
theorem dX8_all_38 : decode cX8_all 38 = .ok (.iload_n 1, 1) := by decide +kernel
theorem dX8_all_39 : decode cX8_all 39 = .ok (.invokevirtual 192, 3) := by decide +kernel
theorem dX8_all_42 : decode cX8_all 42 = .ok (.iload_n 2, 1) := by decide +kernel
theorem dX8_all_43 : decode cX8_all 43 = .ok (.bipush (-2), 2) := by decide +kernel
theorem dX8_all_45 : decode cX8_all 45 = .ok (.if_icmp .ne 13, 3) := by decide +kernel
theorem dX8_all_48 : decode cX8_all 48 = .ok (.aload_n 0, 1) := by decide +kernel
theorem dX8_all_49 : decode cX8_all 49 = .ok (.sipush 607, 3) := by decide +kernel
theorem dX8_all_52 : decode cX8_all 52 = .ok (.invokevirtual 161, 3) := by decide +kernel
theorem dX8_all_55 : decode cX8_all 55 = .ok (.goto 26, 3) := by decide +kernel
theorem dX8_all_58 : decode cX8_all 58 = .ok (.iload_n 2, 1) := by decide +kernel
theorem dX8_all_59 : decode cX8_all 59 = .ok (.iconst (-1), 1) := by decide +kernel
theorem dX8_all_60 : decode cX8_all 60 = .ok (.if_icmp .ne 13, 3) := by decide +kernel
theorem dX8_all_63 : decode cX8_all 63 = .ok (.aload_n 0, 1) := by decide +kernel
theorem dX8_all_64 : decode cX8_all 64 = .ok (.sipush 607, 3) := by decide +kernel
theorem dX8_all_67 : decode cX8_all 67 = .ok (.invokevirtual 157, 3) := by decide +kernel
theorem dX8_all_70 : decode cX8_all 70 = .ok (.goto 11, 3) := by decide +kernel
theorem dX8_all_73 : decode cX8_all 73 = .ok (.aload_n 0, 1) := by decide +kernel
theorem dX8_all_74 : decode cX8_all 74 = .ok (.sipush 607, 3) := by decide +kernel
theorem dX8_all_77 : decode cX8_all 77 = .ok (.iload_n 2, 1) := by decide +kernel
theorem dX8_all_78 : decode cX8_all 78 = .ok (.invokevirtual 145, 3) := by decide +kernel
