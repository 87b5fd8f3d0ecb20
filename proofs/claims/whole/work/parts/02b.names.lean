theorem dX0_init_0 : decode cX0_init 0 = .ok (.aload_n 0, 1) := by decide +kernel
theorem dX0_init_1 : decode cX0_init 1 = .ok (.invokespecial 1, 3) := by decide +kernel
theorem dX0_init_4 : decode cX0_init 4 = .ok (.aload_n 0, 1) := by decide +kernel
theorem dX0_init_5 : decode cX0_init 5 = .ok (.iconst 5, 1) := by decide +kernel
theorem dX0_init_6 : decode cX0_init 6 = .ok (.newarray .int, 2) := by decide +kernel
theorem dX0_init_8 : decode cX0_init 8 = .ok (.putfield 9, 3) := by decide +kernel
theorem dX0_init_11 : decode cX0_init 11 = .ok (.aload_n 0, 1) := by decide +kernel
theorem dX0_init_12 : decode cX0_init 12 = .ok (.iconst 5, 1) := by decide +kernel
theorem dX0_init_13 : decode cX0_init 13 = .ok (.newarray .int, 2) := by decide +kernel
theorem dX0_init_15 : decode cX0_init 15 = .ok (.putfield 13, 3) := by decide +kernel
theorem dX0_init_18 : decode cX0_init 18 = .ok (.return_, 1) := by decide +kernel
theorem dX0_add_0 : decode cX0_add 0 = .ok (.aload_n 0, 1) := by decide +kernel
theorem dX0_add_1 : decode cX0_add 1 = .ok (.getfield 16, 3) := by decide +kernel
theorem dX0_add_4 : decode cX0_add 4 = .ok (.iconst 5, 1) := by decide +kernel
theorem dX0_add_5 : decode cX0_add 5 = .ok (.if_icmp .lt 5, 3) := by decide +kernel
theorem dX0_add_8 : decode cX0_add 8 = .ok (.iconst 0, 1) := by decide +kernel
theorem dX0_add_9 : decode cX0_add 9 = .ok (.ireturn, 1) := by decide +kernel
theorem dX0_add_10 : decode cX0_add 10 = .ok (.aload_n 0, 1) := by decide +kernel
theorem dX0_add_11 : decode cX0_add 11 = .ok (.getfield 9, 3) := by decide +kernel
theorem dX0_add_14 : decode cX0_add 14 = .ok (.aload_n 0, 1) := by decide +kernel
theorem dX0_add_15 : decode cX0_add 15 = .ok (.getfield 16, 3) := by decide +kernel
theorem dX0_add_18 : decode cX0_add 18 = .ok (.iload_n 1, 1) := by decide +kernel
theorem dX0_add_19 : decode cX0_add 19 = .ok (.iastore, 1) := by decide +kernel
theorem dX0_add_20 : decode cX0_add 20 = .ok (.aload_n 0, 1) := by decide +kernel
theorem dX0_add_21 : decode cX0_add 21 = .ok (.getfield 13, 3) := by decide +kernel
theorem dX0_add_24 : decode cX0_add 24 = .ok (.aload_n 0, 1) := by decide +kernel
theorem dX0_add_25 : decode cX0_add 25 = .ok (.getfield 16, 3) := by decide +kernel
theorem dX0_add_28 : decode cX0_add 28 = .ok (.iload_n 2, 1) := by decide +kernel
theorem dX0_add_29 : decode cX0_add 29 = .ok (.iastore, 1) := by decide +kernel
theorem dX0_add_30 : decode cX0_add 30 = .ok (.aload_n 0, 1) := by decide +kernel
theorem dX0_add_31 : decode cX0_add 31 = .ok (.dup, 1) := by decide +kernel
theorem dX0_add_32 : decode cX0_add 32 = .ok (.getfield 16, 3) := by decide +kernel
theorem dX0_add_35 : decode cX0_add 35 = .ok (.iconst 1, 1) := by decide +kernel
theorem dX0_add_36 : decode cX0_add 36 = .ok (.iadd, 1) := by decide +kernel
theorem dX0_add_37 : decode cX0_add 37 = .ok (.putfield 16, 3) := by decide +kernel
theorem dX0_add_40 : decode cX0_add 40 = .ok (.iconst 1, 1) := by decide +kernel
theorem dX0_add_41 : decode cX0_add 41 = .ok (.ireturn, 1) := by decide +kernel
theorem dX0_wipe_0 : decode cX0_wipe 0 = .ok (.aload_n 0, 1) := by decide +kernel
theorem dX0_wipe_1 : decode cX0_wipe 1 = .ok (.getfield 16, 3) := by decide +kernel
theorem dX0_wipe_4 : decode cX0_wipe 4 = .ok (.istore_n 1, 1) := by decide +kernel
theorem dX0_wipe_5 : decode cX0_wipe 5 = .ok (.aload_n 0, 1) := by decide +kernel
theorem dX0_wipe_6 : decode cX0_wipe 6 = .ok (.iconst 0, 1) := by decide +kernel
theorem dX0_wipe_7 : decode cX0_wipe 7 = .ok (.putfield 16, 3) := by decide +kernel
theorem dX0_wipe_10 : decode cX0_wipe 10 = .ok (.iload_n 1, 1) := by decide +kernel
theorem dX0_wipe_11 : decode cX0_wipe 11 = .ok (.ireturn, 1) := by decide +kernel
set_option maxRecDepth 20000 in
theorem ggX0_fits_X6_ofOrder : GoodIn wsX0_fits wsX6_ofOrder := goodIn_r _ [8, 9, 10, 14, 15, 16] (by decide +kernel) (by decide +kernel)
set_option maxRecDepth 20000 in
theorem gX0_fits_X6_ofOrder : GoodIn wsX0_fits (wsV RX0 20 RX6 yX6_ofOrder wsX6_ofOrder) := goodIn_app (goodIn_of _ (by decide +kernel)) ggX0_fits_X6_ofOrder
theorem dX0_fits_0 : decode cX0_fits 0 = .ok (.iconst 0, 1) := by decide +kernel
theorem dX0_fits_1 : decode cX0_fits 1 = .ok (.istore_n 2, 1) := by decide +kernel
theorem dX0_fits_2 : decode cX0_fits 2 = .ok (.iload_n 2, 1) := by decide +kernel
theorem dX0_fits_3 : decode cX0_fits 3 = .ok (.aload_n 0, 1) := by decide +kernel
theorem dX0_fits_4 : decode cX0_fits 4 = .ok (.getfield 16, 3) := by decide +kernel
theorem dX0_fits_7 : decode cX0_fits 7 = .ok (.if_icmp .ge 32, 3) := by decide +kernel
theorem dX0_fits_10 : decode cX0_fits 10 = .ok (.aload_n 1, 1) := by decide +kernel
theorem dX0_fits_11 : decode cX0_fits 11 = .ok (.aload_n 0, 1) := by decide +kernel
theorem dX0_fits_12 : decode cX0_fits 12 = .ok (.getfield 9, 3) := by decide +kernel
theorem dX0_fits_15 : decode cX0_fits 15 = .ok (.iload_n 2, 1) := by decide +kernel
theorem dX0_fits_16 : decode cX0_fits 16 = .ok (.iaload, 1) := by decide +kernel
theorem dX0_fits_17 : decode cX0_fits 17 = .ok (.invokevirtual 20, 3) := by decide +kernel
theorem dX0_fits_20 : decode cX0_fits 20 = .ok (.aload_n 0, 1) := by decide +kernel
theorem dX0_fits_21 : decode cX0_fits 21 = .ok (.getfield 13, 3) := by decide +kernel
theorem dX0_fits_24 : decode cX0_fits 24 = .ok (.iload_n 2, 1) := by decide +kernel
theorem dX0_fits_25 : decode cX0_fits 25 = .ok (.iaload, 1) := by decide +kernel
theorem dX0_fits_26 : decode cX0_fits 26 = .ok (.i2l, 1) := by decide +kernel
theorem dX0_fits_27 : decode cX0_fits 27 = .ok (.lcmp, 1) := by decide +kernel
theorem dX0_fits_28 : decode cX0_fits 28 = .ok (.ifCond .eq 5, 3) := by decide +kernel
theorem dX0_fits_31 : decode cX0_fits 31 = .ok (.iconst 0, 1) := by decide +kernel
theorem dX0_fits_32 : decode cX0_fits 32 = .ok (.ireturn, 1) := by decide +kernel
theorem dX0_fits_33 : decode cX0_fits 33 = .ok (.iinc 2 1, 3) := by decide +kernel
theorem dX0_fits_36 : decode cX0_fits 36 = .ok (.goto (-34), 3) := by decide +kernel
theorem dX0_fits_39 : decode cX0_fits 39 = .ok (.iconst 1, 1) := by decide +kernel
theorem dX0_fits_40 : decode cX0_fits 40 = .ok (.ireturn, 1) := by decide +kernel
theorem dX1_init_0 : decode cX1_init 0 = .ok (.aload_n 0, 1) := by decide +kernel
theorem dX1_init_1 : decode cX1_init 1 = .ok (.invokespecial 3, 3) := by decide +kernel
theorem dX1_init_4 : decode cX1_init 4 = .ok (.return_, 1) := by decide +kernel
set_option maxRecDepth 20000 in
theorem ggX1_rateAs_X1_asRing : GoodIn wsX1_rateAs wsX1_asRing := goodIn_r _ [6, 7, 8, 36, 37, 38, 39, 40, 41, 42, 43, 44, 45, 46, 47] (by decide +kernel) (by decide +kernel)
set_option maxRecDepth 20000 in
theorem gX1_rateAs_X1_asRing : GoodIn wsX1_rateAs (wsV RX1 9 RX1 yX1_asRing wsX1_asRing) := goodIn_app (goodIn_of _ (by decide +kernel)) ggX1_rateAs_X1_asRing
set_option maxRecDepth 20000 in
theorem ggX1_rateAs_X1_asBroken : GoodIn wsX1_rateAs wsX1_asBroken := goodIn_r _ [12, 7, 13, 14, 2, 3, 4, 5, 6, 8, 36, 37, 38, 39, 40, 41, 42, 43, 44, 45, 46, 47] (by decide +kernel) (by decide +kernel)
set_option maxRecDepth 20000 in
theorem gX1_rateAs_X1_asBroken : GoodIn wsX1_rateAs (wsV RX1 15 RX1 yX1_asBroken wsX1_asBroken) := goodIn_app (goodIn_of _ (by decide +kernel)) ggX1_rateAs_X1_asBroken
set_option maxRecDepth 20000 in
theorem ggX1_rateAs_X1_asBarren : GoodIn wsX1_rateAs wsX1_asBarren := goodIn_r _ [18, 7, 19, 20, 2, 3, 4, 5, 6, 8, 36, 37, 38, 39, 40, 41, 42, 43, 44, 45, 46, 47] (by decide +kernel) (by decide +kernel)
set_option maxRecDepth 20000 in
theorem gX1_rateAs_X1_asBarren : GoodIn wsX1_rateAs (wsV RX1 18 RX1 yX1_asBarren wsX1_asBarren) := goodIn_app (goodIn_of _ (by decide +kernel)) ggX1_rateAs_X1_asBarren
set_option maxRecDepth 20000 in
theorem ggX1_rateAs_X1_asTwin : GoodIn wsX1_rateAs wsX1_asTwin := goodIn_r _ [24, 7, 25, 9, 10, 11, 5, 12, 13, 14, 2, 3, 4, 6, 8, 36, 37, 38, 39, 40, 41, 42, 43, 44, 45, 46, 47] (by decide +kernel) (by decide +kernel)
set_option maxRecDepth 20000 in
theorem gX1_rateAs_X1_asTwin : GoodIn wsX1_rateAs (wsV RX1 21 RX1 yX1_asTwin wsX1_asTwin) := goodIn_app (goodIn_of _ (by decide +kernel)) ggX1_rateAs_X1_asTwin
set_option maxRecDepth 20000 in
theorem ggX1_rateAs_X1_asDust : GoodIn wsX1_rateAs wsX1_asDust := goodIn_r _ [29, 7, 30, 15, 16, 17, 5, 18, 19, 20, 2, 3, 4, 6, 8, 36, 37, 38, 39, 40, 41, 42, 43, 44, 45, 46, 47] (by decide +kernel) (by decide +kernel)
set_option maxRecDepth 20000 in
theorem gX1_rateAs_X1_asDust : GoodIn wsX1_rateAs (wsV RX1 24 RX1 yX1_asDust wsX1_asDust) := goodIn_app (goodIn_of _ (by decide +kernel)) ggX1_rateAs_X1_asDust
set_option maxRecDepth 20000 in
theorem ggX1_rateAs_X1_asPledged : GoodIn wsX1_rateAs wsX1_asPledged := goodIn_r _ [34, 7, 35, 2, 3, 4, 5, 6, 8, 36, 37, 38, 39, 40, 41, 42, 43, 44, 45, 46, 47] (by decide +kernel) (by decide +kernel)
set_option maxRecDepth 20000 in
theorem gX1_rateAs_X1_asPledged : GoodIn wsX1_rateAs (wsV RX1 27 RX1 yX1_asPledged wsX1_asPledged) := goodIn_app (goodIn_of _ (by decide +kernel)) ggX1_rateAs_X1_asPledged
theorem dX1_rateAs_0 : decode cX1_rateAs 0 = .ok (.iload_n 1, 1) := by decide +kernel
theorem dX1_rateAs_1 : decode cX1_rateAs 1 = .ok (.tableswitch 83 0 5 #[39, 46, 53, 60, 67, 74], 39) := by decide +kernel
theorem dX1_rateAs_40 : decode cX1_rateAs 40 = .ok (.aload_n 0, 1) := by decide +kernel
theorem dX1_rateAs_41 : decode cX1_rateAs 41 = .ok (.iload_n 2, 1) := by decide +kernel
theorem dX1_rateAs_42 : decode cX1_rateAs 42 = .ok (.aload_n 3, 1) := by decide +kernel
theorem dX1_rateAs_43 : decode cX1_rateAs 43 = .ok (.invokevirtual 9, 3) := by decide +kernel
theorem dX1_rateAs_46 : decode cX1_rateAs 46 = .ok (.ireturn, 1) := by decide +kernel
theorem dX1_rateAs_47 : decode cX1_rateAs 47 = .ok (.aload_n 0, 1) := by decide +kernel
theorem dX1_rateAs_48 : decode cX1_rateAs 48 = .ok (.iload_n 2, 1) := by decide +kernel
theorem dX1_rateAs_49 : decode cX1_rateAs 49 = .ok (.aload_n 3, 1) := by decide +kernel
theorem dX1_rateAs_50 : decode cX1_rateAs 50 = .ok (.invokevirtual 15, 3) := by decide +kernel
theorem dX1_rateAs_53 : decode cX1_rateAs 53 = .ok (.ireturn, 1) := by decide +kernel
theorem dX1_rateAs_54 : decode cX1_rateAs 54 = .ok (.aload_n 0, 1) := by decide +kernel
theorem dX1_rateAs_55 : decode cX1_rateAs 55 = .ok (.iload_n 2, 1) := by decide +kernel
theorem dX1_rateAs_56 : decode cX1_rateAs 56 = .ok (.aload_n 3, 1) := by decide +kernel
theorem dX1_rateAs_57 : decode cX1_rateAs 57 = .ok (.invokevirtual 18, 3) := by decide +kernel
theorem dX1_rateAs_60 : decode cX1_rateAs 60 = .ok (.ireturn, 1) := by decide +kernel
theorem dX1_rateAs_61 : decode cX1_rateAs 61 = .ok (.aload_n 0, 1) := by decide +kernel
theorem dX1_rateAs_62 : decode cX1_rateAs 62 = .ok (.iload_n 2, 1) := by decide +kernel
theorem dX1_rateAs_63 : decode cX1_rateAs 63 = .ok (.aload_n 3, 1) := by decide +kernel
theorem dX1_rateAs_64 : decode cX1_rateAs 64 = .ok (.invokevirtual 21, 3) := by decide +kernel
theorem dX1_rateAs_67 : decode cX1_rateAs 67 = .ok (.ireturn, 1) := by decide +kernel
theorem dX1_rateAs_68 : decode cX1_rateAs 68 = .ok (.aload_n 0, 1) := by decide +kernel
theorem dX1_rateAs_69 : decode cX1_rateAs 69 = .ok (.iload_n 2, 1) := by decide +kernel
theorem dX1_rateAs_70 : decode cX1_rateAs 70 = .ok (.aload_n 3, 1) := by decide +kernel
theorem dX1_rateAs_71 : decode cX1_rateAs 71 = .ok (.invokevirtual 24, 3) := by decide +kernel
theorem dX1_rateAs_74 : decode cX1_rateAs 74 = .ok (.ireturn, 1) := by decide +kernel
theorem dX1_rateAs_75 : decode cX1_rateAs 75 = .ok (.aload_n 0, 1) := by decide +kernel
theorem dX1_rateAs_76 : decode cX1_rateAs 76 = .ok (.iload_n 2, 1) := by decide +kernel
theorem dX1_rateAs_77 : decode cX1_rateAs 77 = .ok (.aload_n 3, 1) := by decide +kernel
theorem dX1_rateAs_78 : decode cX1_rateAs 78 = .ok (.iload 4, 2) := by decide +kernel
theorem dX1_rateAs_80 : decode cX1_rateAs 80 = .ok (.invokevirtual 27, 3) := by decide +kernel
theorem dX1_rateAs_83 : decode cX1_rateAs 83 = .ok (.ireturn, 1) := by decide +kernel
theorem dX1_rateAs_84 : decode cX1_rateAs 84 = .ok (.ldc 31, 2) := by decide +kernel
theorem dX1_rateAs_86 : decode cX1_rateAs 86 = .ok (.ireturn, 1) := by decide +kernel
theorem dX1_asRing_0 : decode cX1_asRing 0 = .ok (.aload_n 0, 1) := by decide +kernel
theorem dX1_asRing_1 : decode cX1_asRing 1 = .ok (.dup, 1) := by decide +kernel
theorem dX1_asRing_2 : decode cX1_asRing 2 = .ok (.getfield 32, 3) := by decide +kernel
theorem dX1_asRing_5 : decode cX1_asRing 5 = .ok (.lconst 1, 1) := by decide +kernel
theorem dX1_asRing_6 : decode cX1_asRing 6 = .ok (.ladd, 1) := by decide +kernel
theorem dX1_asRing_7 : decode cX1_asRing 7 = .ok (.putfield 32, 3) := by decide +kernel
theorem dX1_asRing_10 : decode cX1_asRing 10 = .ok (.aload_n 2, 1) := by decide +kernel
theorem dX1_asRing_11 : decode cX1_asRing 11 = .ok (.getfield 36, 3) := by decide +kernel
theorem dX1_asRing_14 : decode cX1_asRing 14 = .ok (.iload_n 1, 1) := by decide +kernel
theorem dX1_asRing_15 : decode cX1_asRing 15 = .ok (.iaload, 1) := by decide +kernel
theorem dX1_asRing_16 : decode cX1_asRing 16 = .ok (.ireturn, 1) := by decide +kernel
set_option maxRecDepth 20000 in
theorem ggX1_asBroken_X1_asRing : GoodIn wsX1_asBroken wsX1_asRing := goodIn_r _ [8, 1, 9, 10, 11, 12, 13, 14, 15, 16, 17, 18, 19, 20, 21] (by decide +kernel) (by decide +kernel)
set_option maxRecDepth 20000 in
theorem gX1_asBroken_X1_asRing : GoodIn wsX1_asBroken (wsV RX1 9 RX1 yX1_asRing wsX1_asRing) := goodIn_app (goodIn_of _ (by decide +kernel)) ggX1_asBroken_X1_asRing
theorem dX1_asBroken_0 : decode cX1_asBroken 0 = .ok (.aload_n 0, 1) := by decide +kernel
theorem dX1_asBroken_1 : decode cX1_asBroken 1 = .ok (.dup, 1) := by decide +kernel
theorem dX1_asBroken_2 : decode cX1_asBroken 2 = .ok (.getfield 32, 3) := by decide +kernel
theorem dX1_asBroken_5 : decode cX1_asBroken 5 = .ok (.ldc2_w 42, 3) := by decide +kernel
theorem dX1_asBroken_8 : decode cX1_asBroken 8 = .ok (.ladd, 1) := by decide +kernel
theorem dX1_asBroken_9 : decode cX1_asBroken 9 = .ok (.putfield 32, 3) := by decide +kernel
theorem dX1_asBroken_12 : decode cX1_asBroken 12 = .ok (.aload_n 0, 1) := by decide +kernel
theorem dX1_asBroken_13 : decode cX1_asBroken 13 = .ok (.iload_n 1, 1) := by decide +kernel
theorem dX1_asBroken_14 : decode cX1_asBroken 14 = .ok (.aload_n 2, 1) := by decide +kernel
theorem dX1_asBroken_15 : decode cX1_asBroken 15 = .ok (.invokevirtual 9, 3) := by decide +kernel
theorem dX1_asBroken_18 : decode cX1_asBroken 18 = .ok (.aload_n 2, 1) := by decide +kernel
theorem dX1_asBroken_19 : decode cX1_asBroken 19 = .ok (.getfield 44, 3) := by decide +kernel
theorem dX1_asBroken_22 : decode cX1_asBroken 22 = .ok (.iadd, 1) := by decide +kernel
theorem dX1_asBroken_23 : decode cX1_asBroken 23 = .ok (.ireturn, 1) := by decide +kernel
set_option maxRecDepth 20000 in
theorem ggX1_asBarren_X1_asRing : GoodIn wsX1_asBarren wsX1_asRing := goodIn_r _ [8, 1, 9, 10, 11, 12, 13, 14, 15, 16, 17, 18, 19, 20, 21] (by decide +kernel) (by decide +kernel)
set_option maxRecDepth 20000 in
theorem gX1_asBarren_X1_asRing : GoodIn wsX1_asBarren (wsV RX1 9 RX1 yX1_asRing wsX1_asRing) := goodIn_app (goodIn_of _ (by decide +kernel)) ggX1_asBarren_X1_asRing
theorem dX1_asBarren_0 : decode cX1_asBarren 0 = .ok (.aload_n 0, 1) := by decide +kernel
theorem dX1_asBarren_1 : decode cX1_asBarren 1 = .ok (.dup, 1) := by decide +kernel
theorem dX1_asBarren_2 : decode cX1_asBarren 2 = .ok (.getfield 32, 3) := by decide +kernel
theorem dX1_asBarren_5 : decode cX1_asBarren 5 = .ok (.ldc2_w 48, 3) := by decide +kernel
theorem dX1_asBarren_8 : decode cX1_asBarren 8 = .ok (.ladd, 1) := by decide +kernel
theorem dX1_asBarren_9 : decode cX1_asBarren 9 = .ok (.putfield 32, 3) := by decide +kernel
theorem dX1_asBarren_12 : decode cX1_asBarren 12 = .ok (.aload_n 0, 1) := by decide +kernel
theorem dX1_asBarren_13 : decode cX1_asBarren 13 = .ok (.iload_n 1, 1) := by decide +kernel
theorem dX1_asBarren_14 : decode cX1_asBarren 14 = .ok (.aload_n 2, 1) := by decide +kernel
theorem dX1_asBarren_15 : decode cX1_asBarren 15 = .ok (.invokevirtual 9, 3) := by decide +kernel
theorem dX1_asBarren_18 : decode cX1_asBarren 18 = .ok (.aload_n 2, 1) := by decide +kernel
theorem dX1_asBarren_19 : decode cX1_asBarren 19 = .ok (.getfield 50, 3) := by decide +kernel
theorem dX1_asBarren_22 : decode cX1_asBarren 22 = .ok (.iload_n 1, 1) := by decide +kernel
theorem dX1_asBarren_23 : decode cX1_asBarren 23 = .ok (.iaload, 1) := by decide +kernel
theorem dX1_asBarren_24 : decode cX1_asBarren 24 = .ok (.isub, 1) := by decide +kernel
theorem dX1_asBarren_25 : decode cX1_asBarren 25 = .ok (.ireturn, 1) := by decide +kernel
set_option maxRecDepth 20000 in
theorem ggX1_asTwin_X1_asBroken : GoodIn wsX1_asTwin wsX1_asBroken := goodIn_r _ [7, 1, 8, 9, 10, 11, 12, 6, 13, 14, 15, 16, 17, 18, 19, 20, 21, 22, 23, 24, 25, 26] (by decide +kernel) (by decide +kernel)
set_option maxRecDepth 20000 in
theorem gX1_asTwin_X1_asBroken : GoodIn wsX1_asTwin (wsV RX1 15 RX1 yX1_asBroken wsX1_asBroken) := goodIn_app (goodIn_of _ (by decide +kernel)) ggX1_asTwin_X1_asBroken
theorem dX1_asTwin_0 : decode cX1_asTwin 0 = .ok (.aload_n 0, 1) := by decide +kernel
theorem dX1_asTwin_1 : decode cX1_asTwin 1 = .ok (.dup, 1) := by decide +kernel
theorem dX1_asTwin_2 : decode cX1_asTwin 2 = .ok (.getfield 32, 3) := by decide +kernel
theorem dX1_asTwin_5 : decode cX1_asTwin 5 = .ok (.ldc2_w 53, 3) := by decide +kernel
theorem dX1_asTwin_8 : decode cX1_asTwin 8 = .ok (.ladd, 1) := by decide +kernel
theorem dX1_asTwin_9 : decode cX1_asTwin 9 = .ok (.putfield 32, 3) := by decide +kernel
theorem dX1_asTwin_12 : decode cX1_asTwin 12 = .ok (.iconst 2, 1) := by decide +kernel
theorem dX1_asTwin_13 : decode cX1_asTwin 13 = .ok (.aload_n 0, 1) := by decide +kernel
theorem dX1_asTwin_14 : decode cX1_asTwin 14 = .ok (.iload_n 1, 1) := by decide +kernel
theorem dX1_asTwin_15 : decode cX1_asTwin 15 = .ok (.aload_n 2, 1) := by decide +kernel
theorem dX1_asTwin_16 : decode cX1_asTwin 16 = .ok (.invokevirtual 15, 3) := by decide +kernel
theorem dX1_asTwin_19 : decode cX1_asTwin 19 = .ok (.imul, 1) := by decide +kernel
theorem dX1_asTwin_20 : decode cX1_asTwin 20 = .ok (.ireturn, 1) := by decide +kernel
set_option maxRecDepth 20000 in
theorem ggX1_asDust_X1_asBarren : GoodIn wsX1_asDust wsX1_asBarren := goodIn_r _ [7, 1, 8, 9, 10, 11, 12, 6, 13, 14, 15, 16, 17, 18, 19, 20, 21, 22, 23, 24, 25, 26] (by decide +kernel) (by decide +kernel)
set_option maxRecDepth 20000 in
theorem gX1_asDust_X1_asBarren : GoodIn wsX1_asDust (wsV RX1 18 RX1 yX1_asBarren wsX1_asBarren) := goodIn_app (goodIn_of _ (by decide +kernel)) ggX1_asDust_X1_asBarren
theorem dX1_asDust_0 : decode cX1_asDust 0 = .ok (.aload_n 0, 1) := by decide +kernel
theorem dX1_asDust_1 : decode cX1_asDust 1 = .ok (.dup, 1) := by decide +kernel
theorem dX1_asDust_2 : decode cX1_asDust 2 = .ok (.getfield 32, 3) := by decide +kernel
theorem dX1_asDust_5 : decode cX1_asDust 5 = .ok (.ldc2_w 55, 3) := by decide +kernel
theorem dX1_asDust_8 : decode cX1_asDust 8 = .ok (.ladd, 1) := by decide +kernel
theorem dX1_asDust_9 : decode cX1_asDust 9 = .ok (.putfield 32, 3) := by decide +kernel
theorem dX1_asDust_12 : decode cX1_asDust 12 = .ok (.aload_n 0, 1) := by decide +kernel
theorem dX1_asDust_13 : decode cX1_asDust 13 = .ok (.iload_n 1, 1) := by decide +kernel
theorem dX1_asDust_14 : decode cX1_asDust 14 = .ok (.aload_n 2, 1) := by decide +kernel
theorem dX1_asDust_15 : decode cX1_asDust 15 = .ok (.invokevirtual 18, 3) := by decide +kernel
theorem dX1_asDust_18 : decode cX1_asDust 18 = .ok (.iload_n 1, 1) := by decide +kernel
theorem dX1_asDust_19 : decode cX1_asDust 19 = .ok (.iadd, 1) := by decide +kernel
theorem dX1_asDust_20 : decode cX1_asDust 20 = .ok (.ireturn, 1) := by decide +kernel
set_option maxRecDepth 20000 in
theorem ggX1_asPledged_X1_asRing : GoodIn wsX1_asPledged wsX1_asRing := goodIn_r _ [7, 1, 8, 9, 10, 11, 12, 13, 14, 15, 16, 17, 18, 19, 20] (by decide +kernel) (by decide +kernel)
set_option maxRecDepth 20000 in
theorem gX1_asPledged_X1_asRing : GoodIn wsX1_asPledged (wsV RX1 9 RX1 yX1_asRing wsX1_asRing) := goodIn_app (goodIn_of _ (by decide +kernel)) ggX1_asPledged_X1_asRing
theorem dX1_asPledged_0 : decode cX1_asPledged 0 = .ok (.aload_n 0, 1) := by decide +kernel
theorem dX1_asPledged_1 : decode cX1_asPledged 1 = .ok (.dup, 1) := by decide +kernel
theorem dX1_asPledged_2 : decode cX1_asPledged 2 = .ok (.getfield 32, 3) := by decide +kernel
theorem dX1_asPledged_5 : decode cX1_asPledged 5 = .ok (.ldc2_w 57, 3) := by decide +kernel
theorem dX1_asPledged_8 : decode cX1_asPledged 8 = .ok (.ladd, 1) := by decide +kernel
theorem dX1_asPledged_9 : decode cX1_asPledged 9 = .ok (.putfield 32, 3) := by decide +kernel
theorem dX1_asPledged_12 : decode cX1_asPledged 12 = .ok (.aload_n 0, 1) := by decide +kernel
theorem dX1_asPledged_13 : decode cX1_asPledged 13 = .ok (.iload_n 1, 1) := by decide +kernel
theorem dX1_asPledged_14 : decode cX1_asPledged 14 = .ok (.aload_n 2, 1) := by decide +kernel
theorem dX1_asPledged_15 : decode cX1_asPledged 15 = .ok (.invokevirtual 9, 3) := by decide +kernel
theorem dX1_asPledged_18 : decode cX1_asPledged 18 = .ok (.iload_n 3, 1) := by decide +kernel
theorem dX1_asPledged_19 : decode cX1_asPledged 19 = .ok (.iadd, 1) := by decide +kernel
theorem dX1_asPledged_20 : decode cX1_asPledged 20 = .ok (.ireturn, 1) := by decide +kernel
set_option maxRecDepth 20000 in
theorem ggX2_init_X2_becomeAsAtFirst : GoodIn wsX2_init wsX2_becomeAsAtFirst := goodIn_r _ [13, 14, 15, 16, 17, 18, 19, 20, 25, 26, 27, 28, 29, 30, 31, 32, 33, 34, 35] (by decide +kernel) (by decide +kernel)
set_option maxRecDepth 20000 in
theorem gX2_init_X2_becomeAsAtFirst : GoodIn wsX2_init (wsV RX2 24 RX2 yX2_becomeAsAtFirst wsX2_becomeAsAtFirst) := goodIn_app (goodIn_of _ (by decide +kernel)) ggX2_init_X2_becomeAsAtFirst
set_option maxRecDepth 20000 in
theorem ggX2_init_X2_workOut : GoodIn wsX2_init wsX2_workOut := goodIn_r _ [24, 14, 5, 6, 16, 17, 19, 18, 25, 26, 27, 28, 29, 30, 31, 32, 33, 34, 35] (by decide +kernel) (by decide +kernel)
set_option maxRecDepth 20000 in
theorem gX2_init_X2_workOut : GoodIn wsX2_init (wsV RX2 27 RX2 yX2_workOut wsX2_workOut) := goodIn_app (goodIn_of _ (by decide +kernel)) ggX2_init_X2_workOut
theorem dX2_init_0 : decode cX2_init 0 = .ok (.aload_n 0, 1) := by decide +kernel
theorem dX2_init_1 : decode cX2_init 1 = .ok (.invokespecial 3, 3) := by decide +kernel
theorem dX2_init_4 : decode cX2_init 4 = .ok (.aload_n 0, 1) := by decide +kernel
theorem dX2_init_5 : decode cX2_init 5 = .ok (.iconst 5, 1) := by decide +kernel
theorem dX2_init_6 : decode cX2_init 6 = .ok (.newarray .int, 2) := by decide +kernel
theorem dX2_init_8 : decode cX2_init 8 = .ok (.putfield 9, 3) := by decide +kernel
theorem dX2_init_11 : decode cX2_init 11 = .ok (.aload_n 0, 1) := by decide +kernel
theorem dX2_init_12 : decode cX2_init 12 = .ok (.iconst 5, 1) := by decide +kernel
theorem dX2_init_13 : decode cX2_init 13 = .ok (.newarray .int, 2) := by decide +kernel
theorem dX2_init_15 : decode cX2_init 15 = .ok (.putfield 15, 3) := by decide +kernel
theorem dX2_init_18 : decode cX2_init 18 = .ok (.aload_n 0, 1) := by decide +kernel
theorem dX2_init_19 : decode cX2_init 19 = .ok (.bipush 6, 2) := by decide +kernel
theorem dX2_init_21 : decode cX2_init 21 = .ok (.newarray .int, 2) := by decide +kernel
theorem dX2_init_23 : decode cX2_init 23 = .ok (.putfield 18, 3) := by decide +kernel
theorem dX2_init_26 : decode cX2_init 26 = .ok (.aload_n 0, 1) := by decide +kernel
theorem dX2_init_27 : decode cX2_init 27 = .ok (.bipush 6, 2) := by decide +kernel
theorem dX2_init_29 : decode cX2_init 29 = .ok (.newarray .int, 2) := by decide +kernel
theorem dX2_init_31 : decode cX2_init 31 = .ok (.putfield 21, 3) := by decide +kernel
theorem dX2_init_34 : decode cX2_init 34 = .ok (.aload_n 0, 1) := by decide +kernel
theorem dX2_init_35 : decode cX2_init 35 = .ok (.invokevirtual 24, 3) := by decide +kernel
theorem dX2_init_38 : decode cX2_init 38 = .ok (.aload_n 0, 1) := by decide +kernel
theorem dX2_init_39 : decode cX2_init 39 = .ok (.invokevirtual 27, 3) := by decide +kernel
theorem dX2_init_42 : decode cX2_init 42 = .ok (.return_, 1) := by decide +kernel
theorem dX2_becomeAsAtFirst_0 : decode cX2_becomeAsAtFirst 0 = .ok (.aload_n 0, 1) := by decide +kernel
theorem dX2_becomeAsAtFirst_1 : decode cX2_becomeAsAtFirst 1 = .ok (.bipush 81, 2) := by decide +kernel
theorem dX2_becomeAsAtFirst_3 : decode cX2_becomeAsAtFirst 3 = .ok (.putfield 30, 3) := by decide +kernel
theorem dX2_becomeAsAtFirst_6 : decode cX2_becomeAsAtFirst 6 = .ok (.aload_n 0, 1) := by decide +kernel
theorem dX2_becomeAsAtFirst_7 : decode cX2_becomeAsAtFirst 7 = .ok (.bipush 8, 2) := by decide +kernel
theorem dX2_becomeAsAtFirst_9 : decode cX2_becomeAsAtFirst 9 = .ok (.putfield 34, 3) := by decide +kernel
theorem dX2_becomeAsAtFirst_12 : decode cX2_becomeAsAtFirst 12 = .ok (.aload_n 0, 1) := by decide +kernel
theorem dX2_becomeAsAtFirst_13 : decode cX2_becomeAsAtFirst 13 = .ok (.bipush 9, 2) := by decide +kernel
theorem dX2_becomeAsAtFirst_15 : decode cX2_becomeAsAtFirst 15 = .ok (.putfield 37, 3) := by decide +kernel
theorem dX2_becomeAsAtFirst_18 : decode cX2_becomeAsAtFirst 18 = .ok (.aload_n 0, 1) := by decide +kernel
theorem dX2_becomeAsAtFirst_19 : decode cX2_becomeAsAtFirst 19 = .ok (.iconst 0, 1) := by decide +kernel
theorem dX2_becomeAsAtFirst_20 : decode cX2_becomeAsAtFirst 20 = .ok (.putfield 40, 3) := by decide +kernel
theorem dX2_becomeAsAtFirst_23 : decode cX2_becomeAsAtFirst 23 = .ok (.aload_n 0, 1) := by decide +kernel
theorem dX2_becomeAsAtFirst_24 : decode cX2_becomeAsAtFirst 24 = .ok (.iconst 1, 1) := by decide +kernel
theorem dX2_becomeAsAtFirst_25 : decode cX2_becomeAsAtFirst 25 = .ok (.putfield 43, 3) := by decide +kernel
theorem dX2_becomeAsAtFirst_28 : decode cX2_becomeAsAtFirst 28 = .ok (.aload_n 0, 1) := by decide +kernel
theorem dX2_becomeAsAtFirst_29 : decode cX2_becomeAsAtFirst 29 = .ok (.iconst 3, 1) := by decide +kernel
theorem dX2_becomeAsAtFirst_30 : decode cX2_becomeAsAtFirst 30 = .ok (.putfield 46, 3) := by decide +kernel
theorem dX2_becomeAsAtFirst_33 : decode cX2_becomeAsAtFirst 33 = .ok (.aload_n 0, 1) := by decide +kernel
theorem dX2_becomeAsAtFirst_34 : decode cX2_becomeAsAtFirst 34 = .ok (.iconst 0, 1) := by decide +kernel
theorem dX2_becomeAsAtFirst_35 : decode cX2_becomeAsAtFirst 35 = .ok (.putfield 49, 3) := by decide +kernel
theorem dX2_becomeAsAtFirst_38 : decode cX2_becomeAsAtFirst 38 = .ok (.return_, 1) := by decide +kernel
theorem dX2_addDue_0 : decode cX2_addDue 0 = .ok (.aload_n 0, 1) := by decide +kernel
theorem dX2_addDue_1 : decode cX2_addDue 1 = .ok (.getfield 49, 3) := by decide +kernel
theorem dX2_addDue_4 : decode cX2_addDue 4 = .ok (.bipush 6, 2) := by decide +kernel
theorem dX2_addDue_6 : decode cX2_addDue 6 = .ok (.if_icmp .ge 33, 3) := by decide +kernel
theorem dX2_addDue_9 : decode cX2_addDue 9 = .ok (.aload_n 0, 1) := by decide +kernel
theorem dX2_addDue_10 : decode cX2_addDue 10 = .ok (.getfield 18, 3) := by decide +kernel
theorem dX2_addDue_13 : decode cX2_addDue 13 = .ok (.aload_n 0, 1) := by decide +kernel
theorem dX2_addDue_14 : decode cX2_addDue 14 = .ok (.getfield 49, 3) := by decide +kernel
theorem dX2_addDue_17 : decode cX2_addDue 17 = .ok (.iload_n 1, 1) := by decide +kernel
theorem dX2_addDue_18 : decode cX2_addDue 18 = .ok (.iastore, 1) := by decide +kernel
theorem dX2_addDue_19 : decode cX2_addDue 19 = .ok (.aload_n 0, 1) := by decide +kernel
theorem dX2_addDue_20 : decode cX2_addDue 20 = .ok (.getfield 21, 3) := by decide +kernel
theorem dX2_addDue_23 : decode cX2_addDue 23 = .ok (.aload_n 0, 1) := by decide +kernel
theorem dX2_addDue_24 : decode cX2_addDue 24 = .ok (.getfield 49, 3) := by decide +kernel
theorem dX2_addDue_27 : decode cX2_addDue 27 = .ok (.iload_n 2, 1) := by decide +kernel
theorem dX2_addDue_28 : decode cX2_addDue 28 = .ok (.iastore, 1) := by decide +kernel
theorem dX2_addDue_29 : decode cX2_addDue 29 = .ok (.aload_n 0, 1) := by decide +kernel
theorem dX2_addDue_30 : decode cX2_addDue 30 = .ok (.dup, 1) := by decide +kernel
theorem dX2_addDue_31 : decode cX2_addDue 31 = .ok (.getfield 49, 3) := by decide +kernel
theorem dX2_addDue_34 : decode cX2_addDue 34 = .ok (.iconst 1, 1) := by decide +kernel
theorem dX2_addDue_35 : decode cX2_addDue 35 = .ok (.iadd, 1) := by decide +kernel
theorem dX2_addDue_36 : decode cX2_addDue 36 = .ok (.putfield 49, 3) := by decide +kernel
theorem dX2_addDue_39 : decode cX2_addDue 39 = .ok (.return_, 1) := by decide +kernel
theorem dX2_workOut_0 : decode cX2_workOut 0 = .ok (.aload_n 0, 1) := by decide +kernel
theorem dX2_workOut_1 : decode cX2_workOut 1 = .ok (.getfield 30, 3) := by decide +kernel
theorem dX2_workOut_4 : decode cX2_workOut 4 = .ok (.istore_n 1, 1) := by decide +kernel
theorem dX2_workOut_5 : decode cX2_workOut 5 = .ok (.iconst 0, 1) := by decide +kernel
theorem dX2_workOut_6 : decode cX2_workOut 6 = .ok (.istore_n 2, 1) := by decide +kernel
theorem dX2_workOut_7 : decode cX2_workOut 7 = .ok (.iload_n 2, 1) := by decide +kernel
theorem dX2_workOut_8 : decode cX2_workOut 8 = .ok (.iconst 5, 1) := by decide +kernel
theorem dX2_workOut_9 : decode cX2_workOut 9 = .ok (.if_icmp .ge 56, 3) := by decide +kernel
theorem dX2_workOut_12 : decode cX2_workOut 12 = .ok (.aload_n 0, 1) := by decide +kernel
theorem dX2_workOut_13 : decode cX2_workOut 13 = .ok (.getfield 9, 3) := by decide +kernel
theorem dX2_workOut_16 : decode cX2_workOut 16 = .ok (.iload_n 2, 1) := by decide +kernel
theorem dX2_workOut_17 : decode cX2_workOut 17 = .ok (.iload_n 1, 1) := by decide +kernel
theorem dX2_workOut_18 : decode cX2_workOut 18 = .ok (.iastore, 1) := by decide +kernel
theorem dX2_workOut_19 : decode cX2_workOut 19 = .ok (.aload_n 0, 1) := by decide +kernel
theorem dX2_workOut_20 : decode cX2_workOut 20 = .ok (.getfield 15, 3) := by decide +kernel
theorem dX2_workOut_23 : decode cX2_workOut 23 = .ok (.iload_n 2, 1) := by decide +kernel
theorem dX2_workOut_24 : decode cX2_workOut 24 = .ok (.aload_n 0, 1) := by decide +kernel
theorem dX2_workOut_25 : decode cX2_workOut 25 = .ok (.getfield 37, 3) := by decide +kernel
theorem dX2_workOut_28 : decode cX2_workOut 28 = .ok (.iload_n 2, 1) := by decide +kernel
theorem dX2_workOut_29 : decode cX2_workOut 29 = .ok (.aload_n 0, 1) := by decide +kernel
theorem dX2_workOut_30 : decode cX2_workOut 30 = .ok (.getfield 40, 3) := by decide +kernel
theorem dX2_workOut_33 : decode cX2_workOut 33 = .ok (.imul, 1) := by decide +kernel
theorem dX2_workOut_34 : decode cX2_workOut 34 = .ok (.iadd, 1) := by decide +kernel
theorem dX2_workOut_35 : decode cX2_workOut 35 = .ok (.iastore, 1) := by decide +kernel
theorem dX2_workOut_36 : decode cX2_workOut 36 = .ok (.aload_n 0, 1) := by decide +kernel
theorem dX2_workOut_37 : decode cX2_workOut 37 = .ok (.getfield 46, 3) := by decide +kernel
theorem dX2_workOut_40 : decode cX2_workOut 40 = .ok (.ifCond .le 17, 3) := by decide +kernel
theorem dX2_workOut_43 : decode cX2_workOut 43 = .ok (.iload_n 1, 1) := by decide +kernel
theorem dX2_workOut_44 : decode cX2_workOut 44 = .ok (.aload_n 0, 1) := by decide +kernel
theorem dX2_workOut_45 : decode cX2_workOut 45 = .ok (.getfield 43, 3) := by decide +kernel
theorem dX2_workOut_48 : decode cX2_workOut 48 = .ok (.imul, 1) := by decide +kernel
theorem dX2_workOut_49 : decode cX2_workOut 49 = .ok (.aload_n 0, 1) := by decide +kernel
theorem dX2_workOut_50 : decode cX2_workOut 50 = .ok (.getfield 46, 3) := by decide +kernel
theorem dX2_workOut_53 : decode cX2_workOut 53 = .ok (.idiv, 1) := by decide +kernel
theorem dX2_workOut_54 : decode cX2_workOut 54 = .ok (.goto 4, 3) := by decide +kernel
theorem dX2_workOut_57 : decode cX2_workOut 57 = .ok (.iconst 0, 1) := by decide +kernel
theorem dX2_workOut_58 : decode cX2_workOut 58 = .ok (.istore_n 1, 1) := by decide +kernel
theorem dX2_workOut_59 : decode cX2_workOut 59 = .ok (.iinc 2 1, 3) := by decide +kernel
theorem dX2_workOut_62 : decode cX2_workOut 62 = .ok (.goto (-55), 3) := by decide +kernel
theorem dX2_workOut_65 : decode cX2_workOut 65 = .ok (.return_, 1) := by decide +kernel
theorem dX2_drips_0 : decode cX2_drips 0 = .ok (.iload_n 1, 1) := by decide +kernel
theorem dX2_drips_1 : decode cX2_drips 1 = .ok (.ifCond .lt 23, 3) := by decide +kernel
theorem dX2_drips_4 : decode cX2_drips 4 = .ok (.iload_n 1, 1) := by decide +kernel
theorem dX2_drips_5 : decode cX2_drips 5 = .ok (.iconst 4, 1) := by decide +kernel
theorem dX2_drips_6 : decode cX2_drips 6 = .ok (.if_icmp .ge 18, 3) := by decide +kernel
theorem dX2_drips_9 : decode cX2_drips 9 = .ok (.aload_n 0, 1) := by decide +kernel
theorem dX2_drips_10 : decode cX2_drips 10 = .ok (.getfield 9, 3) := by decide +kernel
theorem dX2_drips_13 : decode cX2_drips 13 = .ok (.iload_n 1, 1) := by decide +kernel
theorem dX2_drips_14 : decode cX2_drips 14 = .ok (.iconst 1, 1) := by decide +kernel
theorem dX2_drips_15 : decode cX2_drips 15 = .ok (.iadd, 1) := by decide +kernel
theorem dX2_drips_16 : decode cX2_drips 16 = .ok (.iaload, 1) := by decide +kernel
theorem dX2_drips_17 : decode cX2_drips 17 = .ok (.ifCond .le 7, 3) := by decide +kernel
theorem dX2_drips_20 : decode cX2_drips 20 = .ok (.iconst 1, 1) := by decide +kernel
theorem dX2_drips_21 : decode cX2_drips 21 = .ok (.goto 4, 3) := by decide +kernel
theorem dX2_drips_24 : decode cX2_drips 24 = .ok (.iconst 0, 1) := by decide +kernel
theorem dX2_drips_25 : decode cX2_drips 25 = .ok (.ireturn, 1) := by decide +kernel
theorem dX2_lastDueNight_0 : decode cX2_lastDueNight 0 = .ok (.iload_n 1, 1) := by decide +kernel
theorem dX2_lastDueNight_1 : decode cX2_lastDueNight 1 = .ok (.istore_n 2, 1) := by decide +kernel
theorem dX2_lastDueNight_2 : decode cX2_lastDueNight 2 = .ok (.iconst 0, 1) := by decide +kernel
theorem dX2_lastDueNight_3 : decode cX2_lastDueNight 3 = .ok (.istore_n 3, 1) := by decide +kernel
theorem dX2_lastDueNight_4 : decode cX2_lastDueNight 4 = .ok (.iload_n 3, 1) := by decide +kernel
theorem dX2_lastDueNight_5 : decode cX2_lastDueNight 5 = .ok (.aload_n 0, 1) := by decide +kernel
theorem dX2_lastDueNight_6 : decode cX2_lastDueNight 6 = .ok (.getfield 49, 3) := by decide +kernel
theorem dX2_lastDueNight_9 : decode cX2_lastDueNight 9 = .ok (.if_icmp .ge 20, 3) := by decide +kernel
theorem dX2_lastDueNight_12 : decode cX2_lastDueNight 12 = .ok (.iload_n 2, 1) := by decide +kernel
theorem dX2_lastDueNight_13 : decode cX2_lastDueNight 13 = .ok (.aload_n 0, 1) := by decide +kernel
theorem dX2_lastDueNight_14 : decode cX2_lastDueNight 14 = .ok (.getfield 18, 3) := by decide +kernel
theorem dX2_lastDueNight_17 : decode cX2_lastDueNight 17 = .ok (.iload_n 3, 1) := by decide +kernel
theorem dX2_lastDueNight_18 : decode cX2_lastDueNight 18 = .ok (.iaload, 1) := by decide +kernel
theorem dX2_lastDueNight_19 : decode cX2_lastDueNight 19 = .ok (.invokestatic 52, 3) := by decide +kernel
theorem dX2_lastDueNight_22 : decode cX2_lastDueNight 22 = .ok (.istore_n 2, 1) := by decide +kernel
theorem dX2_lastDueNight_23 : decode cX2_lastDueNight 23 = .ok (.iinc 3 1, 3) := by decide +kernel
theorem dX2_lastDueNight_26 : decode cX2_lastDueNight 26 = .ok (.goto (-22), 3) := by decide +kernel
theorem dX2_lastDueNight_29 : decode cX2_lastDueNight 29 = .ok (.iload_n 2, 1) := by decide +kernel
theorem dX2_lastDueNight_30 : decode cX2_lastDueNight 30 = .ok (.ireturn, 1) := by decide +kernel
set_option maxRecDepth 20000 in
theorem ggX3_init_X6_init : GoodIn wsX3_init wsX6_init := goodIn_r _ [10, 11, 2, 3, 12, 13, 14, 15, 16, 7, 17, 18, 19, 20, 21, 22, 23, 27, 28, 29] (by decide +kernel) (by decide +kernel)
set_option maxRecDepth 20000 in
theorem gX3_init_X6_init : GoodIn wsX3_init (wsX6_init) := ggX3_init_X6_init
theorem dX3_init_0 : decode cX3_init 0 = .ok (.aload_n 0, 1) := by decide +kernel
theorem dX3_init_1 : decode cX3_init 1 = .ok (.invokespecial 1, 3) := by decide +kernel
theorem dX3_init_4 : decode cX3_init 4 = .ok (.aload_n 0, 1) := by decide +kernel
theorem dX3_init_5 : decode cX3_init 5 = .ok (.bipush 8, 2) := by decide +kernel
theorem dX3_init_7 : decode cX3_init 7 = .ok (.anewarray 9, 3) := by decide +kernel
theorem dX3_init_10 : decode cX3_init 10 = .ok (.putfield 11, 3) := by decide +kernel
theorem dX3_init_13 : decode cX3_init 13 = .ok (.iconst 0, 1) := by decide +kernel
theorem dX3_init_14 : decode cX3_init 14 = .ok (.istore_n 1, 1) := by decide +kernel
theorem dX3_init_15 : decode cX3_init 15 = .ok (.iload_n 1, 1) := by decide +kernel
theorem dX3_init_16 : decode cX3_init 16 = .ok (.bipush 8, 2) := by decide +kernel
theorem dX3_init_18 : decode cX3_init 18 = .ok (.if_icmp .ge 22, 3) := by decide +kernel
theorem dX3_init_21 : decode cX3_init 21 = .ok (.aload_n 0, 1) := by decide +kernel
theorem dX3_init_22 : decode cX3_init 22 = .ok (.getfield 11, 3) := by decide +kernel
theorem dX3_init_25 : decode cX3_init 25 = .ok (.iload_n 1, 1) := by decide +kernel
theorem dX3_init_26 : decode cX3_init 26 = .ok (.new 9, 3) := by decide +kernel
theorem dX3_init_29 : decode cX3_init 29 = .ok (.dup, 1) := by decide +kernel
theorem dX3_init_30 : decode cX3_init 30 = .ok (.invokespecial 15, 3) := by decide +kernel
theorem dX3_init_33 : decode cX3_init 33 = .ok (.aastore, 1) := by decide +kernel
theorem dX3_init_34 : decode cX3_init 34 = .ok (.iinc 1 1, 3) := by decide +kernel
theorem dX3_init_37 : decode cX3_init 37 = .ok (.goto (-22), 3) := by decide +kernel
theorem dX3_init_40 : decode cX3_init 40 = .ok (.return_, 1) := by decide +kernel
set_option maxRecDepth 20000 in
theorem ggX3_remember_X6_becomeLike : GoodIn wsX3_remember wsX6_becomeLike := goodIn_r _ [12, 13, 14, 15, 16, 17, 18, 19, 23, 24, 25] (by decide +kernel) (by decide +kernel)
set_option maxRecDepth 20000 in
theorem gX3_remember_X6_becomeLike : GoodIn wsX3_remember (wsV RX3 20 RX6 yX6_becomeLike wsX6_becomeLike) := goodIn_app (goodIn_of _ (by decide +kernel)) ggX3_remember_X6_becomeLike
theorem dX3_remember_0 : decode cX3_remember 0 = .ok (.aload_n 0, 1) := by decide +kernel
theorem dX3_remember_1 : decode cX3_remember 1 = .ok (.getfield 11, 3) := by decide +kernel
theorem dX3_remember_4 : decode cX3_remember 4 = .ok (.aload_n 0, 1) := by decide +kernel
theorem dX3_remember_5 : decode cX3_remember 5 = .ok (.getfield 16, 3) := by decide +kernel
theorem dX3_remember_8 : decode cX3_remember 8 = .ok (.aaload, 1) := by decide +kernel
theorem dX3_remember_9 : decode cX3_remember 9 = .ok (.aload_n 1, 1) := by decide +kernel
theorem dX3_remember_10 : decode cX3_remember 10 = .ok (.invokevirtual 20, 3) := by decide +kernel
theorem dX3_remember_13 : decode cX3_remember 13 = .ok (.aload_n 0, 1) := by decide +kernel
theorem dX3_remember_14 : decode cX3_remember 14 = .ok (.aload_n 0, 1) := by decide +kernel
theorem dX3_remember_15 : decode cX3_remember 15 = .ok (.getfield 16, 3) := by decide +kernel
theorem dX3_remember_18 : decode cX3_remember 18 = .ok (.iconst 1, 1) := by decide +kernel
theorem dX3_remember_19 : decode cX3_remember 19 = .ok (.iadd, 1) := by decide +kernel
theorem dX3_remember_20 : decode cX3_remember 20 = .ok (.bipush 8, 2) := by decide +kernel
theorem dX3_remember_22 : decode cX3_remember 22 = .ok (.if_icmp .ge 12, 3) := by decide +kernel
theorem dX3_remember_25 : decode cX3_remember 25 = .ok (.aload_n 0, 1) := by decide +kernel
theorem dX3_remember_26 : decode cX3_remember 26 = .ok (.getfield 16, 3) := by decide +kernel
theorem dX3_remember_29 : decode cX3_remember 29 = .ok (.iconst 1, 1) := by decide +kernel
theorem dX3_remember_30 : decode cX3_remember 30 = .ok (.iadd, 1) := by decide +kernel
theorem dX3_remember_31 : decode cX3_remember 31 = .ok (.goto 4, 3) := by decide +kernel
theorem dX3_remember_34 : decode cX3_remember 34 = .ok (.iconst 0, 1) := by decide +kernel
theorem dX3_remember_35 : decode cX3_remember 35 = .ok (.putfield 16, 3) := by decide +kernel
theorem dX3_remember_38 : decode cX3_remember 38 = .ok (.aload_n 0, 1) := by decide +kernel
theorem dX3_remember_39 : decode cX3_remember 39 = .ok (.aload_n 0, 1) := by decide +kernel
theorem dX3_remember_40 : decode cX3_remember 40 = .ok (.getfield 24, 3) := by decide +kernel
theorem dX3_remember_43 : decode cX3_remember 43 = .ok (.iconst 1, 1) := by decide +kernel
theorem dX3_remember_44 : decode cX3_remember 44 = .ok (.iadd, 1) := by decide +kernel
theorem dX3_remember_45 : decode cX3_remember 45 = .ok (.bipush 8, 2) := by decide +kernel
theorem dX3_remember_47 : decode cX3_remember 47 = .ok (.invokestatic 27, 3) := by decide +kernel
theorem dX3_remember_50 : decode cX3_remember 50 = .ok (.putfield 24, 3) := by decide +kernel
theorem dX3_remember_53 : decode cX3_remember 53 = .ok (.return_, 1) := by decide +kernel
set_option maxRecDepth 20000 in
theorem ggX3_restore_X6_becomeLike : GoodIn wsX3_restore wsX6_becomeLike := goodIn_r _ [8, 9, 10, 11, 12, 13, 14, 15, 19, 20, 21] (by decide +kernel) (by decide +kernel)
set_option maxRecDepth 20000 in
theorem gX3_restore_X6_becomeLike : GoodIn wsX3_restore (wsV RX3 20 RX6 yX6_becomeLike wsX6_becomeLike) := goodIn_app (goodIn_of _ (by decide +kernel)) ggX3_restore_X6_becomeLike
theorem dX3_restore_0 : decode cX3_restore 0 = .ok (.aload_n 0, 1) := by decide +kernel
theorem dX3_restore_1 : decode cX3_restore 1 = .ok (.getfield 24, 3) := by decide +kernel
theorem dX3_restore_4 : decode cX3_restore 4 = .ok (.ifCond .ne 5, 3) := by decide +kernel
theorem dX3_restore_7 : decode cX3_restore 7 = .ok (.iconst 0, 1) := by decide +kernel
theorem dX3_restore_8 : decode cX3_restore 8 = .ok (.ireturn, 1) := by decide +kernel
theorem dX3_restore_9 : decode cX3_restore 9 = .ok (.aload_n 0, 1) := by decide +kernel
theorem dX3_restore_10 : decode cX3_restore 10 = .ok (.aload_n 0, 1) := by decide +kernel
theorem dX3_restore_11 : decode cX3_restore 11 = .ok (.getfield 16, 3) := by decide +kernel
theorem dX3_restore_14 : decode cX3_restore 14 = .ok (.ifCond .le 12, 3) := by decide +kernel
theorem dX3_restore_17 : decode cX3_restore 17 = .ok (.aload_n 0, 1) := by decide +kernel
theorem dX3_restore_18 : decode cX3_restore 18 = .ok (.getfield 16, 3) := by decide +kernel
theorem dX3_restore_21 : decode cX3_restore 21 = .ok (.iconst 1, 1) := by decide +kernel
theorem dX3_restore_22 : decode cX3_restore 22 = .ok (.isub, 1) := by decide +kernel
theorem dX3_restore_23 : decode cX3_restore 23 = .ok (.goto 5, 3) := by decide +kernel
theorem dX3_restore_26 : decode cX3_restore 26 = .ok (.bipush 7, 2) := by decide +kernel
theorem dX3_restore_28 : decode cX3_restore 28 = .ok (.putfield 16, 3) := by decide +kernel
theorem dX3_restore_31 : decode cX3_restore 31 = .ok (.aload_n 0, 1) := by decide +kernel
theorem dX3_restore_32 : decode cX3_restore 32 = .ok (.dup, 1) := by decide +kernel
theorem dX3_restore_33 : decode cX3_restore 33 = .ok (.getfield 24, 3) := by decide +kernel
theorem dX3_restore_36 : decode cX3_restore 36 = .ok (.iconst 1, 1) := by decide +kernel
theorem dX3_restore_37 : decode cX3_restore 37 = .ok (.isub, 1) := by decide +kernel
theorem dX3_restore_38 : decode cX3_restore 38 = .ok (.putfield 24, 3) := by decide +kernel
theorem dX3_restore_41 : decode cX3_restore 41 = .ok (.aload_n 1, 1) := by decide +kernel
theorem dX3_restore_42 : decode cX3_restore 42 = .ok (.aload_n 0, 1) := by decide +kernel
theorem dX3_restore_43 : decode cX3_restore 43 = .ok (.getfield 11, 3) := by decide +kernel
theorem dX3_restore_46 : decode cX3_restore 46 = .ok (.aload_n 0, 1) := by decide +kernel
theorem dX3_restore_47 : decode cX3_restore 47 = .ok (.getfield 16, 3) := by decide +kernel
theorem dX3_restore_50 : decode cX3_restore 50 = .ok (.aaload, 1) := by decide +kernel
theorem dX3_restore_51 : decode cX3_restore 51 = .ok (.invokevirtual 20, 3) := by decide +kernel
theorem dX3_restore_54 : decode cX3_restore 54 = .ok (.iconst 1, 1) := by decide +kernel
theorem dX3_restore_55 : decode cX3_restore 55 = .ok (.ireturn, 1) := by decide +kernel
theorem dX3_lose_0 : decode cX3_lose 0 = .ok (.aload_n 0, 1) := by decide +kernel
theorem dX3_lose_1 : decode cX3_lose 1 = .ok (.iconst 0, 1) := by decide +kernel
theorem dX3_lose_2 : decode cX3_lose 2 = .ok (.putfield 24, 3) := by decide +kernel
theorem dX3_lose_5 : decode cX3_lose 5 = .ok (.return_, 1) := by decide +kernel
theorem dX4_init_0 : decode cX4_init 0 = .ok (.aload_n 0, 1) := by decide +kernel
theorem dX4_init_1 : decode cX4_init 1 = .ok (.invokespecial 3, 3) := by decide +kernel
theorem dX4_init_4 : decode cX4_init 4 = .ok (.aload_n 0, 1) := by decide +kernel
theorem dX4_init_5 : decode cX4_init 5 = .ok (.iconst 5, 1) := by decide +kernel
theorem dX4_init_6 : decode cX4_init 6 = .ok (.sipush 299, 3) := by decide +kernel
theorem dX4_init_9 : decode cX4_init 9 = .ok (.multianewarray 11 2, 4) := by decide +kernel
theorem dX4_init_13 : decode cX4_init 13 = .ok (.putfield 13, 3) := by decide +kernel
theorem dX4_init_16 : decode cX4_init 16 = .ok (.aload_n 0, 1) := by decide +kernel
theorem dX4_init_17 : decode cX4_init 17 = .ok (.iconst 5, 1) := by decide +kernel
theorem dX4_init_18 : decode cX4_init 18 = .ok (.newarray .int, 2) := by decide +kernel
theorem dX4_init_20 : decode cX4_init 20 = .ok (.putfield 16, 3) := by decide +kernel
theorem dX4_init_23 : decode cX4_init 23 = .ok (.return_, 1) := by decide +kernel
set_option maxRecDepth 20000 in
theorem ggX4_find_X6_ofOrder : GoodIn wsX4_find wsX6_ofOrder := goodIn_r _ [7, 8, 9, 43, 44, 45] (by decide +kernel) (by decide +kernel)
set_option maxRecDepth 20000 in
theorem gX4_find_X6_ofOrder : GoodIn wsX4_find (wsV RX4 20 RX6 yX6_ofOrder wsX6_ofOrder) := goodIn_app (goodIn_of _ (by decide +kernel)) ggX4_find_X6_ofOrder
set_option maxRecDepth 20000 in
theorem ggX4_find_X4_fill : GoodIn wsX4_find wsX4_fill := goodIn_r _ [14, 15, 16, 17, 18, 13, 19, 40, 41, 42] (by decide +kernel) (by decide +kernel)
set_option maxRecDepth 20000 in
theorem gX4_find_X4_fill : GoodIn wsX4_find (wsV RX4 31 RX4 yX4_fill wsX4_fill) := goodIn_app (goodIn_of _ (by decide +kernel)) ggX4_find_X4_fill
set_option maxRecDepth 20000 in
theorem ggX4_find_X4_canWeigh : GoodIn wsX4_find wsX4_canWeigh := goodIn_r _ [19, 15, 40, 41, 42] (by decide +kernel) (by decide +kernel)
set_option maxRecDepth 20000 in
theorem gX4_find_X4_canWeigh : GoodIn wsX4_find (wsV RX4 35 RX4 yX4_canWeigh wsX4_canWeigh) := goodIn_app (goodIn_of _ (by decide +kernel)) ggX4_find_X4_canWeigh
set_option maxRecDepth 20000 in
theorem ggX4_find_X4_choose : GoodIn wsX4_find wsX4_choose := goodIn_r _ [23, 2, 1, 24, 25, 26, 27, 28, 3, 4, 5, 6, 7, 8, 9, 16, 17, 18, 13, 19, 15, 40, 41, 42, 29, 30, 31, 32, 33, 34, 35, 36, 37, 38, 39, 43, 44, 45] (by decide +kernel) (by decide +kernel)
set_option maxRecDepth 20000 in
theorem gX4_find_X4_choose : GoodIn wsX4_find (wsV RX4 43 RX4 yX4_choose wsX4_choose) := goodIn_app (goodIn_of _ (by decide +kernel)) ggX4_find_X4_choose
theorem dX4_find_0 : decode cX4_find 0 = .ok (.iconst 0, 1) := by decide +kernel
theorem dX4_find_1 : decode cX4_find 1 = .ok (.istore 4, 2) := by decide +kernel
theorem dX4_find_3 : decode cX4_find 3 = .ok (.iload 4, 2) := by decide +kernel
theorem dX4_find_5 : decode cX4_find 5 = .ok (.iconst 5, 1) := by decide +kernel
theorem dX4_find_6 : decode cX4_find 6 = .ok (.if_icmp .ge 28, 3) := by decide +kernel
theorem dX4_find_9 : decode cX4_find 9 = .ok (.aload_n 0, 1) := by decide +kernel
theorem dX4_find_10 : decode cX4_find 10 = .ok (.iload 4, 2) := by decide +kernel
theorem dX4_find_12 : decode cX4_find 12 = .ok (.aload_n 1, 1) := by decide +kernel
theorem dX4_find_13 : decode cX4_find 13 = .ok (.iload 4, 2) := by decide +kernel
theorem dX4_find_15 : decode cX4_find 15 = .ok (.invokevirtual 20, 3) := by decide +kernel
theorem dX4_find_18 : decode cX4_find 18 = .ok (.aload_n 2, 1) := by decide +kernel
theorem dX4_find_19 : decode cX4_find 19 = .ok (.getfield 26, 3) := by decide +kernel
theorem dX4_find_22 : decode cX4_find 22 = .ok (.iload 4, 2) := by decide +kernel
theorem dX4_find_24 : decode cX4_find 24 = .ok (.iaload, 1) := by decide +kernel
theorem dX4_find_25 : decode cX4_find 25 = .ok (.invokevirtual 31, 3) := by decide +kernel
theorem dX4_find_28 : decode cX4_find 28 = .ok (.iinc 4 1, 3) := by decide +kernel
theorem dX4_find_31 : decode cX4_find 31 = .ok (.goto (-28), 3) := by decide +kernel
theorem dX4_find_34 : decode cX4_find 34 = .ok (.iload_n 3, 1) := by decide +kernel
theorem dX4_find_35 : decode cX4_find 35 = .ok (.istore 4, 2) := by decide +kernel
theorem dX4_find_37 : decode cX4_find 37 = .ok (.iload 4, 2) := by decide +kernel
theorem dX4_find_39 : decode cX4_find 39 = .ok (.sipush 299, 3) := by decide +kernel
theorem dX4_find_42 : decode cX4_find 42 = .ok (.if_icmp .ge 33, 3) := by decide +kernel
theorem dX4_find_45 : decode cX4_find 45 = .ok (.aload_n 0, 1) := by decide +kernel
theorem dX4_find_46 : decode cX4_find 46 = .ok (.iconst 4, 1) := by decide +kernel
theorem dX4_find_47 : decode cX4_find 47 = .ok (.iload 4, 2) := by decide +kernel
theorem dX4_find_49 : decode cX4_find 49 = .ok (.invokevirtual 35, 3) := by decide +kernel
theorem dX4_find_52 : decode cX4_find 52 = .ok (.ifCond .eq 17, 3) := by decide +kernel
theorem dX4_find_55 : decode cX4_find 55 = .ok (.aload_n 0, 1) := by decide +kernel
theorem dX4_find_56 : decode cX4_find 56 = .ok (.iload 4, 2) := by decide +kernel
theorem dX4_find_58 : decode cX4_find 58 = .ok (.putfield 39, 3) := by decide +kernel
theorem dX4_find_61 : decode cX4_find 61 = .ok (.aload_n 0, 1) := by decide +kernel
theorem dX4_find_62 : decode cX4_find 62 = .ok (.aload_n 1, 1) := by decide +kernel
theorem dX4_find_63 : decode cX4_find 63 = .ok (.aload_n 2, 1) := by decide +kernel
theorem dX4_find_64 : decode cX4_find 64 = .ok (.invokevirtual 43, 3) := by decide +kernel
theorem dX4_find_67 : decode cX4_find 67 = .ok (.iconst 1, 1) := by decide +kernel
theorem dX4_find_68 : decode cX4_find 68 = .ok (.ireturn, 1) := by decide +kernel
theorem dX4_find_69 : decode cX4_find 69 = .ok (.iinc 4 1, 3) := by decide +kernel
theorem dX4_find_72 : decode cX4_find 72 = .ok (.goto (-35), 3) := by decide +kernel
theorem dX4_find_75 : decode cX4_find 75 = .ok (.iconst 0, 1) := by decide +kernel
theorem dX4_find_76 : decode cX4_find 76 = .ok (.ireturn, 1) := by decide +kernel
theorem dX4_canWeigh_0 : decode cX4_canWeigh 0 = .ok (.iload_n 1, 1) := by decide +kernel
theorem dX4_canWeigh_1 : decode cX4_canWeigh 1 = .ok (.ifCond .ge 15, 3) := by decide +kernel
theorem dX4_canWeigh_4 : decode cX4_canWeigh 4 = .ok (.iload_n 2, 1) := by decide +kernel
theorem dX4_canWeigh_5 : decode cX4_canWeigh 5 = .ok (.ifCond .ne 7, 3) := by decide +kernel
theorem dX4_canWeigh_8 : decode cX4_canWeigh 8 = .ok (.iconst 1, 1) := by decide +kernel
theorem dX4_canWeigh_9 : decode cX4_canWeigh 9 = .ok (.goto 23, 3) := by decide +kernel
theorem dX4_canWeigh_12 : decode cX4_canWeigh 12 = .ok (.iconst 0, 1) := by decide +kernel
theorem dX4_canWeigh_13 : decode cX4_canWeigh 13 = .ok (.goto 19, 3) := by decide +kernel
theorem dX4_canWeigh_16 : decode cX4_canWeigh 16 = .ok (.aload_n 0, 1) := by decide +kernel
theorem dX4_canWeigh_17 : decode cX4_canWeigh 17 = .ok (.getfield 13, 3) := by decide +kernel
theorem dX4_canWeigh_20 : decode cX4_canWeigh 20 = .ok (.iload_n 1, 1) := by decide +kernel
theorem dX4_canWeigh_21 : decode cX4_canWeigh 21 = .ok (.aaload, 1) := by decide +kernel
theorem dX4_canWeigh_22 : decode cX4_canWeigh 22 = .ok (.iload_n 2, 1) := by decide +kernel
theorem dX4_canWeigh_23 : decode cX4_canWeigh 23 = .ok (.iaload, 1) := by decide +kernel
theorem dX4_canWeigh_24 : decode cX4_canWeigh 24 = .ok (.ifCond .lt 7, 3) := by decide +kernel
theorem dX4_canWeigh_27 : decode cX4_canWeigh 27 = .ok (.iconst 1, 1) := by decide +kernel
theorem dX4_canWeigh_28 : decode cX4_canWeigh 28 = .ok (.goto 4, 3) := by decide +kernel
theorem dX4_canWeigh_31 : decode cX4_canWeigh 31 = .ok (.iconst 0, 1) := by decide +kernel
theorem dX4_canWeigh_32 : decode cX4_canWeigh 32 = .ok (.ireturn, 1) := by decide +kernel
set_option maxRecDepth 20000 in
theorem ggX4_fill_X4_canWeigh : GoodIn wsX4_fill wsX4_canWeigh := goodIn_r _ [6, 1, 7, 8, 9] (by decide +kernel) (by decide +kernel)
set_option maxRecDepth 20000 in
theorem gX4_fill_X4_canWeigh : GoodIn wsX4_fill (wsV RX4 35 RX4 yX4_canWeigh wsX4_canWeigh) := goodIn_app (goodIn_of _ (by decide +kernel)) ggX4_fill_X4_canWeigh
theorem dX4_fill_0 : decode cX4_fill 0 = .ok (.iconst 0, 1) := by decide +kernel
theorem dX4_fill_1 : decode cX4_fill 1 = .ok (.istore 5, 2) := by decide +kernel
theorem dX4_fill_3 : decode cX4_fill 3 = .ok (.iload 5, 2) := by decide +kernel
theorem dX4_fill_5 : decode cX4_fill 5 = .ok (.sipush 299, 3) := by decide +kernel
theorem dX4_fill_8 : decode cX4_fill 8 = .ok (.if_icmp .ge 90, 3) := by decide +kernel
theorem dX4_fill_11 : decode cX4_fill 11 = .ok (.iconst (-1), 1) := by decide +kernel
theorem dX4_fill_12 : decode cX4_fill 12 = .ok (.istore 6, 2) := by decide +kernel
theorem dX4_fill_14 : decode cX4_fill 14 = .ok (.aload_n 0, 1) := by decide +kernel
theorem dX4_fill_15 : decode cX4_fill 15 = .ok (.iload_n 1, 1) := by decide +kernel
theorem dX4_fill_16 : decode cX4_fill 16 = .ok (.iconst 1, 1) := by decide +kernel
theorem dX4_fill_17 : decode cX4_fill 17 = .ok (.isub, 1) := by decide +kernel
theorem dX4_fill_18 : decode cX4_fill 18 = .ok (.iload 5, 2) := by decide +kernel
theorem dX4_fill_20 : decode cX4_fill 20 = .ok (.invokevirtual 35, 3) := by decide +kernel
theorem dX4_fill_23 : decode cX4_fill 23 = .ok (.ifCond .eq 9, 3) := by decide +kernel
theorem dX4_fill_26 : decode cX4_fill 26 = .ok (.iconst 0, 1) := by decide +kernel
theorem dX4_fill_27 : decode cX4_fill 27 = .ok (.istore 6, 2) := by decide +kernel
theorem dX4_fill_29 : decode cX4_fill 29 = .ok (.goto 52, 3) := by decide +kernel
theorem dX4_fill_32 : decode cX4_fill 32 = .ok (.iload 4, 2) := by decide +kernel
theorem dX4_fill_34 : decode cX4_fill 34 = .ok (.ifCond .le 47, 3) := by decide +kernel
theorem dX4_fill_37 : decode cX4_fill 37 = .ok (.iload 5, 2) := by decide +kernel
theorem dX4_fill_39 : decode cX4_fill 39 = .ok (.iload 4, 2) := by decide +kernel
theorem dX4_fill_41 : decode cX4_fill 41 = .ok (.if_icmp .lt 40, 3) := by decide +kernel
theorem dX4_fill_44 : decode cX4_fill 44 = .ok (.aload_n 0, 1) := by decide +kernel
theorem dX4_fill_45 : decode cX4_fill 45 = .ok (.getfield 13, 3) := by decide +kernel
theorem dX4_fill_48 : decode cX4_fill 48 = .ok (.iload_n 1, 1) := by decide +kernel
theorem dX4_fill_49 : decode cX4_fill 49 = .ok (.aaload, 1) := by decide +kernel
theorem dX4_fill_50 : decode cX4_fill 50 = .ok (.iload 5, 2) := by decide +kernel
theorem dX4_fill_52 : decode cX4_fill 52 = .ok (.iload 4, 2) := by decide +kernel
theorem dX4_fill_54 : decode cX4_fill 54 = .ok (.isub, 1) := by decide +kernel
theorem dX4_fill_55 : decode cX4_fill 55 = .ok (.iaload, 1) := by decide +kernel
theorem dX4_fill_56 : decode cX4_fill 56 = .ok (.istore 7, 2) := by decide +kernel
theorem dX4_fill_58 : decode cX4_fill 58 = .ok (.iload 7, 2) := by decide +kernel
theorem dX4_fill_60 : decode cX4_fill 60 = .ok (.ifCond .lt 18, 3) := by decide +kernel
theorem dX4_fill_63 : decode cX4_fill 63 = .ok (.iload 7, 2) := by decide +kernel
theorem dX4_fill_65 : decode cX4_fill 65 = .ok (.i2l, 1) := by decide +kernel
theorem dX4_fill_66 : decode cX4_fill 66 = .ok (.lload_n 2, 1) := by decide +kernel
theorem dX4_fill_67 : decode cX4_fill 67 = .ok (.lcmp, 1) := by decide +kernel
theorem dX4_fill_68 : decode cX4_fill 68 = .ok (.ifCond .ge 10, 3) := by decide +kernel
theorem dX4_fill_71 : decode cX4_fill 71 = .ok (.iload 7, 2) := by decide +kernel
theorem dX4_fill_73 : decode cX4_fill 73 = .ok (.iconst 1, 1) := by decide +kernel
theorem dX4_fill_74 : decode cX4_fill 74 = .ok (.iadd, 1) := by decide +kernel
theorem dX4_fill_75 : decode cX4_fill 75 = .ok (.goto 4, 3) := by decide +kernel
theorem dX4_fill_78 : decode cX4_fill 78 = .ok (.iconst (-1), 1) := by decide +kernel
theorem dX4_fill_79 : decode cX4_fill 79 = .ok (.istore 6, 2) := by decide +kernel
theorem dX4_fill_81 : decode cX4_fill 81 = .ok (.aload_n 0, 1) := by decide +kernel
theorem dX4_fill_82 : decode cX4_fill 82 = .ok (.getfield 13, 3) := by decide +kernel
theorem dX4_fill_85 : decode cX4_fill 85 = .ok (.iload_n 1, 1) := by decide +kernel
theorem dX4_fill_86 : decode cX4_fill 86 = .ok (.aaload, 1) := by decide +kernel
theorem dX4_fill_87 : decode cX4_fill 87 = .ok (.iload 5, 2) := by decide +kernel
theorem dX4_fill_89 : decode cX4_fill 89 = .ok (.iload 6, 2) := by decide +kernel
theorem dX4_fill_91 : decode cX4_fill 91 = .ok (.iastore, 1) := by decide +kernel
theorem dX4_fill_92 : decode cX4_fill 92 = .ok (.iinc 5 1, 3) := by decide +kernel
theorem dX4_fill_95 : decode cX4_fill 95 = .ok (.goto (-92), 3) := by decide +kernel
theorem dX4_fill_98 : decode cX4_fill 98 = .ok (.return_, 1) := by decide +kernel
set_option maxRecDepth 20000 in
theorem ggX4_choose_X6_ofOrder : GoodIn wsX4_choose wsX6_ofOrder := goodIn_r _ [12, 13, 14, 35, 36, 37] (by decide +kernel) (by decide +kernel)
set_option maxRecDepth 20000 in
theorem gX4_choose_X6_ofOrder : GoodIn wsX4_choose (wsV RX4 20 RX6 yX6_ofOrder wsX6_ofOrder) := goodIn_app (goodIn_of _ (by decide +kernel)) ggX4_choose_X6_ofOrder
set_option maxRecDepth 20000 in
theorem ggX4_choose_X4_canWeigh : GoodIn wsX4_choose wsX4_canWeigh := goodIn_r _ [19, 20, 21, 22, 23] (by decide +kernel) (by decide +kernel)
set_option maxRecDepth 20000 in
theorem gX4_choose_X4_canWeigh : GoodIn wsX4_choose (wsV RX4 35 RX4 yX4_canWeigh wsX4_canWeigh) := goodIn_app (goodIn_of _ (by decide +kernel)) ggX4_choose_X4_canWeigh
theorem dX4_choose_0 : decode cX4_choose 0 = .ok (.aload_n 0, 1) := by decide +kernel
theorem dX4_choose_1 : decode cX4_choose 1 = .ok (.getfield 39, 3) := by decide +kernel
theorem dX4_choose_4 : decode cX4_choose 4 = .ok (.istore_n 3, 1) := by decide +kernel
theorem dX4_choose_5 : decode cX4_choose 5 = .ok (.iconst 4, 1) := by decide +kernel
theorem dX4_choose_6 : decode cX4_choose 6 = .ok (.istore 4, 2) := by decide +kernel
theorem dX4_choose_8 : decode cX4_choose 8 = .ok (.iload 4, 2) := by decide +kernel
theorem dX4_choose_10 : decode cX4_choose 10 = .ok (.ifCond .lt 110, 3) := by decide +kernel
theorem dX4_choose_13 : decode cX4_choose 13 = .ok (.aload_n 2, 1) := by decide +kernel
theorem dX4_choose_14 : decode cX4_choose 14 = .ok (.getfield 26, 3) := by decide +kernel
theorem dX4_choose_17 : decode cX4_choose 17 = .ok (.iload 4, 2) := by decide +kernel
theorem dX4_choose_19 : decode cX4_choose 19 = .ok (.iaload, 1) := by decide +kernel
theorem dX4_choose_20 : decode cX4_choose 20 = .ok (.istore 5, 2) := by decide +kernel
theorem dX4_choose_22 : decode cX4_choose 22 = .ok (.iload 5, 2) := by decide +kernel
theorem dX4_choose_24 : decode cX4_choose 24 = .ok (.ifCond .le 21, 3) := by decide +kernel
theorem dX4_choose_27 : decode cX4_choose 27 = .ok (.aload_n 1, 1) := by decide +kernel
theorem dX4_choose_28 : decode cX4_choose 28 = .ok (.iload 4, 2) := by decide +kernel
theorem dX4_choose_30 : decode cX4_choose 30 = .ok (.invokevirtual 20, 3) := by decide +kernel
theorem dX4_choose_33 : decode cX4_choose 33 = .ok (.iload_n 3, 1) := by decide +kernel
theorem dX4_choose_34 : decode cX4_choose 34 = .ok (.iload 5, 2) := by decide +kernel
theorem dX4_choose_36 : decode cX4_choose 36 = .ok (.idiv, 1) := by decide +kernel
theorem dX4_choose_37 : decode cX4_choose 37 = .ok (.i2l, 1) := by decide +kernel
theorem dX4_choose_38 : decode cX4_choose 38 = .ok (.invokestatic 47, 3) := by decide +kernel
theorem dX4_choose_41 : decode cX4_choose 41 = .ok (.l2i, 1) := by decide +kernel
theorem dX4_choose_42 : decode cX4_choose 42 = .ok (.goto 4, 3) := by decide +kernel
theorem dX4_choose_45 : decode cX4_choose 45 = .ok (.iconst 0, 1) := by decide +kernel
theorem dX4_choose_46 : decode cX4_choose 46 = .ok (.istore 6, 2) := by decide +kernel
theorem dX4_choose_48 : decode cX4_choose 48 = .ok (.aload_n 0, 1) := by decide +kernel
theorem dX4_choose_49 : decode cX4_choose 49 = .ok (.getfield 16, 3) := by decide +kernel
theorem dX4_choose_52 : decode cX4_choose 52 = .ok (.iload 4, 2) := by decide +kernel
theorem dX4_choose_54 : decode cX4_choose 54 = .ok (.iconst 0, 1) := by decide +kernel
theorem dX4_choose_55 : decode cX4_choose 55 = .ok (.iastore, 1) := by decide +kernel
theorem dX4_choose_56 : decode cX4_choose 56 = .ok (.iload 6, 2) := by decide +kernel
theorem dX4_choose_58 : decode cX4_choose 58 = .ok (.istore 7, 2) := by decide +kernel
theorem dX4_choose_60 : decode cX4_choose 60 = .ok (.iload 7, 2) := by decide +kernel
theorem dX4_choose_62 : decode cX4_choose 62 = .ok (.ifCond .le 39, 3) := by decide +kernel
theorem dX4_choose_65 : decode cX4_choose 65 = .ok (.aload_n 0, 1) := by decide +kernel
theorem dX4_choose_66 : decode cX4_choose 66 = .ok (.iload 4, 2) := by decide +kernel
theorem dX4_choose_68 : decode cX4_choose 68 = .ok (.iconst 1, 1) := by decide +kernel
theorem dX4_choose_69 : decode cX4_choose 69 = .ok (.isub, 1) := by decide +kernel
theorem dX4_choose_70 : decode cX4_choose 70 = .ok (.iload_n 3, 1) := by decide +kernel
theorem dX4_choose_71 : decode cX4_choose 71 = .ok (.iload 7, 2) := by decide +kernel
theorem dX4_choose_73 : decode cX4_choose 73 = .ok (.iload 5, 2) := by decide +kernel
theorem dX4_choose_75 : decode cX4_choose 75 = .ok (.imul, 1) := by decide +kernel
theorem dX4_choose_76 : decode cX4_choose 76 = .ok (.isub, 1) := by decide +kernel
theorem dX4_choose_77 : decode cX4_choose 77 = .ok (.invokevirtual 35, 3) := by decide +kernel
theorem dX4_choose_80 : decode cX4_choose 80 = .ok (.ifCond .eq 15, 3) := by decide +kernel
theorem dX4_choose_83 : decode cX4_choose 83 = .ok (.aload_n 0, 1) := by decide +kernel
theorem dX4_choose_84 : decode cX4_choose 84 = .ok (.getfield 16, 3) := by decide +kernel
theorem dX4_choose_87 : decode cX4_choose 87 = .ok (.iload 4, 2) := by decide +kernel
theorem dX4_choose_89 : decode cX4_choose 89 = .ok (.iload 7, 2) := by decide +kernel
theorem dX4_choose_91 : decode cX4_choose 91 = .ok (.iastore, 1) := by decide +kernel
theorem dX4_choose_92 : decode cX4_choose 92 = .ok (.goto 9, 3) := by decide +kernel
theorem dX4_choose_95 : decode cX4_choose 95 = .ok (.iinc 7 (-1), 3) := by decide +kernel
theorem dX4_choose_98 : decode cX4_choose 98 = .ok (.goto (-38), 3) := by decide +kernel
theorem dX4_choose_101 : decode cX4_choose 101 = .ok (.iload_n 3, 1) := by decide +kernel
theorem dX4_choose_102 : decode cX4_choose 102 = .ok (.aload_n 0, 1) := by decide +kernel
theorem dX4_choose_103 : decode cX4_choose 103 = .ok (.getfield 16, 3) := by decide +kernel
theorem dX4_choose_106 : decode cX4_choose 106 = .ok (.iload 4, 2) := by decide +kernel
theorem dX4_choose_108 : decode cX4_choose 108 = .ok (.iaload, 1) := by decide +kernel
theorem dX4_choose_109 : decode cX4_choose 109 = .ok (.iload 5, 2) := by decide +kernel
theorem dX4_choose_111 : decode cX4_choose 111 = .ok (.imul, 1) := by decide +kernel
theorem dX4_choose_112 : decode cX4_choose 112 = .ok (.isub, 1) := by decide +kernel
theorem dX4_choose_113 : decode cX4_choose 113 = .ok (.istore_n 3, 1) := by decide +kernel
theorem dX4_choose_114 : decode cX4_choose 114 = .ok (.iinc 4 (-1), 3) := by decide +kernel
theorem dX4_choose_117 : decode cX4_choose 117 = .ok (.goto (-109), 3) := by decide +kernel
theorem dX4_choose_120 : decode cX4_choose 120 = .ok (.return_, 1) := by decide +kernel
set_option maxRecDepth 20000 in
theorem ggX4_takeFrom_X6_takeOldest : GoodIn wsX4_takeFrom wsX6_takeOldest := goodIn_r _ [6, 7, 8, 9, 10, 11, 12, 16, 17, 18] (by decide +kernel) (by decide +kernel)
set_option maxRecDepth 20000 in
theorem gX4_takeFrom_X6_takeOldest : GoodIn wsX4_takeFrom (wsV RX4 53 RX6 yX6_takeOldest wsX6_takeOldest) := goodIn_app (goodIn_of _ (by decide +kernel)) ggX4_takeFrom_X6_takeOldest
theorem dX4_takeFrom_0 : decode cX4_takeFrom 0 = .ok (.iconst 0, 1) := by decide +kernel
theorem dX4_takeFrom_1 : decode cX4_takeFrom 1 = .ok (.istore_n 2, 1) := by decide +kernel
theorem dX4_takeFrom_2 : decode cX4_takeFrom 2 = .ok (.iload_n 2, 1) := by decide +kernel
theorem dX4_takeFrom_3 : decode cX4_takeFrom 3 = .ok (.iconst 5, 1) := by decide +kernel
theorem dX4_takeFrom_4 : decode cX4_takeFrom 4 = .ok (.if_icmp .ge 21, 3) := by decide +kernel
theorem dX4_takeFrom_7 : decode cX4_takeFrom 7 = .ok (.aload_n 1, 1) := by decide +kernel
theorem dX4_takeFrom_8 : decode cX4_takeFrom 8 = .ok (.iload_n 2, 1) := by decide +kernel
theorem dX4_takeFrom_9 : decode cX4_takeFrom 9 = .ok (.aload_n 0, 1) := by decide +kernel
theorem dX4_takeFrom_10 : decode cX4_takeFrom 10 = .ok (.getfield 16, 3) := by decide +kernel
theorem dX4_takeFrom_13 : decode cX4_takeFrom 13 = .ok (.iload_n 2, 1) := by decide +kernel
theorem dX4_takeFrom_14 : decode cX4_takeFrom 14 = .ok (.iaload, 1) := by decide +kernel
theorem dX4_takeFrom_15 : decode cX4_takeFrom 15 = .ok (.i2l, 1) := by decide +kernel
theorem dX4_takeFrom_16 : decode cX4_takeFrom 16 = .ok (.invokevirtual 53, 3) := by decide +kernel
theorem dX4_takeFrom_19 : decode cX4_takeFrom 19 = .ok (.iinc 2 1, 3) := by decide +kernel
theorem dX4_takeFrom_22 : decode cX4_takeFrom 22 = .ok (.goto (-20), 3) := by decide +kernel
theorem dX4_takeFrom_25 : decode cX4_takeFrom 25 = .ok (.return_, 1) := by decide +kernel
theorem dX5_init_0 : decode cX5_init 0 = .ok (.aload_n 0, 1) := by decide +kernel
theorem dX5_init_1 : decode cX5_init 1 = .ok (.invokespecial 3, 3) := by decide +kernel
theorem dX5_init_4 : decode cX5_init 4 = .ok (.aload_n 0, 1) := by decide +kernel
theorem dX5_init_5 : decode cX5_init 5 = .ok (.sipush 200, 3) := by decide +kernel
theorem dX5_init_8 : decode cX5_init 8 = .ok (.newarray .int, 2) := by decide +kernel
theorem dX5_init_10 : decode cX5_init 10 = .ok (.putfield 11, 3) := by decide +kernel
theorem dX5_init_13 : decode cX5_init 13 = .ok (.aload_n 0, 1) := by decide +kernel
theorem dX5_init_14 : decode cX5_init 14 = .ok (.sipush 201, 3) := by decide +kernel
theorem dX5_init_17 : decode cX5_init 17 = .ok (.newarray .int, 2) := by decide +kernel
theorem dX5_init_19 : decode cX5_init 19 = .ok (.putfield 15, 3) := by decide +kernel
theorem dX5_init_22 : decode cX5_init 22 = .ok (.aload_n 0, 1) := by decide +kernel
theorem dX5_init_23 : decode cX5_init 23 = .ok (.sipush 201, 3) := by decide +kernel
theorem dX5_init_26 : decode cX5_init 26 = .ok (.newarray .int, 2) := by decide +kernel
theorem dX5_init_28 : decode cX5_init 28 = .ok (.putfield 18, 3) := by decide +kernel
theorem dX5_init_31 : decode cX5_init 31 = .ok (.aload_n 0, 1) := by decide +kernel
theorem dX5_init_32 : decode cX5_init 32 = .ok (.sipush 201, 3) := by decide +kernel
theorem dX5_init_35 : decode cX5_init 35 = .ok (.newarray .int, 2) := by decide +kernel
theorem dX5_init_37 : decode cX5_init 37 = .ok (.putfield 21, 3) := by decide +kernel
theorem dX5_init_40 : decode cX5_init 40 = .ok (.return_, 1) := by decide +kernel
theorem dX5_letters_0 : decode cX5_letters 0 = .ok (.aload_n 0, 1) := by decide +kernel
theorem dX5_letters_1 : decode cX5_letters 1 = .ok (.getfield 24, 3) := by decide +kernel
theorem dX5_letters_4 : decode cX5_letters 4 = .ok (.ireturn, 1) := by decide +kernel
theorem dX5_add_0 : decode cX5_add 0 = .ok (.aload_n 0, 1) := by decide +kernel
theorem dX5_add_1 : decode cX5_add 1 = .ok (.getfield 24, 3) := by decide +kernel
theorem dX5_add_4 : decode cX5_add 4 = .ok (.sipush 200, 3) := by decide +kernel
theorem dX5_add_7 : decode cX5_add 7 = .ok (.if_icmp .lt 5, 3) := by decide +kernel
theorem dX5_add_10 : decode cX5_add 10 = .ok (.iconst 0, 1) := by decide +kernel
theorem dX5_add_11 : decode cX5_add 11 = .ok (.ireturn, 1) := by decide +kernel
theorem dX5_add_12 : decode cX5_add 12 = .ok (.aload_n 0, 1) := by decide +kernel
theorem dX5_add_13 : decode cX5_add 13 = .ok (.getfield 11, 3) := by decide +kernel
theorem dX5_add_16 : decode cX5_add 16 = .ok (.aload_n 0, 1) := by decide +kernel
theorem dX5_add_17 : decode cX5_add 17 = .ok (.getfield 24, 3) := by decide +kernel
theorem dX5_add_20 : decode cX5_add 20 = .ok (.iload_n 1, 1) := by decide +kernel
theorem dX5_add_21 : decode cX5_add 21 = .ok (.iastore, 1) := by decide +kernel
theorem dX5_add_22 : decode cX5_add 22 = .ok (.aload_n 0, 1) := by decide +kernel
theorem dX5_add_23 : decode cX5_add 23 = .ok (.dup, 1) := by decide +kernel
theorem dX5_add_24 : decode cX5_add 24 = .ok (.getfield 24, 3) := by decide +kernel
theorem dX5_add_27 : decode cX5_add 27 = .ok (.iconst 1, 1) := by decide +kernel
theorem dX5_add_28 : decode cX5_add 28 = .ok (.iadd, 1) := by decide +kernel
theorem dX5_add_29 : decode cX5_add 29 = .ok (.putfield 24, 3) := by decide +kernel
theorem dX5_add_32 : decode cX5_add 32 = .ok (.iconst 1, 1) := by decide +kernel
theorem dX5_add_33 : decode cX5_add 33 = .ok (.ireturn, 1) := by decide +kernel
theorem dX5_wipe_0 : decode cX5_wipe 0 = .ok (.aload_n 0, 1) := by decide +kernel
theorem dX5_wipe_1 : decode cX5_wipe 1 = .ok (.getfield 24, 3) := by decide +kernel
theorem dX5_wipe_4 : decode cX5_wipe 4 = .ok (.istore_n 1, 1) := by decide +kernel
theorem dX5_wipe_5 : decode cX5_wipe 5 = .ok (.aload_n 0, 1) := by decide +kernel
theorem dX5_wipe_6 : decode cX5_wipe 6 = .ok (.iconst 0, 1) := by decide +kernel
theorem dX5_wipe_7 : decode cX5_wipe 7 = .ok (.putfield 24, 3) := by decide +kernel
theorem dX5_wipe_10 : decode cX5_wipe 10 = .ok (.iload_n 1, 1) := by decide +kernel
theorem dX5_wipe_11 : decode cX5_wipe 11 = .ok (.ireturn, 1) := by decide +kernel
set_option maxRecDepth 20000 in
theorem ggX5_readInto_X5_cut : GoodIn wsX5_readInto wsX5_cut := goodIn_r _ [12, 13, 14, 15, 16, 11, 17, 18, 19, 20, 21, 22, 23, 24, 25, 26, 5, 27, 28, 29, 30, 7, 31, 32, 33, 96, 97, 98, 99, 100, 101, 102, 103, 104, 105] (by decide +kernel) (by decide +kernel)
set_option maxRecDepth 20000 in
theorem gX5_readInto_X5_cut : GoodIn wsX5_readInto (wsV RX5 28 RX5 yX5_cut wsX5_cut) := goodIn_app (goodIn_of _ (by decide +kernel)) ggX5_readInto_X5_cut
set_option maxRecDepth 20000 in
theorem ggX5_readInto_X2_becomeAsAtFirst : GoodIn wsX5_readInto wsX2_becomeAsAtFirst := goodIn_r _ [38, 39, 40, 41, 42, 43, 44, 45, 106, 107, 108, 109, 110, 111, 112, 113, 114, 115, 116] (by decide +kernel) (by decide +kernel)
set_option maxRecDepth 20000 in
theorem gX5_readInto_X2_becomeAsAtFirst : GoodIn wsX5_readInto (wsV RX5 31 RX2 yX2_becomeAsAtFirst wsX2_becomeAsAtFirst) := goodIn_app (goodIn_of _ (by decide +kernel)) ggX5_readInto_X2_becomeAsAtFirst
set_option maxRecDepth 20000 in
theorem ggX5_readInto_X5_readItem : GoodIn wsX5_readInto wsX5_readItem := goodIn_r _ [49, 5, 1, 6, 50, 51, 52, 11, 53, 2, 54, 55, 56, 57, 58, 59, 60, 61, 62, 63, 64, 22, 65, 66, 67, 68, 69, 70, 71, 3, 72, 73, 74, 75, 76, 77, 4, 78, 79, 80, 81, 82, 83, 84, 85, 86, 37, 87, 45, 88, 89, 96, 97, 98, 99, 100, 101, 102, 103, 104, 105, 106, 107, 108, 109, 110, 111, 112, 113, 114, 115, 116] (by decide +kernel) (by decide +kernel)
set_option maxRecDepth 20000 in
theorem gX5_readInto_X5_readItem : GoodIn wsX5_readInto (wsV RX5 49 RX5 yX5_readItem wsX5_readItem) := goodIn_app (goodIn_of _ (by decide +kernel)) ggX5_readInto_X5_readItem
set_option maxRecDepth 20000 in
theorem ggX5_readInto_X2_workOut : GoodIn wsX5_readInto wsX2_workOut := goodIn_r _ [93, 39, 94, 95, 41, 42, 44, 43, 106, 107, 108, 109, 110, 111, 112, 113, 114, 115, 116] (by decide +kernel) (by decide +kernel)
set_option maxRecDepth 20000 in
theorem gX5_readInto_X2_workOut : GoodIn wsX5_readInto (wsV RX5 56 RX2 yX2_workOut wsX2_workOut) := goodIn_app (goodIn_of _ (by decide +kernel)) ggX5_readInto_X2_workOut
theorem dX5_readInto_0 : decode cX5_readInto 0 = .ok (.aload_n 0, 1) := by decide +kernel
theorem dX5_readInto_1 : decode cX5_readInto 1 = .ok (.invokevirtual 28, 3) := by decide +kernel
theorem dX5_readInto_4 : decode cX5_readInto 4 = .ok (.aload_n 1, 1) := by decide +kernel
theorem dX5_readInto_5 : decode cX5_readInto 5 = .ok (.invokevirtual 31, 3) := by decide +kernel
theorem dX5_readInto_8 : decode cX5_readInto 8 = .ok (.aload_n 0, 1) := by decide +kernel
theorem dX5_readInto_9 : decode cX5_readInto 9 = .ok (.iconst 0, 1) := by decide +kernel
theorem dX5_readInto_10 : decode cX5_readInto 10 = .ok (.putfield 36, 3) := by decide +kernel
theorem dX5_readInto_13 : decode cX5_readInto 13 = .ok (.aload_n 0, 1) := by decide +kernel
theorem dX5_readInto_14 : decode cX5_readInto 14 = .ok (.iconst 0, 1) := by decide +kernel
theorem dX5_readInto_15 : decode cX5_readInto 15 = .ok (.putfield 39, 3) := by decide +kernel
theorem dX5_readInto_18 : decode cX5_readInto 18 = .ok (.aload_n 0, 1) := by decide +kernel
theorem dX5_readInto_19 : decode cX5_readInto 19 = .ok (.iconst 0, 1) := by decide +kernel
theorem dX5_readInto_20 : decode cX5_readInto 20 = .ok (.putfield 43, 3) := by decide +kernel
theorem dX5_readInto_23 : decode cX5_readInto 23 = .ok (.aload_n 0, 1) := by decide +kernel
theorem dX5_readInto_24 : decode cX5_readInto 24 = .ok (.iconst 0, 1) := by decide +kernel
theorem dX5_readInto_25 : decode cX5_readInto 25 = .ok (.putfield 46, 3) := by decide +kernel
theorem dX5_readInto_28 : decode cX5_readInto 28 = .ok (.iconst 0, 1) := by decide +kernel
theorem dX5_readInto_29 : decode cX5_readInto 29 = .ok (.istore_n 2, 1) := by decide +kernel
theorem dX5_readInto_30 : decode cX5_readInto 30 = .ok (.iload_n 2, 1) := by decide +kernel
theorem dX5_readInto_31 : decode cX5_readInto 31 = .ok (.sipush 200, 3) := by decide +kernel
theorem dX5_readInto_34 : decode cX5_readInto 34 = .ok (.if_icmp .ge 47, 3) := by decide +kernel
theorem dX5_readInto_37 : decode cX5_readInto 37 = .ok (.aload_n 0, 1) := by decide +kernel
theorem dX5_readInto_38 : decode cX5_readInto 38 = .ok (.getfield 15, 3) := by decide +kernel
theorem dX5_readInto_41 : decode cX5_readInto 41 = .ok (.aload_n 0, 1) := by decide +kernel
theorem dX5_readInto_42 : decode cX5_readInto 42 = .ok (.getfield 36, 3) := by decide +kernel
theorem dX5_readInto_45 : decode cX5_readInto 45 = .ok (.iaload, 1) := by decide +kernel
theorem dX5_readInto_46 : decode cX5_readInto 46 = .ok (.iconst (-1), 1) := by decide +kernel
theorem dX5_readInto_47 : decode cX5_readInto 47 = .ok (.if_icmp .eq 34, 3) := by decide +kernel
theorem dX5_readInto_50 : decode cX5_readInto 50 = .ok (.aload_n 0, 1) := by decide +kernel
theorem dX5_readInto_51 : decode cX5_readInto 51 = .ok (.aload_n 1, 1) := by decide +kernel
theorem dX5_readInto_52 : decode cX5_readInto 52 = .ok (.invokevirtual 49, 3) := by decide +kernel
theorem dX5_readInto_55 : decode cX5_readInto 55 = .ok (.aload_n 0, 1) := by decide +kernel
theorem dX5_readInto_56 : decode cX5_readInto 56 = .ok (.getfield 53, 3) := by decide +kernel
theorem dX5_readInto_59 : decode cX5_readInto 59 = .ok (.ifCond .eq 16, 3) := by decide +kernel
theorem dX5_readInto_62 : decode cX5_readInto 62 = .ok (.bipush (-10), 2) := by decide +kernel
theorem dX5_readInto_64 : decode cX5_readInto 64 = .ok (.aload_n 0, 1) := by decide +kernel
theorem dX5_readInto_65 : decode cX5_readInto 65 = .ok (.getfield 18, 3) := by decide +kernel
theorem dX5_readInto_68 : decode cX5_readInto 68 = .ok (.aload_n 0, 1) := by decide +kernel
theorem dX5_readInto_69 : decode cX5_readInto 69 = .ok (.getfield 36, 3) := by decide +kernel
theorem dX5_readInto_72 : decode cX5_readInto 72 = .ok (.iaload, 1) := by decide +kernel
theorem dX5_readInto_73 : decode cX5_readInto 73 = .ok (.isub, 1) := by decide +kernel
theorem dX5_readInto_74 : decode cX5_readInto 74 = .ok (.ireturn, 1) := by decide +kernel
theorem dX5_readInto_75 : decode cX5_readInto 75 = .ok (.iinc 2 1, 3) := by decide +kernel
theorem dX5_readInto_78 : decode cX5_readInto 78 = .ok (.goto (-48), 3) := by decide +kernel
theorem dX5_readInto_81 : decode cX5_readInto 81 = .ok (.aload_n 1, 1) := by decide +kernel
theorem dX5_readInto_82 : decode cX5_readInto 82 = .ok (.invokevirtual 56, 3) := by decide +kernel
theorem dX5_readInto_85 : decode cX5_readInto 85 = .ok (.iload_n 2, 1) := by decide +kernel
theorem dX5_readInto_86 : decode cX5_readInto 86 = .ok (.ireturn, 1) := by decide +kernel
set_option maxRecDepth 20000 in
theorem ggX5_readItem_X5_readRing : GoodIn wsX5_readItem wsX5_readRing := goodIn_r _ [8, 9, 3, 10, 11, 12, 13, 14, 15, 7, 16, 1, 2, 17, 18, 19, 20, 21, 22, 23, 24, 51, 52, 53, 54, 55, 56, 57, 58, 59, 60, 61, 62, 63, 64, 65, 66, 67, 68, 69, 70, 71] (by decide +kernel) (by decide +kernel)
set_option maxRecDepth 20000 in
theorem gX5_readItem_X5_readRing : GoodIn wsX5_readItem (wsV RX5 59 RX5 yX5_readRing wsX5_readRing) := goodIn_app (goodIn_of _ (by decide +kernel)) ggX5_readItem_X5_readRing
set_option maxRecDepth 20000 in
theorem ggX5_readItem_X5_readLess : GoodIn wsX5_readItem wsX5_readLess := goodIn_r _ [28, 29, 3, 30, 31, 13, 14, 15, 7, 16, 1, 2, 17, 18, 19, 20, 21, 22, 23, 24, 51, 52, 53, 54, 55, 56, 57, 58, 59, 60, 61, 62, 63, 64, 65, 66, 67, 68, 69, 70, 71] (by decide +kernel) (by decide +kernel)
set_option maxRecDepth 20000 in
theorem gX5_readItem_X5_readLess : GoodIn wsX5_readItem (wsV RX5 62 RX5 yX5_readLess wsX5_readLess) := goodIn_app (goodIn_of _ (by decide +kernel)) ggX5_readItem_X5_readLess
set_option maxRecDepth 20000 in
theorem ggX5_readItem_X5_readLater : GoodIn wsX5_readItem wsX5_readLater := goodIn_r _ [35, 36, 3, 37, 13, 14, 15, 7, 16, 1, 2, 17, 18, 19, 20, 21, 22, 23, 24, 51, 52, 53, 54, 55, 56, 57, 58, 59, 60, 61, 62, 63, 64, 65, 66, 67, 68, 69, 70, 71] (by decide +kernel) (by decide +kernel)
set_option maxRecDepth 20000 in
theorem gX5_readItem_X5_readLater : GoodIn wsX5_readItem (wsV RX5 65 RX5 yX5_readLater wsX5_readLater) := goodIn_app (goodIn_of _ (by decide +kernel)) ggX5_readItem_X5_readLater
set_option maxRecDepth 20000 in
theorem ggX5_readItem_X5_readDue : GoodIn wsX5_readItem wsX5_readDue := goodIn_r _ [41, 42, 3, 13, 14, 15, 7, 16, 1, 2, 17, 18, 19, 20, 21, 22, 23, 24, 43, 44, 45, 46, 47, 48, 49, 50, 61, 62, 63, 64, 65, 66, 67, 68, 69, 70, 71, 51, 52, 53, 54, 55, 56, 57, 58, 59, 60] (by decide +kernel) (by decide +kernel)
set_option maxRecDepth 20000 in
theorem gX5_readItem_X5_readDue : GoodIn wsX5_readItem (wsV RX5 68 RX5 yX5_readDue wsX5_readDue) := goodIn_app (goodIn_of _ (by decide +kernel)) ggX5_readItem_X5_readDue
set_option maxRecDepth 20000 in
theorem ggX5_readItem_X5_pass : GoodIn wsX5_readItem wsX5_pass := goodIn_r _ [16, 3, 1, 2, 51, 52, 53, 54, 55, 56, 57, 58, 59, 60] (by decide +kernel) (by decide +kernel)
set_option maxRecDepth 20000 in
theorem gX5_readItem_X5_pass : GoodIn wsX5_readItem (wsV RX5 71 RX5 yX5_pass wsX5_pass) := goodIn_app (goodIn_of _ (by decide +kernel)) ggX5_readItem_X5_pass
theorem dX5_readItem_0 : decode cX5_readItem 0 = .ok (.aload_n 0, 1) := by decide +kernel
theorem dX5_readItem_1 : decode cX5_readItem 1 = .ok (.getfield 15, 3) := by decide +kernel
theorem dX5_readItem_4 : decode cX5_readItem 4 = .ok (.aload_n 0, 1) := by decide +kernel
theorem dX5_readItem_5 : decode cX5_readItem 5 = .ok (.getfield 36, 3) := by decide +kernel
theorem dX5_readItem_8 : decode cX5_readItem 8 = .ok (.iaload, 1) := by decide +kernel
theorem dX5_readItem_9 : decode cX5_readItem 9 = .ok (.tableswitch 83 108 116 #[59, 83, 83, 83, 75, 83, 51, 83, 67], 51) := by decide +kernel
theorem dX5_readItem_60 : decode cX5_readItem 60 = .ok (.aload_n 0, 1) := by decide +kernel
theorem dX5_readItem_61 : decode cX5_readItem 61 = .ok (.aload_n 1, 1) := by decide +kernel
theorem dX5_readItem_62 : decode cX5_readItem 62 = .ok (.invokevirtual 59, 3) := by decide +kernel
theorem dX5_readItem_65 : decode cX5_readItem 65 = .ok (.goto 32, 3) := by decide +kernel
theorem dX5_readItem_68 : decode cX5_readItem 68 = .ok (.aload_n 0, 1) := by decide +kernel
theorem dX5_readItem_69 : decode cX5_readItem 69 = .ok (.aload_n 1, 1) := by decide +kernel
theorem dX5_readItem_70 : decode cX5_readItem 70 = .ok (.invokevirtual 62, 3) := by decide +kernel
theorem dX5_readItem_73 : decode cX5_readItem 73 = .ok (.goto 24, 3) := by decide +kernel
theorem dX5_readItem_76 : decode cX5_readItem 76 = .ok (.aload_n 0, 1) := by decide +kernel
theorem dX5_readItem_77 : decode cX5_readItem 77 = .ok (.aload_n 1, 1) := by decide +kernel
theorem dX5_readItem_78 : decode cX5_readItem 78 = .ok (.invokevirtual 65, 3) := by decide +kernel
theorem dX5_readItem_81 : decode cX5_readItem 81 = .ok (.goto 16, 3) := by decide +kernel
theorem dX5_readItem_84 : decode cX5_readItem 84 = .ok (.aload_n 0, 1) := by decide +kernel
theorem dX5_readItem_85 : decode cX5_readItem 85 = .ok (.aload_n 1, 1) := by decide +kernel
theorem dX5_readItem_86 : decode cX5_readItem 86 = .ok (.invokevirtual 68, 3) := by decide +kernel
theorem dX5_readItem_89 : decode cX5_readItem 89 = .ok (.goto 8, 3) := by decide +kernel
theorem dX5_readItem_92 : decode cX5_readItem 92 = .ok (.aload_n 0, 1) := by decide +kernel
theorem dX5_readItem_93 : decode cX5_readItem 93 = .ok (.iconst 1, 1) := by decide +kernel
theorem dX5_readItem_94 : decode cX5_readItem 94 = .ok (.putfield 53, 3) := by decide +kernel
theorem dX5_readItem_97 : decode cX5_readItem 97 = .ok (.aload_n 0, 1) := by decide +kernel
theorem dX5_readItem_98 : decode cX5_readItem 98 = .ok (.bipush 59, 2) := by decide +kernel
theorem dX5_readItem_100 : decode cX5_readItem 100 = .ok (.invokevirtual 71, 3) := by decide +kernel
theorem dX5_readItem_103 : decode cX5_readItem 103 = .ok (.return_, 1) := by decide +kernel
set_option maxRecDepth 20000 in
theorem ggX5_readRing_X5_pass : GoodIn wsX5_readRing wsX5_pass := goodIn_r _ [10, 2, 11, 12, 21, 22, 23, 24, 25, 26, 27, 28, 29, 30] (by decide +kernel) (by decide +kernel)
set_option maxRecDepth 20000 in
theorem gX5_readRing_X5_pass : GoodIn wsX5_readRing (wsV RX5 71 RX5 yX5_pass wsX5_pass) := goodIn_app (goodIn_of _ (by decide +kernel)) ggX5_readRing_X5_pass
set_option maxRecDepth 20000 in
theorem ggX5_readRing_X5_readNumber : GoodIn wsX5_readRing wsX5_readNumber := goodIn_r _ [16, 17, 12, 2, 18, 19, 20, 6, 7, 8, 9, 10, 11, 21, 22, 23, 24, 25, 26, 27, 28, 29, 30] (by decide +kernel) (by decide +kernel)
set_option maxRecDepth 20000 in
theorem gX5_readRing_X5_readNumber : GoodIn wsX5_readRing (wsV RX5 75 RX5 yX5_readNumber wsX5_readNumber) := goodIn_app (goodIn_of _ (by decide +kernel)) ggX5_readRing_X5_readNumber
theorem dX5_readRing_0 : decode cX5_readRing 0 = .ok (.aload_n 0, 1) := by decide +kernel
theorem dX5_readRing_1 : decode cX5_readRing 1 = .ok (.aload_n 0, 1) := by decide +kernel
theorem dX5_readRing_2 : decode cX5_readRing 2 = .ok (.getfield 39, 3) := by decide +kernel
theorem dX5_readRing_5 : decode cX5_readRing 5 = .ok (.putfield 53, 3) := by decide +kernel
theorem dX5_readRing_8 : decode cX5_readRing 8 = .ok (.aload_n 0, 1) := by decide +kernel
theorem dX5_readRing_9 : decode cX5_readRing 9 = .ok (.iconst 1, 1) := by decide +kernel
theorem dX5_readRing_10 : decode cX5_readRing 10 = .ok (.putfield 39, 3) := by decide +kernel
theorem dX5_readRing_13 : decode cX5_readRing 13 = .ok (.aload_n 0, 1) := by decide +kernel
theorem dX5_readRing_14 : decode cX5_readRing 14 = .ok (.bipush 114, 2) := by decide +kernel
theorem dX5_readRing_16 : decode cX5_readRing 16 = .ok (.invokevirtual 71, 3) := by decide +kernel
theorem dX5_readRing_19 : decode cX5_readRing 19 = .ok (.aload_n 1, 1) := by decide +kernel
theorem dX5_readRing_20 : decode cX5_readRing 20 = .ok (.aload_n 0, 1) := by decide +kernel
theorem dX5_readRing_21 : decode cX5_readRing 21 = .ok (.iconst 1, 1) := by decide +kernel
theorem dX5_readRing_22 : decode cX5_readRing 22 = .ok (.bipush 99, 2) := by decide +kernel
theorem dX5_readRing_24 : decode cX5_readRing 24 = .ok (.invokevirtual 75, 3) := by decide +kernel
theorem dX5_readRing_27 : decode cX5_readRing 27 = .ok (.putfield 79, 3) := by decide +kernel
theorem dX5_readRing_30 : decode cX5_readRing 30 = .ok (.aload_n 1, 1) := by decide +kernel
theorem dX5_readRing_31 : decode cX5_readRing 31 = .ok (.aload_n 0, 1) := by decide +kernel
theorem dX5_readRing_32 : decode cX5_readRing 32 = .ok (.iconst 1, 1) := by decide +kernel
theorem dX5_readRing_33 : decode cX5_readRing 33 = .ok (.bipush 9, 2) := by decide +kernel
theorem dX5_readRing_35 : decode cX5_readRing 35 = .ok (.invokevirtual 75, 3) := by decide +kernel
theorem dX5_readRing_38 : decode cX5_readRing 38 = .ok (.putfield 82, 3) := by decide +kernel
theorem dX5_readRing_41 : decode cX5_readRing 41 = .ok (.aload_n 1, 1) := by decide +kernel
theorem dX5_readRing_42 : decode cX5_readRing 42 = .ok (.aload_n 0, 1) := by decide +kernel
theorem dX5_readRing_43 : decode cX5_readRing 43 = .ok (.iconst 1, 1) := by decide +kernel
theorem dX5_readRing_44 : decode cX5_readRing 44 = .ok (.bipush 20, 2) := by decide +kernel
theorem dX5_readRing_46 : decode cX5_readRing 46 = .ok (.invokevirtual 75, 3) := by decide +kernel
theorem dX5_readRing_49 : decode cX5_readRing 49 = .ok (.putfield 85, 3) := by decide +kernel
theorem dX5_readRing_52 : decode cX5_readRing 52 = .ok (.return_, 1) := by decide +kernel
set_option maxRecDepth 20000 in
theorem ggX5_readLess_X5_pass : GoodIn wsX5_readLess wsX5_pass := goodIn_r _ [9, 2, 10, 11, 20, 21, 22, 23, 24, 25, 26, 27, 28, 29] (by decide +kernel) (by decide +kernel)
set_option maxRecDepth 20000 in
theorem gX5_readLess_X5_pass : GoodIn wsX5_readLess (wsV RX5 71 RX5 yX5_pass wsX5_pass) := goodIn_app (goodIn_of _ (by decide +kernel)) ggX5_readLess_X5_pass
set_option maxRecDepth 20000 in
theorem ggX5_readLess_X5_readNumber : GoodIn wsX5_readLess wsX5_readNumber := goodIn_r _ [15, 16, 11, 2, 17, 18, 19, 5, 6, 7, 8, 9, 10, 20, 21, 22, 23, 24, 25, 26, 27, 28, 29] (by decide +kernel) (by decide +kernel)
set_option maxRecDepth 20000 in
theorem gX5_readLess_X5_readNumber : GoodIn wsX5_readLess (wsV RX5 75 RX5 yX5_readNumber wsX5_readNumber) := goodIn_app (goodIn_of _ (by decide +kernel)) ggX5_readLess_X5_readNumber
theorem dX5_readLess_0 : decode cX5_readLess 0 = .ok (.aload_n 0, 1) := by decide +kernel
theorem dX5_readLess_1 : decode cX5_readLess 1 = .ok (.aload_n 0, 1) := by decide +kernel
theorem dX5_readLess_2 : decode cX5_readLess 2 = .ok (.getfield 43, 3) := by decide +kernel
theorem dX5_readLess_5 : decode cX5_readLess 5 = .ok (.putfield 53, 3) := by decide +kernel
theorem dX5_readLess_8 : decode cX5_readLess 8 = .ok (.aload_n 0, 1) := by decide +kernel
theorem dX5_readLess_9 : decode cX5_readLess 9 = .ok (.iconst 1, 1) := by decide +kernel
theorem dX5_readLess_10 : decode cX5_readLess 10 = .ok (.putfield 43, 3) := by decide +kernel
theorem dX5_readLess_13 : decode cX5_readLess 13 = .ok (.aload_n 0, 1) := by decide +kernel
theorem dX5_readLess_14 : decode cX5_readLess 14 = .ok (.bipush 108, 2) := by decide +kernel
theorem dX5_readLess_16 : decode cX5_readLess 16 = .ok (.invokevirtual 71, 3) := by decide +kernel
theorem dX5_readLess_19 : decode cX5_readLess 19 = .ok (.aload_n 1, 1) := by decide +kernel
theorem dX5_readLess_20 : decode cX5_readLess 20 = .ok (.aload_n 0, 1) := by decide +kernel
theorem dX5_readLess_21 : decode cX5_readLess 21 = .ok (.iconst 1, 1) := by decide +kernel
theorem dX5_readLess_22 : decode cX5_readLess 22 = .ok (.bipush 8, 2) := by decide +kernel
theorem dX5_readLess_24 : decode cX5_readLess 24 = .ok (.invokevirtual 75, 3) := by decide +kernel
theorem dX5_readLess_27 : decode cX5_readLess 27 = .ok (.putfield 88, 3) := by decide +kernel
theorem dX5_readLess_30 : decode cX5_readLess 30 = .ok (.aload_n 1, 1) := by decide +kernel
theorem dX5_readLess_31 : decode cX5_readLess 31 = .ok (.aload_n 0, 1) := by decide +kernel
theorem dX5_readLess_32 : decode cX5_readLess 32 = .ok (.aload_n 1, 1) := by decide +kernel
theorem dX5_readLess_33 : decode cX5_readLess 33 = .ok (.getfield 88, 3) := by decide +kernel
theorem dX5_readLess_36 : decode cX5_readLess 36 = .ok (.iconst 1, 1) := by decide +kernel
theorem dX5_readLess_37 : decode cX5_readLess 37 = .ok (.iadd, 1) := by decide +kernel
theorem dX5_readLess_38 : decode cX5_readLess 38 = .ok (.bipush 9, 2) := by decide +kernel
theorem dX5_readLess_40 : decode cX5_readLess 40 = .ok (.invokevirtual 75, 3) := by decide +kernel
theorem dX5_readLess_43 : decode cX5_readLess 43 = .ok (.putfield 91, 3) := by decide +kernel
theorem dX5_readLess_46 : decode cX5_readLess 46 = .ok (.return_, 1) := by decide +kernel
set_option maxRecDepth 20000 in
theorem ggX5_readLater_X5_pass : GoodIn wsX5_readLater wsX5_pass := goodIn_r _ [8, 2, 9, 10, 19, 20, 21, 22, 23, 24, 25, 26, 27, 28] (by decide +kernel) (by decide +kernel)
set_option maxRecDepth 20000 in
theorem gX5_readLater_X5_pass : GoodIn wsX5_readLater (wsV RX5 71 RX5 yX5_pass wsX5_pass) := goodIn_app (goodIn_of _ (by decide +kernel)) ggX5_readLater_X5_pass
set_option maxRecDepth 20000 in
theorem ggX5_readLater_X5_readNumber : GoodIn wsX5_readLater wsX5_readNumber := goodIn_r _ [14, 15, 10, 2, 16, 17, 18, 4, 5, 6, 7, 8, 9, 19, 20, 21, 22, 23, 24, 25, 26, 27, 28] (by decide +kernel) (by decide +kernel)
set_option maxRecDepth 20000 in
theorem gX5_readLater_X5_readNumber : GoodIn wsX5_readLater (wsV RX5 75 RX5 yX5_readNumber wsX5_readNumber) := goodIn_app (goodIn_of _ (by decide +kernel)) ggX5_readLater_X5_readNumber
theorem dX5_readLater_0 : decode cX5_readLater 0 = .ok (.aload_n 0, 1) := by decide +kernel
theorem dX5_readLater_1 : decode cX5_readLater 1 = .ok (.aload_n 0, 1) := by decide +kernel
theorem dX5_readLater_2 : decode cX5_readLater 2 = .ok (.getfield 46, 3) := by decide +kernel
theorem dX5_readLater_5 : decode cX5_readLater 5 = .ok (.putfield 53, 3) := by decide +kernel
theorem dX5_readLater_8 : decode cX5_readLater 8 = .ok (.aload_n 0, 1) := by decide +kernel
theorem dX5_readLater_9 : decode cX5_readLater 9 = .ok (.iconst 1, 1) := by decide +kernel
theorem dX5_readLater_10 : decode cX5_readLater 10 = .ok (.putfield 46, 3) := by decide +kernel
theorem dX5_readLater_13 : decode cX5_readLater 13 = .ok (.aload_n 0, 1) := by decide +kernel
theorem dX5_readLater_14 : decode cX5_readLater 14 = .ok (.bipush 116, 2) := by decide +kernel
theorem dX5_readLater_16 : decode cX5_readLater 16 = .ok (.invokevirtual 71, 3) := by decide +kernel
theorem dX5_readLater_19 : decode cX5_readLater 19 = .ok (.aload_n 1, 1) := by decide +kernel
theorem dX5_readLater_20 : decode cX5_readLater 20 = .ok (.aload_n 0, 1) := by decide +kernel
theorem dX5_readLater_21 : decode cX5_readLater 21 = .ok (.iconst 0, 1) := by decide +kernel
theorem dX5_readLater_22 : decode cX5_readLater 22 = .ok (.bipush 9, 2) := by decide +kernel
theorem dX5_readLater_24 : decode cX5_readLater 24 = .ok (.invokevirtual 75, 3) := by decide +kernel
theorem dX5_readLater_27 : decode cX5_readLater 27 = .ok (.putfield 94, 3) := by decide +kernel
theorem dX5_readLater_30 : decode cX5_readLater 30 = .ok (.return_, 1) := by decide +kernel
set_option maxRecDepth 20000 in
theorem ggX5_readDue_X5_pass : GoodIn wsX5_readDue wsX5_pass := goodIn_r _ [7, 2, 8, 9, 37, 38, 39, 40, 41, 42, 43, 44, 45, 46] (by decide +kernel) (by decide +kernel)
set_option maxRecDepth 20000 in
theorem gX5_readDue_X5_pass : GoodIn wsX5_readDue (wsV RX5 71 RX5 yX5_pass wsX5_pass) := goodIn_app (goodIn_of _ (by decide +kernel)) ggX5_readDue_X5_pass
set_option maxRecDepth 20000 in
theorem ggX5_readDue_X5_readNumber : GoodIn wsX5_readDue wsX5_readNumber := goodIn_r _ [13, 14, 9, 2, 15, 16, 17, 3, 4, 5, 6, 7, 8, 37, 38, 39, 40, 41, 42, 43, 44, 45, 46] (by decide +kernel) (by decide +kernel)
set_option maxRecDepth 20000 in
theorem gX5_readDue_X5_readNumber : GoodIn wsX5_readDue (wsV RX5 75 RX5 yX5_readNumber wsX5_readNumber) := goodIn_app (goodIn_of _ (by decide +kernel)) ggX5_readDue_X5_readNumber
set_option maxRecDepth 20000 in
theorem ggX5_readDue_X2_addDue : GoodIn wsX5_readDue wsX2_addDue := goodIn_r _ [22, 23, 24, 25, 26, 27, 28, 29, 30, 31, 32, 33, 34, 35, 36] (by decide +kernel) (by decide +kernel)
set_option maxRecDepth 20000 in
theorem gX5_readDue_X2_addDue : GoodIn wsX5_readDue (wsV RX5 100 RX2 yX2_addDue wsX2_addDue) := goodIn_app (goodIn_of _ (by decide +kernel)) ggX5_readDue_X2_addDue
theorem dX5_readDue_0 : decode cX5_readDue 0 = .ok (.aload_n 0, 1) := by decide +kernel
theorem dX5_readDue_1 : decode cX5_readDue 1 = .ok (.aload_n 1, 1) := by decide +kernel
theorem dX5_readDue_2 : decode cX5_readDue 2 = .ok (.getfield 97, 3) := by decide +kernel
theorem dX5_readDue_5 : decode cX5_readDue 5 = .ok (.bipush 6, 2) := by decide +kernel
theorem dX5_readDue_7 : decode cX5_readDue 7 = .ok (.if_icmp .lt 7, 3) := by decide +kernel
theorem dX5_readDue_10 : decode cX5_readDue 10 = .ok (.iconst 1, 1) := by decide +kernel
theorem dX5_readDue_11 : decode cX5_readDue 11 = .ok (.goto 4, 3) := by decide +kernel
theorem dX5_readDue_14 : decode cX5_readDue 14 = .ok (.iconst 0, 1) := by decide +kernel
theorem dX5_readDue_15 : decode cX5_readDue 15 = .ok (.putfield 53, 3) := by decide +kernel
theorem dX5_readDue_18 : decode cX5_readDue 18 = .ok (.aload_n 0, 1) := by decide +kernel
theorem dX5_readDue_19 : decode cX5_readDue 19 = .ok (.bipush 112, 2) := by decide +kernel
theorem dX5_readDue_21 : decode cX5_readDue 21 = .ok (.invokevirtual 71, 3) := by decide +kernel
theorem dX5_readDue_24 : decode cX5_readDue 24 = .ok (.aload_n 0, 1) := by decide +kernel
theorem dX5_readDue_25 : decode cX5_readDue 25 = .ok (.iconst 1, 1) := by decide +kernel
theorem dX5_readDue_26 : decode cX5_readDue 26 = .ok (.bipush 120, 2) := by decide +kernel
theorem dX5_readDue_28 : decode cX5_readDue 28 = .ok (.invokevirtual 75, 3) := by decide +kernel
theorem dX5_readDue_31 : decode cX5_readDue 31 = .ok (.istore_n 2, 1) := by decide +kernel
theorem dX5_readDue_32 : decode cX5_readDue 32 = .ok (.aload_n 0, 1) := by decide +kernel
theorem dX5_readDue_33 : decode cX5_readDue 33 = .ok (.iconst 1, 1) := by decide +kernel
theorem dX5_readDue_34 : decode cX5_readDue 34 = .ok (.sipush 200, 3) := by decide +kernel
theorem dX5_readDue_37 : decode cX5_readDue 37 = .ok (.invokevirtual 75, 3) := by decide +kernel
theorem dX5_readDue_40 : decode cX5_readDue 40 = .ok (.istore_n 3, 1) := by decide +kernel
theorem dX5_readDue_41 : decode cX5_readDue 41 = .ok (.aload_n 1, 1) := by decide +kernel
theorem dX5_readDue_42 : decode cX5_readDue 42 = .ok (.iload_n 2, 1) := by decide +kernel
theorem dX5_readDue_43 : decode cX5_readDue 43 = .ok (.iload_n 3, 1) := by decide +kernel
theorem dX5_readDue_44 : decode cX5_readDue 44 = .ok (.invokevirtual 100, 3) := by decide +kernel
theorem dX5_readDue_47 : decode cX5_readDue 47 = .ok (.return_, 1) := by decide +kernel
set_option maxRecDepth 20000 in
theorem ggX5_readNumber_X7_isOutside : GoodIn wsX5_readNumber wsX7_isOutside := goodIn_r _ [6] (by decide +kernel) (by decide +kernel)
set_option maxRecDepth 20000 in
theorem gX5_readNumber_X7_isOutside_n104 : GoodIn wsX5_readNumber (wsX7_isOutside) := ggX5_readNumber_X7_isOutside
set_option maxRecDepth 20000 in
theorem ggX5_readNumber_X5_pass : GoodIn wsX5_readNumber wsX5_pass := goodIn_r _ [11, 3, 12, 2, 13, 14, 15, 16, 17, 18, 19, 20, 21, 22] (by decide +kernel) (by decide +kernel)
set_option maxRecDepth 20000 in
theorem gX5_readNumber_X5_pass : GoodIn wsX5_readNumber (wsV RX5 71 RX5 yX5_pass wsX5_pass) := goodIn_app (goodIn_of _ (by decide +kernel)) ggX5_readNumber_X5_pass
theorem dX5_readNumber_0 : decode cX5_readNumber 0 = .ok (.aload_n 0, 1) := by decide +kernel
theorem dX5_readNumber_1 : decode cX5_readNumber 1 = .ok (.getfield 21, 3) := by decide +kernel
theorem dX5_readNumber_4 : decode cX5_readNumber 4 = .ok (.aload_n 0, 1) := by decide +kernel
theorem dX5_readNumber_5 : decode cX5_readNumber 5 = .ok (.getfield 36, 3) := by decide +kernel
theorem dX5_readNumber_8 : decode cX5_readNumber 8 = .ok (.iaload, 1) := by decide +kernel
theorem dX5_readNumber_9 : decode cX5_readNumber 9 = .ok (.istore_n 3, 1) := by decide +kernel
theorem dX5_readNumber_10 : decode cX5_readNumber 10 = .ok (.aload_n 0, 1) := by decide +kernel
theorem dX5_readNumber_11 : decode cX5_readNumber 11 = .ok (.aload_n 0, 1) := by decide +kernel
theorem dX5_readNumber_12 : decode cX5_readNumber 12 = .ok (.getfield 53, 3) := by decide +kernel
theorem dX5_readNumber_15 : decode cX5_readNumber 15 = .ok (.ifCond .ne 12, 3) := by decide +kernel
theorem dX5_readNumber_18 : decode cX5_readNumber 18 = .ok (.iload_n 3, 1) := by decide +kernel
theorem dX5_readNumber_19 : decode cX5_readNumber 19 = .ok (.iload_n 1, 1) := by decide +kernel
theorem dX5_readNumber_20 : decode cX5_readNumber 20 = .ok (.iload_n 2, 1) := by decide +kernel
theorem dX5_readNumber_21 : decode cX5_readNumber 21 = .ok (.invokestatic 104, 3) := by decide +kernel
theorem dX5_readNumber_24 : decode cX5_readNumber 24 = .ok (.ifCond .eq 7, 3) := by decide +kernel
theorem dX5_readNumber_27 : decode cX5_readNumber 27 = .ok (.iconst 1, 1) := by decide +kernel
theorem dX5_readNumber_28 : decode cX5_readNumber 28 = .ok (.goto 4, 3) := by decide +kernel
theorem dX5_readNumber_31 : decode cX5_readNumber 31 = .ok (.iconst 0, 1) := by decide +kernel
theorem dX5_readNumber_32 : decode cX5_readNumber 32 = .ok (.putfield 53, 3) := by decide +kernel
theorem dX5_readNumber_35 : decode cX5_readNumber 35 = .ok (.aload_n 0, 1) := by decide +kernel
theorem dX5_readNumber_36 : decode cX5_readNumber 36 = .ok (.bipush (-2), 2) := by decide +kernel
theorem dX5_readNumber_38 : decode cX5_readNumber 38 = .ok (.invokevirtual 71, 3) := by decide +kernel
theorem dX5_readNumber_41 : decode cX5_readNumber 41 = .ok (.iload_n 3, 1) := by decide +kernel
theorem dX5_readNumber_42 : decode cX5_readNumber 42 = .ok (.ireturn, 1) := by decide +kernel
theorem dX5_pass_0 : decode cX5_pass 0 = .ok (.aload_n 0, 1) := by decide +kernel
theorem dX5_pass_1 : decode cX5_pass 1 = .ok (.aload_n 0, 1) := by decide +kernel
theorem dX5_pass_2 : decode cX5_pass 2 = .ok (.getfield 53, 3) := by decide +kernel
theorem dX5_pass_5 : decode cX5_pass 5 = .ok (.ifCond .ne 16, 3) := by decide +kernel
theorem dX5_pass_8 : decode cX5_pass 8 = .ok (.aload_n 0, 1) := by decide +kernel
theorem dX5_pass_9 : decode cX5_pass 9 = .ok (.getfield 15, 3) := by decide +kernel
theorem dX5_pass_12 : decode cX5_pass 12 = .ok (.aload_n 0, 1) := by decide +kernel
theorem dX5_pass_13 : decode cX5_pass 13 = .ok (.getfield 36, 3) := by decide +kernel
theorem dX5_pass_16 : decode cX5_pass 16 = .ok (.iaload, 1) := by decide +kernel
theorem dX5_pass_17 : decode cX5_pass 17 = .ok (.iload_n 1, 1) := by decide +kernel
theorem dX5_pass_18 : decode cX5_pass 18 = .ok (.if_icmp .eq 7, 3) := by decide +kernel
theorem dX5_pass_21 : decode cX5_pass 21 = .ok (.iconst 1, 1) := by decide +kernel
theorem dX5_pass_22 : decode cX5_pass 22 = .ok (.goto 4, 3) := by decide +kernel
theorem dX5_pass_25 : decode cX5_pass 25 = .ok (.iconst 0, 1) := by decide +kernel
theorem dX5_pass_26 : decode cX5_pass 26 = .ok (.putfield 53, 3) := by decide +kernel
theorem dX5_pass_29 : decode cX5_pass 29 = .ok (.aload_n 0, 1) := by decide +kernel
theorem dX5_pass_30 : decode cX5_pass 30 = .ok (.getfield 53, 3) := by decide +kernel
theorem dX5_pass_33 : decode cX5_pass 33 = .ok (.ifCond .ne 23, 3) := by decide +kernel
theorem dX5_pass_36 : decode cX5_pass 36 = .ok (.aload_n 0, 1) := by decide +kernel
theorem dX5_pass_37 : decode cX5_pass 37 = .ok (.getfield 36, 3) := by decide +kernel
theorem dX5_pass_40 : decode cX5_pass 40 = .ok (.sipush 200, 3) := by decide +kernel
theorem dX5_pass_43 : decode cX5_pass 43 = .ok (.if_icmp .ge 13, 3) := by decide +kernel
theorem dX5_pass_46 : decode cX5_pass 46 = .ok (.aload_n 0, 1) := by decide +kernel
theorem dX5_pass_47 : decode cX5_pass 47 = .ok (.dup, 1) := by decide +kernel
theorem dX5_pass_48 : decode cX5_pass 48 = .ok (.getfield 36, 3) := by decide +kernel
theorem dX5_pass_51 : decode cX5_pass 51 = .ok (.iconst 1, 1) := by decide +kernel
theorem dX5_pass_52 : decode cX5_pass 52 = .ok (.iadd, 1) := by decide +kernel
theorem dX5_pass_53 : decode cX5_pass 53 = .ok (.putfield 36, 3) := by decide +kernel
theorem dX5_pass_56 : decode cX5_pass 56 = .ok (.return_, 1) := by decide +kernel
set_option maxRecDepth 20000 in
theorem ggX5_cut_X5_isDigit : GoodIn wsX5_cut wsX5_isDigit := goodIn_r _ [6] (by decide +kernel) (by decide +kernel)
set_option maxRecDepth 20000 in
theorem gX5_cut_X5_isDigit : GoodIn wsX5_cut (va_wsS RX5 108 yX5_isDigit wsX5_isDigit) := goodIn_app (goodIn_of _ (by decide +kernel)) ggX5_cut_X5_isDigit
set_option maxRecDepth 20000 in
theorem ggX5_cut_X5_lengthen : GoodIn wsX5_cut wsX5_lengthen := goodIn_r _ [10, 11, 12, 13, 14, 15, 16, 25, 26, 27, 28, 29, 30, 31, 32, 33, 34] (by decide +kernel) (by decide +kernel)
set_option maxRecDepth 20000 in
theorem gX5_cut_X5_lengthen : GoodIn wsX5_cut (wsV RX5 112 RX5 yX5_lengthen wsX5_lengthen) := goodIn_app (goodIn_of _ (by decide +kernel)) ggX5_cut_X5_lengthen
set_option maxRecDepth 20000 in
theorem ggX5_cut_X5_put : GoodIn wsX5_cut wsX5_put := goodIn_r _ [20, 16, 21, 11, 25, 26, 27, 28, 29, 30, 31, 32, 33, 34] (by decide +kernel) (by decide +kernel)
set_option maxRecDepth 20000 in
theorem gX5_cut_X5_put : GoodIn wsX5_cut (wsV RX5 115 RX5 yX5_put wsX5_put) := goodIn_app (goodIn_of _ (by decide +kernel)) ggX5_cut_X5_put
set_option maxRecDepth 20000 in
theorem ggX5_cut_X5_isSign : GoodIn wsX5_cut wsX5_isSign := goodIn_r _ [24] (by decide +kernel) (by decide +kernel)
set_option maxRecDepth 20000 in
theorem gX5_cut_X5_isSign : GoodIn wsX5_cut (va_wsS RX5 119 yX5_isSign wsX5_isSign) := goodIn_app (goodIn_of _ (by decide +kernel)) ggX5_cut_X5_isSign
theorem dX5_cut_0 : decode cX5_cut 0 = .ok (.iconst 0, 1) := by decide +kernel
theorem dX5_cut_1 : decode cX5_cut 1 = .ok (.istore_n 1, 1) := by decide +kernel
theorem dX5_cut_2 : decode cX5_cut 2 = .ok (.iconst 0, 1) := by decide +kernel
theorem dX5_cut_3 : decode cX5_cut 3 = .ok (.istore_n 2, 1) := by decide +kernel
theorem dX5_cut_4 : decode cX5_cut 4 = .ok (.iconst 0, 1) := by decide +kernel
theorem dX5_cut_5 : decode cX5_cut 5 = .ok (.istore_n 3, 1) := by decide +kernel
theorem dX5_cut_6 : decode cX5_cut 6 = .ok (.iload_n 3, 1) := by decide +kernel
theorem dX5_cut_7 : decode cX5_cut 7 = .ok (.aload_n 0, 1) := by decide +kernel
theorem dX5_cut_8 : decode cX5_cut 8 = .ok (.getfield 24, 3) := by decide +kernel
theorem dX5_cut_11 : decode cX5_cut 11 = .ok (.if_icmp .ge 123, 3) := by decide +kernel
theorem dX5_cut_14 : decode cX5_cut 14 = .ok (.aload_n 0, 1) := by decide +kernel
theorem dX5_cut_15 : decode cX5_cut 15 = .ok (.getfield 11, 3) := by decide +kernel
theorem dX5_cut_18 : decode cX5_cut 18 = .ok (.iload_n 3, 1) := by decide +kernel
theorem dX5_cut_19 : decode cX5_cut 19 = .ok (.iaload, 1) := by decide +kernel
theorem dX5_cut_20 : decode cX5_cut 20 = .ok (.invokestatic 108, 3) := by decide +kernel
theorem dX5_cut_23 : decode cX5_cut 23 = .ok (.istore 4, 2) := by decide +kernel
theorem dX5_cut_25 : decode cX5_cut 25 = .ok (.iload 4, 2) := by decide +kernel
theorem dX5_cut_27 : decode cX5_cut 27 = .ok (.ifCond .eq 26, 3) := by decide +kernel
theorem dX5_cut_30 : decode cX5_cut 30 = .ok (.iload_n 2, 1) := by decide +kernel
theorem dX5_cut_31 : decode cX5_cut 31 = .ok (.ifCond .eq 22, 3) := by decide +kernel
theorem dX5_cut_34 : decode cX5_cut 34 = .ok (.aload_n 0, 1) := by decide +kernel
theorem dX5_cut_35 : decode cX5_cut 35 = .ok (.iload_n 1, 1) := by decide +kernel
theorem dX5_cut_36 : decode cX5_cut 36 = .ok (.iconst 1, 1) := by decide +kernel
theorem dX5_cut_37 : decode cX5_cut 37 = .ok (.isub, 1) := by decide +kernel
theorem dX5_cut_38 : decode cX5_cut 38 = .ok (.aload_n 0, 1) := by decide +kernel
theorem dX5_cut_39 : decode cX5_cut 39 = .ok (.getfield 11, 3) := by decide +kernel
theorem dX5_cut_42 : decode cX5_cut 42 = .ok (.iload_n 3, 1) := by decide +kernel
theorem dX5_cut_43 : decode cX5_cut 43 = .ok (.iaload, 1) := by decide +kernel
theorem dX5_cut_44 : decode cX5_cut 44 = .ok (.bipush 48, 2) := by decide +kernel
theorem dX5_cut_46 : decode cX5_cut 46 = .ok (.isub, 1) := by decide +kernel
theorem dX5_cut_47 : decode cX5_cut 47 = .ok (.invokevirtual 112, 3) := by decide +kernel
theorem dX5_cut_50 : decode cX5_cut 50 = .ok (.goto 75, 3) := by decide +kernel
theorem dX5_cut_53 : decode cX5_cut 53 = .ok (.iload 4, 2) := by decide +kernel
theorem dX5_cut_55 : decode cX5_cut 55 = .ok (.ifCond .eq 26, 3) := by decide +kernel
theorem dX5_cut_58 : decode cX5_cut 58 = .ok (.aload_n 0, 1) := by decide +kernel
theorem dX5_cut_59 : decode cX5_cut 59 = .ok (.iload_n 1, 1) := by decide +kernel
theorem dX5_cut_60 : decode cX5_cut 60 = .ok (.bipush (-2), 2) := by decide +kernel
theorem dX5_cut_62 : decode cX5_cut 62 = .ok (.iload_n 3, 1) := by decide +kernel
theorem dX5_cut_63 : decode cX5_cut 63 = .ok (.aload_n 0, 1) := by decide +kernel
theorem dX5_cut_64 : decode cX5_cut 64 = .ok (.getfield 11, 3) := by decide +kernel
theorem dX5_cut_67 : decode cX5_cut 67 = .ok (.iload_n 3, 1) := by decide +kernel
theorem dX5_cut_68 : decode cX5_cut 68 = .ok (.iaload, 1) := by decide +kernel
theorem dX5_cut_69 : decode cX5_cut 69 = .ok (.bipush 48, 2) := by decide +kernel
theorem dX5_cut_71 : decode cX5_cut 71 = .ok (.isub, 1) := by decide +kernel
theorem dX5_cut_72 : decode cX5_cut 72 = .ok (.invokevirtual 115, 3) := by decide +kernel
theorem dX5_cut_75 : decode cX5_cut 75 = .ok (.iinc 1 1, 3) := by decide +kernel
theorem dX5_cut_78 : decode cX5_cut 78 = .ok (.goto 47, 3) := by decide +kernel
theorem dX5_cut_81 : decode cX5_cut 81 = .ok (.aload_n 0, 1) := by decide +kernel
theorem dX5_cut_82 : decode cX5_cut 82 = .ok (.getfield 11, 3) := by decide +kernel
theorem dX5_cut_85 : decode cX5_cut 85 = .ok (.iload_n 3, 1) := by decide +kernel
theorem dX5_cut_86 : decode cX5_cut 86 = .ok (.iaload, 1) := by decide +kernel
theorem dX5_cut_87 : decode cX5_cut 87 = .ok (.bipush 32, 2) := by decide +kernel
theorem dX5_cut_89 : decode cX5_cut 89 = .ok (.if_icmp .eq 36, 3) := by decide +kernel
theorem dX5_cut_92 : decode cX5_cut 92 = .ok (.aload_n 0, 1) := by decide +kernel
theorem dX5_cut_93 : decode cX5_cut 93 = .ok (.iload_n 1, 1) := by decide +kernel
theorem dX5_cut_94 : decode cX5_cut 94 = .ok (.aload_n 0, 1) := by decide +kernel
theorem dX5_cut_95 : decode cX5_cut 95 = .ok (.getfield 11, 3) := by decide +kernel
theorem dX5_cut_98 : decode cX5_cut 98 = .ok (.iload_n 3, 1) := by decide +kernel
theorem dX5_cut_99 : decode cX5_cut 99 = .ok (.iaload, 1) := by decide +kernel
theorem dX5_cut_100 : decode cX5_cut 100 = .ok (.invokestatic 119, 3) := by decide +kernel
theorem dX5_cut_103 : decode cX5_cut 103 = .ok (.ifCond .eq 12, 3) := by decide +kernel
theorem dX5_cut_106 : decode cX5_cut 106 = .ok (.aload_n 0, 1) := by decide +kernel
theorem dX5_cut_107 : decode cX5_cut 107 = .ok (.getfield 11, 3) := by decide +kernel
theorem dX5_cut_110 : decode cX5_cut 110 = .ok (.iload_n 3, 1) := by decide +kernel
theorem dX5_cut_111 : decode cX5_cut 111 = .ok (.iaload, 1) := by decide +kernel
theorem dX5_cut_112 : decode cX5_cut 112 = .ok (.goto 5, 3) := by decide +kernel
theorem dX5_cut_115 : decode cX5_cut 115 = .ok (.bipush (-3), 2) := by decide +kernel
theorem dX5_cut_117 : decode cX5_cut 117 = .ok (.iload_n 3, 1) := by decide +kernel
theorem dX5_cut_118 : decode cX5_cut 118 = .ok (.iconst 0, 1) := by decide +kernel
theorem dX5_cut_119 : decode cX5_cut 119 = .ok (.invokevirtual 115, 3) := by decide +kernel
theorem dX5_cut_122 : decode cX5_cut 122 = .ok (.iinc 1 1, 3) := by decide +kernel
theorem dX5_cut_125 : decode cX5_cut 125 = .ok (.iload 4, 2) := by decide +kernel
theorem dX5_cut_127 : decode cX5_cut 127 = .ok (.istore_n 2, 1) := by decide +kernel
theorem dX5_cut_128 : decode cX5_cut 128 = .ok (.iinc 3 1, 3) := by decide +kernel
theorem dX5_cut_131 : decode cX5_cut 131 = .ok (.goto (-125), 3) := by decide +kernel
theorem dX5_cut_134 : decode cX5_cut 134 = .ok (.aload_n 0, 1) := by decide +kernel
theorem dX5_cut_135 : decode cX5_cut 135 = .ok (.iload_n 1, 1) := by decide +kernel
theorem dX5_cut_136 : decode cX5_cut 136 = .ok (.iconst (-1), 1) := by decide +kernel
theorem dX5_cut_137 : decode cX5_cut 137 = .ok (.aload_n 0, 1) := by decide +kernel
theorem dX5_cut_138 : decode cX5_cut 138 = .ok (.getfield 24, 3) := by decide +kernel
theorem dX5_cut_141 : decode cX5_cut 141 = .ok (.iconst 0, 1) := by decide +kernel
theorem dX5_cut_142 : decode cX5_cut 142 = .ok (.invokevirtual 115, 3) := by decide +kernel
theorem dX5_cut_145 : decode cX5_cut 145 = .ok (.return_, 1) := by decide +kernel
theorem dX5_lengthen_0 : decode cX5_lengthen 0 = .ok (.aload_n 0, 1) := by decide +kernel
theorem dX5_lengthen_1 : decode cX5_lengthen 1 = .ok (.getfield 21, 3) := by decide +kernel
theorem dX5_lengthen_4 : decode cX5_lengthen 4 = .ok (.iload_n 1, 1) := by decide +kernel
theorem dX5_lengthen_5 : decode cX5_lengthen 5 = .ok (.iaload, 1) := by decide +kernel
theorem dX5_lengthen_6 : decode cX5_lengthen 6 = .ok (.ifCond .ne 7, 3) := by decide +kernel
theorem dX5_lengthen_9 : decode cX5_lengthen 9 = .ok (.iconst 1, 1) := by decide +kernel
theorem dX5_lengthen_10 : decode cX5_lengthen 10 = .ok (.goto 4, 3) := by decide +kernel
theorem dX5_lengthen_13 : decode cX5_lengthen 13 = .ok (.iconst 0, 1) := by decide +kernel
theorem dX5_lengthen_14 : decode cX5_lengthen 14 = .ok (.istore_n 3, 1) := by decide +kernel
theorem dX5_lengthen_15 : decode cX5_lengthen 15 = .ok (.aload_n 0, 1) := by decide +kernel
theorem dX5_lengthen_16 : decode cX5_lengthen 16 = .ok (.getfield 21, 3) := by decide +kernel
theorem dX5_lengthen_19 : decode cX5_lengthen 19 = .ok (.iload_n 1, 1) := by decide +kernel
theorem dX5_lengthen_20 : decode cX5_lengthen 20 = .ok (.aload_n 0, 1) := by decide +kernel
theorem dX5_lengthen_21 : decode cX5_lengthen 21 = .ok (.getfield 21, 3) := by decide +kernel
theorem dX5_lengthen_24 : decode cX5_lengthen 24 = .ok (.iload_n 1, 1) := by decide +kernel
theorem dX5_lengthen_25 : decode cX5_lengthen 25 = .ok (.iaload, 1) := by decide +kernel
theorem dX5_lengthen_26 : decode cX5_lengthen 26 = .ok (.bipush 10, 2) := by decide +kernel
theorem dX5_lengthen_28 : decode cX5_lengthen 28 = .ok (.imul, 1) := by decide +kernel
theorem dX5_lengthen_29 : decode cX5_lengthen 29 = .ok (.iload_n 2, 1) := by decide +kernel
theorem dX5_lengthen_30 : decode cX5_lengthen 30 = .ok (.iadd, 1) := by decide +kernel
theorem dX5_lengthen_31 : decode cX5_lengthen 31 = .ok (.sipush 201, 3) := by decide +kernel
theorem dX5_lengthen_34 : decode cX5_lengthen 34 = .ok (.invokestatic 122, 3) := by decide +kernel
theorem dX5_lengthen_37 : decode cX5_lengthen 37 = .ok (.iastore, 1) := by decide +kernel
theorem dX5_lengthen_38 : decode cX5_lengthen 38 = .ok (.iload_n 3, 1) := by decide +kernel
theorem dX5_lengthen_39 : decode cX5_lengthen 39 = .ok (.ifCond .ne 15, 3) := by decide +kernel
theorem dX5_lengthen_42 : decode cX5_lengthen 42 = .ok (.aload_n 0, 1) := by decide +kernel
theorem dX5_lengthen_43 : decode cX5_lengthen 43 = .ok (.getfield 21, 3) := by decide +kernel
theorem dX5_lengthen_46 : decode cX5_lengthen 46 = .ok (.iload_n 1, 1) := by decide +kernel
theorem dX5_lengthen_47 : decode cX5_lengthen 47 = .ok (.iaload, 1) := by decide +kernel
theorem dX5_lengthen_48 : decode cX5_lengthen 48 = .ok (.sipush 200, 3) := by decide +kernel
theorem dX5_lengthen_51 : decode cX5_lengthen 51 = .ok (.if_icmp .le 11, 3) := by decide +kernel
theorem dX5_lengthen_54 : decode cX5_lengthen 54 = .ok (.aload_n 0, 1) := by decide +kernel
theorem dX5_lengthen_55 : decode cX5_lengthen 55 = .ok (.getfield 15, 3) := by decide +kernel
theorem dX5_lengthen_58 : decode cX5_lengthen 58 = .ok (.iload_n 1, 1) := by decide +kernel
theorem dX5_lengthen_59 : decode cX5_lengthen 59 = .ok (.bipush (-3), 2) := by decide +kernel
theorem dX5_lengthen_61 : decode cX5_lengthen 61 = .ok (.iastore, 1) := by decide +kernel
theorem dX5_lengthen_62 : decode cX5_lengthen 62 = .ok (.return_, 1) := by decide +kernel
theorem dX5_put_0 : decode cX5_put 0 = .ok (.aload_n 0, 1) := by decide +kernel
theorem dX5_put_1 : decode cX5_put 1 = .ok (.getfield 15, 3) := by decide +kernel
theorem dX5_put_4 : decode cX5_put 4 = .ok (.iload_n 1, 1) := by decide +kernel
theorem dX5_put_5 : decode cX5_put 5 = .ok (.iload_n 2, 1) := by decide +kernel
theorem dX5_put_6 : decode cX5_put 6 = .ok (.iastore, 1) := by decide +kernel
theorem dX5_put_7 : decode cX5_put 7 = .ok (.aload_n 0, 1) := by decide +kernel
theorem dX5_put_8 : decode cX5_put 8 = .ok (.getfield 18, 3) := by decide +kernel
theorem dX5_put_11 : decode cX5_put 11 = .ok (.iload_n 1, 1) := by decide +kernel
theorem dX5_put_12 : decode cX5_put 12 = .ok (.iload_n 3, 1) := by decide +kernel
theorem dX5_put_13 : decode cX5_put 13 = .ok (.iastore, 1) := by decide +kernel
theorem dX5_put_14 : decode cX5_put 14 = .ok (.aload_n 0, 1) := by decide +kernel
theorem dX5_put_15 : decode cX5_put 15 = .ok (.getfield 21, 3) := by decide +kernel
theorem dX5_put_18 : decode cX5_put 18 = .ok (.iload_n 1, 1) := by decide +kernel
theorem dX5_put_19 : decode cX5_put 19 = .ok (.iload 4, 2) := by decide +kernel
theorem dX5_put_21 : decode cX5_put 21 = .ok (.iastore, 1) := by decide +kernel
theorem dX5_put_22 : decode cX5_put 22 = .ok (.return_, 1) := by decide +kernel
theorem dX5_isDigit_0 : decode cX5_isDigit 0 = .ok (.iload_n 0, 1) := by decide +kernel
theorem dX5_isDigit_1 : decode cX5_isDigit 1 = .ok (.bipush 48, 2) := by decide +kernel
theorem dX5_isDigit_3 : decode cX5_isDigit 3 = .ok (.if_icmp .lt 13, 3) := by decide +kernel
theorem dX5_isDigit_6 : decode cX5_isDigit 6 = .ok (.iload_n 0, 1) := by decide +kernel
theorem dX5_isDigit_7 : decode cX5_isDigit 7 = .ok (.bipush 57, 2) := by decide +kernel
theorem dX5_isDigit_9 : decode cX5_isDigit 9 = .ok (.if_icmp .gt 7, 3) := by decide +kernel
theorem dX5_isDigit_12 : decode cX5_isDigit 12 = .ok (.iconst 1, 1) := by decide +kernel
theorem dX5_isDigit_13 : decode cX5_isDigit 13 = .ok (.goto 4, 3) := by decide +kernel
theorem dX5_isDigit_16 : decode cX5_isDigit 16 = .ok (.iconst 0, 1) := by decide +kernel
theorem dX5_isDigit_17 : decode cX5_isDigit 17 = .ok (.ireturn, 1) := by decide +kernel
theorem dX5_isSign_0 : decode cX5_isSign 0 = .ok (.iload_n 0, 1) := by decide +kernel
theorem dX5_isSign_1 : decode cX5_isSign 1 = .ok (.bipush 114, 2) := by decide +kernel
theorem dX5_isSign_3 : decode cX5_isSign 3 = .ok (.if_icmp .eq 27, 3) := by decide +kernel
theorem dX5_isSign_6 : decode cX5_isSign 6 = .ok (.iload_n 0, 1) := by decide +kernel
theorem dX5_isSign_7 : decode cX5_isSign 7 = .ok (.bipush 108, 2) := by decide +kernel
theorem dX5_isSign_9 : decode cX5_isSign 9 = .ok (.if_icmp .eq 21, 3) := by decide +kernel
theorem dX5_isSign_12 : decode cX5_isSign 12 = .ok (.iload_n 0, 1) := by decide +kernel
theorem dX5_isSign_13 : decode cX5_isSign 13 = .ok (.bipush 116, 2) := by decide +kernel
theorem dX5_isSign_15 : decode cX5_isSign 15 = .ok (.if_icmp .eq 15, 3) := by decide +kernel
theorem dX5_isSign_18 : decode cX5_isSign 18 = .ok (.iload_n 0, 1) := by decide +kernel
theorem dX5_isSign_19 : decode cX5_isSign 19 = .ok (.bipush 112, 2) := by decide +kernel
theorem dX5_isSign_21 : decode cX5_isSign 21 = .ok (.if_icmp .eq 9, 3) := by decide +kernel
theorem dX5_isSign_24 : decode cX5_isSign 24 = .ok (.iload_n 0, 1) := by decide +kernel
theorem dX5_isSign_25 : decode cX5_isSign 25 = .ok (.bipush 59, 2) := by decide +kernel
theorem dX5_isSign_27 : decode cX5_isSign 27 = .ok (.if_icmp .ne 7, 3) := by decide +kernel
theorem dX5_isSign_30 : decode cX5_isSign 30 = .ok (.iconst 1, 1) := by decide +kernel
theorem dX5_isSign_31 : decode cX5_isSign 31 = .ok (.goto 4, 3) := by decide +kernel
theorem dX5_isSign_34 : decode cX5_isSign 34 = .ok (.iconst 0, 1) := by decide +kernel
theorem dX5_isSign_35 : decode cX5_isSign 35 = .ok (.ireturn, 1) := by decide +kernel
set_option maxRecDepth 20000 in
theorem ggX6_init_X6_startAnew : GoodIn wsX6_init wsX6_startAnew := goodIn_r _ [10, 5, 11, 12, 13, 14, 15, 16, 17, 18, 19] (by decide +kernel) (by decide +kernel)
set_option maxRecDepth 20000 in
theorem gX6_init_X6_startAnew : GoodIn wsX6_init (wsV RX6 15 RX6 yX6_startAnew wsX6_startAnew) := goodIn_app (goodIn_of _ (by decide +kernel)) ggX6_init_X6_startAnew
theorem dX6_init_0 : decode cX6_init 0 = .ok (.aload_n 0, 1) := by decide +kernel
theorem dX6_init_1 : decode cX6_init 1 = .ok (.invokespecial 3, 3) := by decide +kernel
theorem dX6_init_4 : decode cX6_init 4 = .ok (.aload_n 0, 1) := by decide +kernel
theorem dX6_init_5 : decode cX6_init 5 = .ok (.sipush 605, 3) := by decide +kernel
theorem dX6_init_8 : decode cX6_init 8 = .ok (.newarray .long, 2) := by decide +kernel
theorem dX6_init_10 : decode cX6_init 10 = .ok (.putfield 9, 3) := by decide +kernel
theorem dX6_init_13 : decode cX6_init 13 = .ok (.aload_n 0, 1) := by decide +kernel
theorem dX6_init_14 : decode cX6_init 14 = .ok (.invokevirtual 15, 3) := by decide +kernel
theorem dX6_init_17 : decode cX6_init 17 = .ok (.return_, 1) := by decide +kernel
set_option maxRecDepth 20000 in
theorem ggX6_startAnew_J7_fill_d0a16 : GoodIn wsX6_startAnew wsJ7_fill_d0a16 := goodIn_r _ [7] (by decide +kernel) (by decide +kernel)
set_option maxRecDepth 20000 in
theorem gX6_startAnew_J7_fill_d0a16 : GoodIn wsX6_startAnew (va_wsS RX6 18 yJ7_fill_d0a16 wsJ7_fill_d0a16) := goodIn_app (goodIn_of _ (by decide +kernel)) ggX6_startAnew_J7_fill_d0a16
theorem dX6_startAnew_0 : decode cX6_startAnew 0 = .ok (.aload_n 0, 1) := by decide +kernel
theorem dX6_startAnew_1 : decode cX6_startAnew 1 = .ok (.getfield 9, 3) := by decide +kernel
theorem dX6_startAnew_4 : decode cX6_startAnew 4 = .ok (.lconst 0, 1) := by decide +kernel
theorem dX6_startAnew_5 : decode cX6_startAnew 5 = .ok (.invokestatic 18, 3) := by decide +kernel
theorem dX6_startAnew_8 : decode cX6_startAnew 8 = .ok (.aload_n 0, 1) := by decide +kernel
theorem dX6_startAnew_9 : decode cX6_startAnew 9 = .ok (.getfield 9, 3) := by decide +kernel
theorem dX6_startAnew_12 : decode cX6_startAnew 12 = .ok (.iconst 0, 1) := by decide +kernel
theorem dX6_startAnew_13 : decode cX6_startAnew 13 = .ok (.lconst 1, 1) := by decide +kernel
theorem dX6_startAnew_14 : decode cX6_startAnew 14 = .ok (.lastore, 1) := by decide +kernel
theorem dX6_startAnew_15 : decode cX6_startAnew 15 = .ok (.aload_n 0, 1) := by decide +kernel
theorem dX6_startAnew_16 : decode cX6_startAnew 16 = .ok (.iconst 0, 1) := by decide +kernel
theorem dX6_startAnew_17 : decode cX6_startAnew 17 = .ok (.putfield 24, 3) := by decide +kernel
theorem dX6_startAnew_20 : decode cX6_startAnew 20 = .ok (.aload_n 0, 1) := by decide +kernel
theorem dX6_startAnew_21 : decode cX6_startAnew 21 = .ok (.lconst 0, 1) := by decide +kernel
theorem dX6_startAnew_22 : decode cX6_startAnew 22 = .ok (.putfield 28, 3) := by decide +kernel
theorem dX6_startAnew_25 : decode cX6_startAnew 25 = .ok (.return_, 1) := by decide +kernel
theorem dX6_becomeLike_0 : decode cX6_becomeLike 0 = .ok (.aload_n 1, 1) := by decide +kernel
theorem dX6_becomeLike_1 : decode cX6_becomeLike 1 = .ok (.getfield 9, 3) := by decide +kernel
theorem dX6_becomeLike_4 : decode cX6_becomeLike 4 = .ok (.iconst 0, 1) := by decide +kernel
theorem dX6_becomeLike_5 : decode cX6_becomeLike 5 = .ok (.aload_n 0, 1) := by decide +kernel
theorem dX6_becomeLike_6 : decode cX6_becomeLike 6 = .ok (.getfield 9, 3) := by decide +kernel
theorem dX6_becomeLike_9 : decode cX6_becomeLike 9 = .ok (.iconst 0, 1) := by decide +kernel
theorem dX6_becomeLike_10 : decode cX6_becomeLike 10 = .ok (.sipush 605, 3) := by decide +kernel
theorem dX6_becomeLike_13 : decode cX6_becomeLike 13 = .ok (.invokestatic 32, 3) := by decide +kernel
theorem dX6_becomeLike_16 : decode cX6_becomeLike 16 = .ok (.aload_n 0, 1) := by decide +kernel
theorem dX6_becomeLike_17 : decode cX6_becomeLike 17 = .ok (.aload_n 1, 1) := by decide +kernel
theorem dX6_becomeLike_18 : decode cX6_becomeLike 18 = .ok (.getfield 24, 3) := by decide +kernel
theorem dX6_becomeLike_21 : decode cX6_becomeLike 21 = .ok (.putfield 24, 3) := by decide +kernel
theorem dX6_becomeLike_24 : decode cX6_becomeLike 24 = .ok (.aload_n 0, 1) := by decide +kernel
theorem dX6_becomeLike_25 : decode cX6_becomeLike 25 = .ok (.aload_n 1, 1) := by decide +kernel
theorem dX6_becomeLike_26 : decode cX6_becomeLike 26 = .ok (.getfield 28, 3) := by decide +kernel
theorem dX6_becomeLike_29 : decode cX6_becomeLike 29 = .ok (.putfield 28, 3) := by decide +kernel
theorem dX6_becomeLike_32 : decode cX6_becomeLike 32 = .ok (.return_, 1) := by decide +kernel
set_option maxRecDepth 20000 in
theorem ggX6_passNight_X2_drips : GoodIn wsX6_passNight wsX2_drips := goodIn_r _ [9, 10, 23, 24, 25, 26, 27, 28, 29, 30, 31, 32, 33] (by decide +kernel) (by decide +kernel)
set_option maxRecDepth 20000 in
theorem gX6_passNight_X2_drips : GoodIn wsX6_passNight (wsV RX6 38 RX2 yX2_drips wsX2_drips) := goodIn_app (goodIn_of _ (by decide +kernel)) ggX6_passNight_X2_drips
set_option maxRecDepth 20000 in
theorem ggX6_passNight_X6_dripping : GoodIn wsX6_passNight wsX6_dripping := goodIn_r _ [15, 16, 17, 18, 19, 1, 3, 20, 21, 22] (by decide +kernel) (by decide +kernel)
set_option maxRecDepth 20000 in
theorem gX6_passNight_X6_dripping : GoodIn wsX6_passNight (wsV RX6 48 RX6 yX6_dripping wsX6_dripping) := goodIn_app (goodIn_of _ (by decide +kernel)) ggX6_passNight_X6_dripping
theorem dX6_passNight_0 : decode cX6_passNight 0 = .ok (.aload_n 0, 1) := by decide +kernel
theorem dX6_passNight_1 : decode cX6_passNight 1 = .ok (.getfield 24, 3) := by decide +kernel
theorem dX6_passNight_4 : decode cX6_passNight 4 = .ok (.bipush 120, 2) := by decide +kernel
theorem dX6_passNight_6 : decode cX6_passNight 6 = .ok (.if_icmp .lt 5, 3) := by decide +kernel
theorem dX6_passNight_9 : decode cX6_passNight 9 = .ok (.lconst 0, 1) := by decide +kernel
theorem dX6_passNight_10 : decode cX6_passNight 10 = .ok (.lreturn, 1) := by decide +kernel
theorem dX6_passNight_11 : decode cX6_passNight 11 = .ok (.aload_n 0, 1) := by decide +kernel
theorem dX6_passNight_12 : decode cX6_passNight 12 = .ok (.dup, 1) := by decide +kernel
theorem dX6_passNight_13 : decode cX6_passNight 13 = .ok (.getfield 24, 3) := by decide +kernel
theorem dX6_passNight_16 : decode cX6_passNight 16 = .ok (.iconst 1, 1) := by decide +kernel
theorem dX6_passNight_17 : decode cX6_passNight 17 = .ok (.iadd, 1) := by decide +kernel
theorem dX6_passNight_18 : decode cX6_passNight 18 = .ok (.putfield 24, 3) := by decide +kernel
theorem dX6_passNight_21 : decode cX6_passNight 21 = .ok (.lconst 0, 1) := by decide +kernel
theorem dX6_passNight_22 : decode cX6_passNight 22 = .ok (.lstore_n 2, 1) := by decide +kernel
theorem dX6_passNight_23 : decode cX6_passNight 23 = .ok (.iconst 0, 1) := by decide +kernel
theorem dX6_passNight_24 : decode cX6_passNight 24 = .ok (.istore 4, 2) := by decide +kernel
theorem dX6_passNight_26 : decode cX6_passNight 26 = .ok (.iload 4, 2) := by decide +kernel
theorem dX6_passNight_28 : decode cX6_passNight 28 = .ok (.iconst 4, 1) := by decide +kernel
theorem dX6_passNight_29 : decode cX6_passNight 29 = .ok (.if_icmp .ge 63, 3) := by decide +kernel
theorem dX6_passNight_32 : decode cX6_passNight 32 = .ok (.aload_n 1, 1) := by decide +kernel
theorem dX6_passNight_33 : decode cX6_passNight 33 = .ok (.iload 4, 2) := by decide +kernel
theorem dX6_passNight_35 : decode cX6_passNight 35 = .ok (.invokevirtual 38, 3) := by decide +kernel
theorem dX6_passNight_38 : decode cX6_passNight 38 = .ok (.ifCond .eq 48, 3) := by decide +kernel
theorem dX6_passNight_41 : decode cX6_passNight 41 = .ok (.aload_n 0, 1) := by decide +kernel
theorem dX6_passNight_42 : decode cX6_passNight 42 = .ok (.iload 4, 2) := by decide +kernel
theorem dX6_passNight_44 : decode cX6_passNight 44 = .ok (.aload_n 1, 1) := by decide +kernel
theorem dX6_passNight_45 : decode cX6_passNight 45 = .ok (.getfield 44, 3) := by decide +kernel
theorem dX6_passNight_48 : decode cX6_passNight 48 = .ok (.iload 4, 2) := by decide +kernel
theorem dX6_passNight_50 : decode cX6_passNight 50 = .ok (.iaload, 1) := by decide +kernel
theorem dX6_passNight_51 : decode cX6_passNight 51 = .ok (.invokevirtual 48, 3) := by decide +kernel
theorem dX6_passNight_54 : decode cX6_passNight 54 = .ok (.lstore 5, 2) := by decide +kernel
theorem dX6_passNight_56 : decode cX6_passNight 56 = .ok (.aload_n 0, 1) := by decide +kernel
theorem dX6_passNight_57 : decode cX6_passNight 57 = .ok (.getfield 9, 3) := by decide +kernel
theorem dX6_passNight_60 : decode cX6_passNight 60 = .ok (.iload 4, 2) := by decide +kernel
theorem dX6_passNight_62 : decode cX6_passNight 62 = .ok (.iconst 1, 1) := by decide +kernel
theorem dX6_passNight_63 : decode cX6_passNight 63 = .ok (.iadd, 1) := by decide +kernel
theorem dX6_passNight_64 : decode cX6_passNight 64 = .ok (.bipush 121, 2) := by decide +kernel
theorem dX6_passNight_66 : decode cX6_passNight 66 = .ok (.imul, 1) := by decide +kernel
theorem dX6_passNight_67 : decode cX6_passNight 67 = .ok (.aload_n 0, 1) := by decide +kernel
theorem dX6_passNight_68 : decode cX6_passNight 68 = .ok (.getfield 24, 3) := by decide +kernel
theorem dX6_passNight_71 : decode cX6_passNight 71 = .ok (.iadd, 1) := by decide +kernel
theorem dX6_passNight_72 : decode cX6_passNight 72 = .ok (.lload 5, 2) := by decide +kernel
theorem dX6_passNight_74 : decode cX6_passNight 74 = .ok (.aload_n 1, 1) := by decide +kernel
theorem dX6_passNight_75 : decode cX6_passNight 75 = .ok (.getfield 52, 3) := by decide +kernel
theorem dX6_passNight_78 : decode cX6_passNight 78 = .ok (.i2l, 1) := by decide +kernel
theorem dX6_passNight_79 : decode cX6_passNight 79 = .ok (.lmul, 1) := by decide +kernel
theorem dX6_passNight_80 : decode cX6_passNight 80 = .ok (.lastore, 1) := by decide +kernel
theorem dX6_passNight_81 : decode cX6_passNight 81 = .ok (.lload_n 2, 1) := by decide +kernel
theorem dX6_passNight_82 : decode cX6_passNight 82 = .ok (.lload 5, 2) := by decide +kernel
theorem dX6_passNight_84 : decode cX6_passNight 84 = .ok (.ladd, 1) := by decide +kernel
theorem dX6_passNight_85 : decode cX6_passNight 85 = .ok (.lstore_n 2, 1) := by decide +kernel
theorem dX6_passNight_86 : decode cX6_passNight 86 = .ok (.iinc 4 1, 3) := by decide +kernel
theorem dX6_passNight_89 : decode cX6_passNight 89 = .ok (.goto (-63), 3) := by decide +kernel
theorem dX6_passNight_92 : decode cX6_passNight 92 = .ok (.lload_n 2, 1) := by decide +kernel
theorem dX6_passNight_93 : decode cX6_passNight 93 = .ok (.lreturn, 1) := by decide +kernel
theorem dX6_dripping_0 : decode cX6_dripping 0 = .ok (.iconst 1, 1) := by decide +kernel
theorem dX6_dripping_1 : decode cX6_dripping 1 = .ok (.iload_n 2, 1) := by decide +kernel
theorem dX6_dripping_2 : decode cX6_dripping 2 = .ok (.invokestatic 55, 3) := by decide +kernel
theorem dX6_dripping_5 : decode cX6_dripping 5 = .ok (.istore_n 3, 1) := by decide +kernel
theorem dX6_dripping_6 : decode cX6_dripping 6 = .ok (.lconst 0, 1) := by decide +kernel
theorem dX6_dripping_7 : decode cX6_dripping 7 = .ok (.lstore 4, 2) := by decide +kernel
theorem dX6_dripping_9 : decode cX6_dripping 9 = .ok (.aload_n 0, 1) := by decide +kernel
theorem dX6_dripping_10 : decode cX6_dripping 10 = .ok (.getfield 24, 3) := by decide +kernel
theorem dX6_dripping_13 : decode cX6_dripping 13 = .ok (.iload_n 3, 1) := by decide +kernel
theorem dX6_dripping_14 : decode cX6_dripping 14 = .ok (.isub, 1) := by decide +kernel
theorem dX6_dripping_15 : decode cX6_dripping 15 = .ok (.istore 6, 2) := by decide +kernel
theorem dX6_dripping_17 : decode cX6_dripping 17 = .ok (.iload 6, 2) := by decide +kernel
theorem dX6_dripping_19 : decode cX6_dripping 19 = .ok (.ifCond .lt 29, 3) := by decide +kernel
theorem dX6_dripping_22 : decode cX6_dripping 22 = .ok (.lload 4, 2) := by decide +kernel
theorem dX6_dripping_24 : decode cX6_dripping 24 = .ok (.aload_n 0, 1) := by decide +kernel
theorem dX6_dripping_25 : decode cX6_dripping 25 = .ok (.getfield 9, 3) := by decide +kernel
theorem dX6_dripping_28 : decode cX6_dripping 28 = .ok (.iload_n 1, 1) := by decide +kernel
theorem dX6_dripping_29 : decode cX6_dripping 29 = .ok (.bipush 121, 2) := by decide +kernel
theorem dX6_dripping_31 : decode cX6_dripping 31 = .ok (.imul, 1) := by decide +kernel
theorem dX6_dripping_32 : decode cX6_dripping 32 = .ok (.iload 6, 2) := by decide +kernel
theorem dX6_dripping_34 : decode cX6_dripping 34 = .ok (.iadd, 1) := by decide +kernel
theorem dX6_dripping_35 : decode cX6_dripping 35 = .ok (.laload, 1) := by decide +kernel
theorem dX6_dripping_36 : decode cX6_dripping 36 = .ok (.ladd, 1) := by decide +kernel
theorem dX6_dripping_37 : decode cX6_dripping 37 = .ok (.lstore 4, 2) := by decide +kernel
theorem dX6_dripping_39 : decode cX6_dripping 39 = .ok (.iload 6, 2) := by decide +kernel
theorem dX6_dripping_41 : decode cX6_dripping 41 = .ok (.iload_n 3, 1) := by decide +kernel
theorem dX6_dripping_42 : decode cX6_dripping 42 = .ok (.isub, 1) := by decide +kernel
theorem dX6_dripping_43 : decode cX6_dripping 43 = .ok (.istore 6, 2) := by decide +kernel
theorem dX6_dripping_45 : decode cX6_dripping 45 = .ok (.goto (-28), 3) := by decide +kernel
theorem dX6_dripping_48 : decode cX6_dripping 48 = .ok (.lload 4, 2) := by decide +kernel
theorem dX6_dripping_50 : decode cX6_dripping 50 = .ok (.lreturn, 1) := by decide +kernel
set_option maxRecDepth 20000 in
theorem ggX6_passTo_X6_passNight : GoodIn wsX6_passTo wsX6_passNight := goodIn_r _ [6, 1, 7, 8, 9, 10, 11, 12, 13, 14, 15, 16, 17, 18, 5, 19, 20, 21, 22, 23, 24, 25, 26, 27, 28, 29, 30, 31, 32, 33, 34, 35, 36, 37] (by decide +kernel) (by decide +kernel)
set_option maxRecDepth 20000 in
theorem gX6_passTo_X6_passNight : GoodIn wsX6_passTo (wsV RX6 61 RX6 yX6_passNight wsX6_passNight) := goodIn_app (goodIn_of _ (by decide +kernel)) ggX6_passTo_X6_passNight
theorem dX6_passTo_0 : decode cX6_passTo 0 = .ok (.aload_n 0, 1) := by decide +kernel
theorem dX6_passTo_1 : decode cX6_passTo 1 = .ok (.getfield 24, 3) := by decide +kernel
theorem dX6_passTo_4 : decode cX6_passTo 4 = .ok (.istore_n 3, 1) := by decide +kernel
theorem dX6_passTo_5 : decode cX6_passTo 5 = .ok (.iload_n 3, 1) := by decide +kernel
theorem dX6_passTo_6 : decode cX6_passTo 6 = .ok (.iload_n 1, 1) := by decide +kernel
theorem dX6_passTo_7 : decode cX6_passTo 7 = .ok (.if_icmp .ge 15, 3) := by decide +kernel
theorem dX6_passTo_10 : decode cX6_passTo 10 = .ok (.aload_n 0, 1) := by decide +kernel
theorem dX6_passTo_11 : decode cX6_passTo 11 = .ok (.aload_n 2, 1) := by decide +kernel
theorem dX6_passTo_12 : decode cX6_passTo 12 = .ok (.invokevirtual 61, 3) := by decide +kernel
theorem dX6_passTo_15 : decode cX6_passTo 15 = .ok (.pop2, 1) := by decide +kernel
theorem dX6_passTo_16 : decode cX6_passTo 16 = .ok (.iinc 3 1, 3) := by decide +kernel
theorem dX6_passTo_19 : decode cX6_passTo 19 = .ok (.goto (-14), 3) := by decide +kernel
theorem dX6_passTo_22 : decode cX6_passTo 22 = .ok (.return_, 1) := by decide +kernel
theorem dX6_ofOrder_0 : decode cX6_ofOrder 0 = .ok (.lconst 0, 1) := by decide +kernel
theorem dX6_ofOrder_1 : decode cX6_ofOrder 1 = .ok (.lstore_n 2, 1) := by decide +kernel
theorem dX6_ofOrder_2 : decode cX6_ofOrder 2 = .ok (.iconst 0, 1) := by decide +kernel
theorem dX6_ofOrder_3 : decode cX6_ofOrder 3 = .ok (.istore 4, 2) := by decide +kernel
theorem dX6_ofOrder_5 : decode cX6_ofOrder 5 = .ok (.iload 4, 2) := by decide +kernel
theorem dX6_ofOrder_7 : decode cX6_ofOrder 7 = .ok (.aload_n 0, 1) := by decide +kernel
theorem dX6_ofOrder_8 : decode cX6_ofOrder 8 = .ok (.getfield 24, 3) := by decide +kernel
theorem dX6_ofOrder_11 : decode cX6_ofOrder 11 = .ok (.if_icmp .gt 24, 3) := by decide +kernel
theorem dX6_ofOrder_14 : decode cX6_ofOrder 14 = .ok (.lload_n 2, 1) := by decide +kernel
theorem dX6_ofOrder_15 : decode cX6_ofOrder 15 = .ok (.aload_n 0, 1) := by decide +kernel
theorem dX6_ofOrder_16 : decode cX6_ofOrder 16 = .ok (.getfield 9, 3) := by decide +kernel
theorem dX6_ofOrder_19 : decode cX6_ofOrder 19 = .ok (.iload_n 1, 1) := by decide +kernel
theorem dX6_ofOrder_20 : decode cX6_ofOrder 20 = .ok (.bipush 121, 2) := by decide +kernel
theorem dX6_ofOrder_22 : decode cX6_ofOrder 22 = .ok (.imul, 1) := by decide +kernel
theorem dX6_ofOrder_23 : decode cX6_ofOrder 23 = .ok (.iload 4, 2) := by decide +kernel
theorem dX6_ofOrder_25 : decode cX6_ofOrder 25 = .ok (.iadd, 1) := by decide +kernel
theorem dX6_ofOrder_26 : decode cX6_ofOrder 26 = .ok (.laload, 1) := by decide +kernel
theorem dX6_ofOrder_27 : decode cX6_ofOrder 27 = .ok (.ladd, 1) := by decide +kernel
theorem dX6_ofOrder_28 : decode cX6_ofOrder 28 = .ok (.lstore_n 2, 1) := by decide +kernel
theorem dX6_ofOrder_29 : decode cX6_ofOrder 29 = .ok (.iinc 4 1, 3) := by decide +kernel
theorem dX6_ofOrder_32 : decode cX6_ofOrder 32 = .ok (.goto (-27), 3) := by decide +kernel
theorem dX6_ofOrder_35 : decode cX6_ofOrder 35 = .ok (.lload_n 2, 1) := by decide +kernel
theorem dX6_ofOrder_36 : decode cX6_ofOrder 36 = .ok (.lreturn, 1) := by decide +kernel
set_option maxRecDepth 20000 in
theorem ggX6_total_X6_ofOrder : GoodIn wsX6_total wsX6_ofOrder := goodIn_r _ [5, 6, 7, 8, 9, 10] (by decide +kernel) (by decide +kernel)
set_option maxRecDepth 20000 in
theorem gX6_total_X6_ofOrder : GoodIn wsX6_total (wsV RX6 65 RX6 yX6_ofOrder wsX6_ofOrder) := goodIn_app (goodIn_of _ (by decide +kernel)) ggX6_total_X6_ofOrder
theorem dX6_total_0 : decode cX6_total 0 = .ok (.lconst 0, 1) := by decide +kernel
theorem dX6_total_1 : decode cX6_total 1 = .ok (.lstore_n 1, 1) := by decide +kernel
theorem dX6_total_2 : decode cX6_total 2 = .ok (.iconst 0, 1) := by decide +kernel
theorem dX6_total_3 : decode cX6_total 3 = .ok (.istore_n 3, 1) := by decide +kernel
theorem dX6_total_4 : decode cX6_total 4 = .ok (.iload_n 3, 1) := by decide +kernel
theorem dX6_total_5 : decode cX6_total 5 = .ok (.iconst 5, 1) := by decide +kernel
theorem dX6_total_6 : decode cX6_total 6 = .ok (.if_icmp .ge 17, 3) := by decide +kernel
theorem dX6_total_9 : decode cX6_total 9 = .ok (.lload_n 1, 1) := by decide +kernel
theorem dX6_total_10 : decode cX6_total 10 = .ok (.aload_n 0, 1) := by decide +kernel
theorem dX6_total_11 : decode cX6_total 11 = .ok (.iload_n 3, 1) := by decide +kernel
theorem dX6_total_12 : decode cX6_total 12 = .ok (.invokevirtual 65, 3) := by decide +kernel
theorem dX6_total_15 : decode cX6_total 15 = .ok (.ladd, 1) := by decide +kernel
theorem dX6_total_16 : decode cX6_total 16 = .ok (.lstore_n 1, 1) := by decide +kernel
theorem dX6_total_17 : decode cX6_total 17 = .ok (.iinc 3 1, 3) := by decide +kernel
theorem dX6_total_20 : decode cX6_total 20 = .ok (.goto (-16), 3) := by decide +kernel
theorem dX6_total_23 : decode cX6_total 23 = .ok (.lload_n 1, 1) := by decide +kernel
theorem dX6_total_24 : decode cX6_total 24 = .ok (.lreturn, 1) := by decide +kernel
set_option maxRecDepth 20000 in
theorem ggX6_weight_X6_ofOrder : GoodIn wsX6_weight wsX6_ofOrder := goodIn_r _ [6, 7, 8, 20, 21, 22] (by decide +kernel) (by decide +kernel)
set_option maxRecDepth 20000 in
theorem gX6_weight_X6_ofOrder : GoodIn wsX6_weight (wsV RX6 65 RX6 yX6_ofOrder wsX6_ofOrder) := goodIn_app (goodIn_of _ (by decide +kernel)) ggX6_weight_X6_ofOrder
theorem dX6_weight_0 : decode cX6_weight 0 = .ok (.lconst 0, 1) := by decide +kernel
theorem dX6_weight_1 : decode cX6_weight 1 = .ok (.lstore_n 2, 1) := by decide +kernel
theorem dX6_weight_2 : decode cX6_weight 2 = .ok (.iconst 0, 1) := by decide +kernel
theorem dX6_weight_3 : decode cX6_weight 3 = .ok (.istore 4, 2) := by decide +kernel
theorem dX6_weight_5 : decode cX6_weight 5 = .ok (.iload 4, 2) := by decide +kernel
theorem dX6_weight_7 : decode cX6_weight 7 = .ok (.iconst 5, 1) := by decide +kernel
theorem dX6_weight_8 : decode cX6_weight 8 = .ok (.if_icmp .ge 27, 3) := by decide +kernel
theorem dX6_weight_11 : decode cX6_weight 11 = .ok (.lload_n 2, 1) := by decide +kernel
theorem dX6_weight_12 : decode cX6_weight 12 = .ok (.aload_n 0, 1) := by decide +kernel
theorem dX6_weight_13 : decode cX6_weight 13 = .ok (.iload 4, 2) := by decide +kernel
theorem dX6_weight_15 : decode cX6_weight 15 = .ok (.invokevirtual 65, 3) := by decide +kernel
theorem dX6_weight_18 : decode cX6_weight 18 = .ok (.aload_n 1, 1) := by decide +kernel
theorem dX6_weight_19 : decode cX6_weight 19 = .ok (.getfield 69, 3) := by decide +kernel
theorem dX6_weight_22 : decode cX6_weight 22 = .ok (.iload 4, 2) := by decide +kernel
theorem dX6_weight_24 : decode cX6_weight 24 = .ok (.iaload, 1) := by decide +kernel
theorem dX6_weight_25 : decode cX6_weight 25 = .ok (.i2l, 1) := by decide +kernel
theorem dX6_weight_26 : decode cX6_weight 26 = .ok (.lmul, 1) := by decide +kernel
theorem dX6_weight_27 : decode cX6_weight 27 = .ok (.ladd, 1) := by decide +kernel
theorem dX6_weight_28 : decode cX6_weight 28 = .ok (.lstore_n 2, 1) := by decide +kernel
theorem dX6_weight_29 : decode cX6_weight 29 = .ok (.iinc 4 1, 3) := by decide +kernel
theorem dX6_weight_32 : decode cX6_weight 32 = .ok (.goto (-27), 3) := by decide +kernel
theorem dX6_weight_35 : decode cX6_weight 35 = .ok (.lload_n 2, 1) := by decide +kernel
theorem dX6_weight_36 : decode cX6_weight 36 = .ok (.lreturn, 1) := by decide +kernel
set_option maxRecDepth 20000 in
theorem ggX6_weightWithLump_X6_weight : GoodIn wsX6_weightWithLump wsX6_weight := goodIn_r _ [6, 7, 8, 9, 10, 5, 11, 12, 13, 17, 18, 19, 20, 21, 22, 23, 24, 25, 26, 27, 14, 15, 16] (by decide +kernel) (by decide +kernel)
set_option maxRecDepth 20000 in
theorem gX6_weightWithLump_X6_weight : GoodIn wsX6_weightWithLump (wsV RX6 72 RX6 yX6_weight wsX6_weight) := goodIn_app (goodIn_of _ (by decide +kernel)) ggX6_weightWithLump_X6_weight
