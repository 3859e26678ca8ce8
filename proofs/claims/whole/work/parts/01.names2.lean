theorem dX1_withDigit_34 : decode cX1_withDigit 34 = .ok (.iload_n 0, 1) := by decide +kernel
theorem dX1_withDigit_35 : decode cX1_withDigit 35 = .ok (.iconst (-1), 1) := by decide +kernel
theorem dX1_withDigit_36 : decode cX1_withDigit 36 = .ok (.if_icmp .ne 8, 3) := by decide +kernel
theorem dX1_withDigit_39 : decode cX1_withDigit 39 = .ok (.iload 4, 2) := by decide +kernel
theorem dX1_withDigit_41 : decode cX1_withDigit 41 = .ok (.goto 10, 3) := by decide +kernel
theorem dX1_withDigit_44 : decode cX1_withDigit 44 = .ok (.bipush 10, 2) := by decide +kernel
theorem dX1_withDigit_46 : decode cX1_withDigit 46 = .ok (.iload_n 0, 1) := by decide +kernel
theorem dX1_withDigit_47 : decode cX1_withDigit 47 = .ok (.imul, 1) := by decide +kernel
theorem dX1_withDigit_48 : decode cX1_withDigit 48 = .ok (.iload 4, 2) := by decide +kernel
theorem dX1_withDigit_50 : decode cX1_withDigit 50 = .ok (.iadd, 1) := by decide +kernel
theorem dX1_withDigit_51 : decode cX1_withDigit 51 = .ok (.istore 5, 2) := by decide +kernel
theorem dX1_withDigit_53 : decode cX1_withDigit 53 = .ok (.iload 5, 2) := by decide +kernel
theorem dX1_withDigit_55 : decode cX1_withDigit 55 = .ok (.getstatic 37, 3) := by decide +kernel
theorem dX1_withDigit_58 : decode cX1_withDigit 58 = .ok (.iload_n 2, 1) := by decide +kernel
theorem dX1_withDigit_59 : decode cX1_withDigit 59 = .ok (.iaload, 1) := by decide +kernel
theorem dX1_withDigit_60 : decode cX1_withDigit 60 = .ok (.if_icmp .lt 13, 3) := by decide +kernel
theorem dX1_withDigit_63 : decode cX1_withDigit 63 = .ok (.iload 5, 2) := by decide +kernel
theorem dX1_withDigit_65 : decode cX1_withDigit 65 = .ok (.getstatic 40, 3) := by decide +kernel
theorem dX1_withDigit_68 : decode cX1_withDigit 68 = .ok (.iload_n 2, 1) := by decide +kernel
theorem dX1_withDigit_69 : decode cX1_withDigit 69 = .ok (.iaload, 1) := by decide +kernel
theorem dX1_withDigit_70 : decode cX1_withDigit 70 = .ok (.if_icmp .le 7, 3) := by decide +kernel
theorem dX1_withDigit_73 : decode cX1_withDigit 73 = .ok (.iconst (-1), 1) := by decide +kernel
theorem dX1_withDigit_74 : decode cX1_withDigit 74 = .ok (.goto 5, 3) := by decide +kernel
theorem dX1_withDigit_77 : decode cX1_withDigit 77 = .ok (.iload 5, 2) := by decide +kernel
theorem dX1_withDigit_79 : decode cX1_withDigit 79 = .ok (.ireturn, 1) := by decide +kernel
theorem dX2_init_0 : decode cX2_init 0 = .ok (.aload_n 0, 1) := by decide +kernel
theorem dX2_init_1 : decode cX2_init 1 = .ok (.invokespecial 3, 3) := by decide +kernel
theorem dX2_init_4 : decode cX2_init 4 = .ok (.aload_n 0, 1) := by decide +kernel
theorem dX2_init_5 : decode cX2_init 5 = .ok (.bipush 18, 2) := by decide +kernel
theorem dX2_init_7 : decode cX2_init 7 = .ok (.newarray .int, 2) := by decide +kernel
theorem dX2_init_9 : decode cX2_init 9 = .ok (.putfield 9, 3) := by decide +kernel
theorem dX2_init_12 : decode cX2_init 12 = .ok (.aload_n 0, 1) := by decide +kernel
theorem dX2_init_13 : decode cX2_init 13 = .ok (.bipush 18, 2) := by decide +kernel
theorem dX2_init_15 : decode cX2_init 15 = .ok (.newarray .int, 2) := by decide +kernel
theorem dX2_init_17 : decode cX2_init 17 = .ok (.putfield 15, 3) := by decide +kernel
theorem dX2_init_20 : decode cX2_init 20 = .ok (.return_, 1) := by decide +kernel
set_option maxRecDepth 20000 in
theorem ggX2_make_X3_peak : GoodIn wsX2_make wsX3_peak := goodIn_r _ [9, 10, 11, 12, 13, 14, 15, 16, 17, 18, 19, 20, 83, 84, 85, 86, 87, 88, 89] (by decide +kernel) (by decide +kernel)
set_option maxRecDepth 20000 in
theorem gX2_make_X3_peak : GoodIn wsX2_make (wsV RX2 18 RX3 yX3_peak wsX3_peak) := goodIn_app (goodIn_of _ (by decide +kernel)) ggX2_make_X3_peak
set_option maxRecDepth 20000 in
theorem ggX2_make_X2_levelByRule : GoodIn wsX2_make wsX2_levelByRule := goodIn_r _ [25, 4, 26, 27, 13, 28, 29, 30, 31, 24, 32, 1, 33, 34, 35, 8, 36, 10, 15, 16, 17, 18, 19, 20, 83, 84, 85, 86, 87, 88, 89, 81, 82] (by decide +kernel) (by decide +kernel)
set_option maxRecDepth 20000 in
theorem gX2_make_X2_levelByRule : GoodIn wsX2_make (wsV RX2 27 RX2 yX2_levelByRule wsX2_levelByRule) := goodIn_app (goodIn_of _ (by decide +kernel)) ggX2_make_X2_levelByRule
set_option maxRecDepth 20000 in
theorem ggX2_make_X2_raiseAll : GoodIn wsX2_make wsX2_raiseAll := goodIn_r _ [40, 1, 2, 41, 12, 13, 14, 3, 4, 42, 43, 44, 8, 45, 46, 47, 16, 48, 49, 50, 51, 52, 53, 54, 55, 27, 28, 56, 57, 58, 24, 59, 60, 61, 62, 63, 64, 65, 66, 67, 68, 26, 81, 82, 83, 84, 85, 86, 87, 88, 89] (by decide +kernel) (by decide +kernel)
set_option maxRecDepth 20000 in
theorem gX2_make_X2_raiseAll : GoodIn wsX2_make (wsV RX2 34 RX2 yX2_raiseAll wsX2_raiseAll) := goodIn_app (goodIn_of _ (by decide +kernel)) ggX2_make_X2_raiseAll
set_option maxRecDepth 20000 in
theorem ggX2_make_X3_asksBlack : GoodIn wsX2_make wsX3_asksBlack := goodIn_r _ [72, 10, 15, 16, 17, 18, 19, 20, 83, 84, 85, 86, 87, 88, 89] (by decide +kernel) (by decide +kernel)
set_option maxRecDepth 20000 in
theorem gX2_make_X3_asksBlack : GoodIn wsX2_make (wsV RX2 38 RX3 yX3_asksBlack wsX3_asksBlack) := goodIn_app (goodIn_of _ (by decide +kernel)) ggX2_make_X3_asksBlack
set_option maxRecDepth 20000 in
theorem ggX2_make_X2_lowerForBlack : GoodIn wsX2_make wsX2_lowerForBlack := goodIn_r _ [76, 2, 4, 42, 43, 44, 8, 45, 46, 47, 16, 48, 49, 50, 13, 51, 52, 12, 14, 53, 54, 55, 27, 28, 77, 78, 79, 80, 81, 82, 83, 84, 85, 86, 87, 88, 89] (by decide +kernel) (by decide +kernel)
set_option maxRecDepth 20000 in
theorem gX2_make_X2_lowerForBlack : GoodIn wsX2_make (wsV RX2 42 RX2 yX2_lowerForBlack wsX2_lowerForBlack) := goodIn_app (goodIn_of _ (by decide +kernel)) ggX2_make_X2_lowerForBlack
theorem dX2_make_0 : decode cX2_make 0 = .ok (.iconst 0, 1) := by decide +kernel
theorem dX2_make_1 : decode cX2_make 1 = .ok (.istore_n 2, 1) := by decide +kernel
theorem dX2_make_2 : decode cX2_make 2 = .ok (.iload_n 2, 1) := by decide +kernel
theorem dX2_make_3 : decode cX2_make 3 = .ok (.bipush 18, 2) := by decide +kernel
theorem dX2_make_5 : decode cX2_make 5 = .ok (.if_icmp .ge 45, 3) := by decide +kernel
theorem dX2_make_8 : decode cX2_make 8 = .ok (.aload_n 0, 1) := by decide +kernel
theorem dX2_make_9 : decode cX2_make 9 = .ok (.getfield 15, 3) := by decide +kernel
theorem dX2_make_12 : decode cX2_make 12 = .ok (.iload_n 2, 1) := by decide +kernel
theorem dX2_make_13 : decode cX2_make 13 = .ok (.aload_n 1, 1) := by decide +kernel
theorem dX2_make_14 : decode cX2_make 14 = .ok (.iload_n 2, 1) := by decide +kernel
theorem dX2_make_15 : decode cX2_make 15 = .ok (.invokevirtual 18, 3) := by decide +kernel
theorem dX2_make_18 : decode cX2_make 18 = .ok (.iastore, 1) := by decide +kernel
theorem dX2_make_19 : decode cX2_make 19 = .ok (.aload_n 0, 1) := by decide +kernel
theorem dX2_make_20 : decode cX2_make 20 = .ok (.getfield 9, 3) := by decide +kernel
theorem dX2_make_23 : decode cX2_make 23 = .ok (.iload_n 2, 1) := by decide +kernel
theorem dX2_make_24 : decode cX2_make 24 = .ok (.aload_n 1, 1) := by decide +kernel
theorem dX2_make_25 : decode cX2_make 25 = .ok (.getfield 23, 3) := by decide +kernel
theorem dX2_make_28 : decode cX2_make 28 = .ok (.iload_n 2, 1) := by decide +kernel
theorem dX2_make_29 : decode cX2_make 29 = .ok (.baload, 1) := by decide +kernel
theorem dX2_make_30 : decode cX2_make 30 = .ok (.ifCond .eq 7, 3) := by decide +kernel
theorem dX2_make_33 : decode cX2_make 33 = .ok (.iconst 0, 1) := by decide +kernel
theorem dX2_make_34 : decode cX2_make 34 = .ok (.goto 9, 3) := by decide +kernel
theorem dX2_make_37 : decode cX2_make 37 = .ok (.aload_n 0, 1) := by decide +kernel
theorem dX2_make_38 : decode cX2_make 38 = .ok (.aload_n 1, 1) := by decide +kernel
theorem dX2_make_39 : decode cX2_make 39 = .ok (.iload_n 2, 1) := by decide +kernel
theorem dX2_make_40 : decode cX2_make 40 = .ok (.invokevirtual 27, 3) := by decide +kernel
theorem dX2_make_43 : decode cX2_make 43 = .ok (.iastore, 1) := by decide +kernel
theorem dX2_make_44 : decode cX2_make 44 = .ok (.iinc 2 1, 3) := by decide +kernel
theorem dX2_make_47 : decode cX2_make 47 = .ok (.goto (-45), 3) := by decide +kernel
theorem dX2_make_50 : decode cX2_make 50 = .ok (.iconst 0, 1) := by decide +kernel
theorem dX2_make_51 : decode cX2_make 51 = .ok (.istore_n 2, 1) := by decide +kernel
theorem dX2_make_52 : decode cX2_make 52 = .ok (.iload_n 2, 1) := by decide +kernel
theorem dX2_make_53 : decode cX2_make 53 = .ok (.aload_n 1, 1) := by decide +kernel
theorem dX2_make_54 : decode cX2_make 54 = .ok (.getfield 31, 3) := by decide +kernel
theorem dX2_make_57 : decode cX2_make 57 = .ok (.iconst 4, 1) := by decide +kernel
theorem dX2_make_58 : decode cX2_make 58 = .ok (.iaload, 1) := by decide +kernel
theorem dX2_make_59 : decode cX2_make 59 = .ok (.if_icmp .ge 14, 3) := by decide +kernel
theorem dX2_make_62 : decode cX2_make 62 = .ok (.aload_n 0, 1) := by decide +kernel
theorem dX2_make_63 : decode cX2_make 63 = .ok (.aload_n 1, 1) := by decide +kernel
theorem dX2_make_64 : decode cX2_make 64 = .ok (.invokevirtual 34, 3) := by decide +kernel
theorem dX2_make_67 : decode cX2_make 67 = .ok (.iinc 2 1, 3) := by decide +kernel
theorem dX2_make_70 : decode cX2_make 70 = .ok (.goto (-18), 3) := by decide +kernel
theorem dX2_make_73 : decode cX2_make 73 = .ok (.iconst 0, 1) := by decide +kernel
theorem dX2_make_74 : decode cX2_make 74 = .ok (.istore_n 2, 1) := by decide +kernel
theorem dX2_make_75 : decode cX2_make 75 = .ok (.iload_n 2, 1) := by decide +kernel
theorem dX2_make_76 : decode cX2_make 76 = .ok (.bipush 18, 2) := by decide +kernel
theorem dX2_make_78 : decode cX2_make 78 = .ok (.if_icmp .ge 23, 3) := by decide +kernel
theorem dX2_make_81 : decode cX2_make 81 = .ok (.aload_n 1, 1) := by decide +kernel
theorem dX2_make_82 : decode cX2_make 82 = .ok (.iload_n 2, 1) := by decide +kernel
theorem dX2_make_83 : decode cX2_make 83 = .ok (.invokevirtual 38, 3) := by decide +kernel
theorem dX2_make_86 : decode cX2_make 86 = .ok (.ifCond .eq 9, 3) := by decide +kernel
theorem dX2_make_89 : decode cX2_make 89 = .ok (.aload_n 0, 1) := by decide +kernel
theorem dX2_make_90 : decode cX2_make 90 = .ok (.aload_n 1, 1) := by decide +kernel
theorem dX2_make_91 : decode cX2_make 91 = .ok (.iload_n 2, 1) := by decide +kernel
theorem dX2_make_92 : decode cX2_make 92 = .ok (.invokevirtual 42, 3) := by decide +kernel
theorem dX2_make_95 : decode cX2_make 95 = .ok (.iinc 2 1, 3) := by decide +kernel
theorem dX2_make_98 : decode cX2_make 98 = .ok (.goto (-23), 3) := by decide +kernel
theorem dX2_make_101 : decode cX2_make 101 = .ok (.return_, 1) := by decide +kernel
set_option maxRecDepth 20000 in
theorem ggX2_levelByRule_X2_aim : GoodIn wsX2_levelByRule wsX2_aim := goodIn_r _ [10, 1, 11, 12, 13, 14, 15, 16, 17, 18, 19, 20, 21, 22, 23, 24, 25, 26, 27, 28, 29, 30, 31, 32] (by decide +kernel) (by decide +kernel)
set_option maxRecDepth 20000 in
theorem gX2_levelByRule_X2_aim : GoodIn wsX2_levelByRule (wsV RX2 46 RX2 yX2_aim wsX2_aim) := goodIn_app (goodIn_of _ (by decide +kernel)) ggX2_levelByRule_X2_aim
theorem dX2_levelByRule_0 : decode cX2_levelByRule 0 = .ok (.aload_n 1, 1) := by decide +kernel
theorem dX2_levelByRule_1 : decode cX2_levelByRule 1 = .ok (.getfield 31, 3) := by decide +kernel
theorem dX2_levelByRule_4 : decode cX2_levelByRule 4 = .ok (.iconst 0, 1) := by decide +kernel
theorem dX2_levelByRule_5 : decode cX2_levelByRule 5 = .ok (.iaload, 1) := by decide +kernel
theorem dX2_levelByRule_6 : decode cX2_levelByRule 6 = .ok (.istore_n 3, 1) := by decide +kernel
theorem dX2_levelByRule_7 : decode cX2_levelByRule 7 = .ok (.aload_n 0, 1) := by decide +kernel
theorem dX2_levelByRule_8 : decode cX2_levelByRule 8 = .ok (.aload_n 1, 1) := by decide +kernel
theorem dX2_levelByRule_9 : decode cX2_levelByRule 9 = .ok (.iload_n 2, 1) := by decide +kernel
theorem dX2_levelByRule_10 : decode cX2_levelByRule 10 = .ok (.invokevirtual 46, 3) := by decide +kernel
theorem dX2_levelByRule_13 : decode cX2_levelByRule 13 = .ok (.sipush 256, 3) := by decide +kernel
theorem dX2_levelByRule_16 : decode cX2_levelByRule 16 = .ok (.imul, 1) := by decide +kernel
theorem dX2_levelByRule_17 : decode cX2_levelByRule 17 = .ok (.istore 4, 2) := by decide +kernel
theorem dX2_levelByRule_19 : decode cX2_levelByRule 19 = .ok (.iload_n 3, 1) := by decide +kernel
theorem dX2_levelByRule_20 : decode cX2_levelByRule 20 = .ok (.ifCond .le 16, 3) := by decide +kernel
theorem dX2_levelByRule_23 : decode cX2_levelByRule 23 = .ok (.sipush 255, 3) := by decide +kernel
theorem dX2_levelByRule_26 : decode cX2_levelByRule 26 = .ok (.iload 4, 2) := by decide +kernel
theorem dX2_levelByRule_28 : decode cX2_levelByRule 28 = .ok (.iload_n 3, 1) := by decide +kernel
theorem dX2_levelByRule_29 : decode cX2_levelByRule 29 = .ok (.idiv, 1) := by decide +kernel
theorem dX2_levelByRule_30 : decode cX2_levelByRule 30 = .ok (.invokestatic 49, 3) := by decide +kernel
theorem dX2_levelByRule_33 : decode cX2_levelByRule 33 = .ok (.goto 4, 3) := by decide +kernel
theorem dX2_levelByRule_36 : decode cX2_levelByRule 36 = .ok (.iconst 0, 1) := by decide +kernel
theorem dX2_levelByRule_37 : decode cX2_levelByRule 37 = .ok (.ireturn, 1) := by decide +kernel
set_option maxRecDepth 20000 in
theorem ggX2_aim_X3_mean : GoodIn wsX2_aim wsX3_mean := goodIn_r _ [7, 8, 9, 10, 11, 12, 13, 14, 15, 16, 17, 18, 19, 20, 21] (by decide +kernel) (by decide +kernel)
set_option maxRecDepth 20000 in
theorem gX2_aim_X3_mean : GoodIn wsX2_aim (wsV RX2 55 RX3 yX3_mean wsX3_mean) := goodIn_app (goodIn_of _ (by decide +kernel)) ggX2_aim_X3_mean
theorem dX2_aim_0 : decode cX2_aim 0 = .ok (.aload_n 1, 1) := by decide +kernel
theorem dX2_aim_1 : decode cX2_aim 1 = .ok (.getfield 31, 3) := by decide +kernel
theorem dX2_aim_4 : decode cX2_aim 4 = .ok (.iconst 3, 1) := by decide +kernel
theorem dX2_aim_5 : decode cX2_aim 5 = .ok (.iaload, 1) := by decide +kernel
theorem dX2_aim_6 : decode cX2_aim 6 = .ok (.lookupswitch 48 #[(0, 26), (1, 33)], 26) := by decide +kernel
theorem dX2_aim_32 : decode cX2_aim 32 = .ok (.aload_n 0, 1) := by decide +kernel
theorem dX2_aim_33 : decode cX2_aim 33 = .ok (.getfield 15, 3) := by decide +kernel
theorem dX2_aim_36 : decode cX2_aim 36 = .ok (.iload_n 2, 1) := by decide +kernel
theorem dX2_aim_37 : decode cX2_aim 37 = .ok (.iaload, 1) := by decide +kernel
theorem dX2_aim_38 : decode cX2_aim 38 = .ok (.ireturn, 1) := by decide +kernel
theorem dX2_aim_39 : decode cX2_aim 39 = .ok (.aload_n 0, 1) := by decide +kernel
theorem dX2_aim_40 : decode cX2_aim 40 = .ok (.getfield 15, 3) := by decide +kernel
theorem dX2_aim_43 : decode cX2_aim 43 = .ok (.iload_n 2, 1) := by decide +kernel
theorem dX2_aim_44 : decode cX2_aim 44 = .ok (.iaload, 1) := by decide +kernel
theorem dX2_aim_45 : decode cX2_aim 45 = .ok (.aload_n 1, 1) := by decide +kernel
theorem dX2_aim_46 : decode cX2_aim 46 = .ok (.iload_n 2, 1) := by decide +kernel
theorem dX2_aim_47 : decode cX2_aim 47 = .ok (.invokevirtual 55, 3) := by decide +kernel
theorem dX2_aim_50 : decode cX2_aim 50 = .ok (.iadd, 1) := by decide +kernel
theorem dX2_aim_51 : decode cX2_aim 51 = .ok (.iconst 2, 1) := by decide +kernel
theorem dX2_aim_52 : decode cX2_aim 52 = .ok (.idiv, 1) := by decide +kernel
theorem dX2_aim_53 : decode cX2_aim 53 = .ok (.ireturn, 1) := by decide +kernel
theorem dX2_aim_54 : decode cX2_aim 54 = .ok (.aload_n 1, 1) := by decide +kernel
theorem dX2_aim_55 : decode cX2_aim 55 = .ok (.iload_n 2, 1) := by decide +kernel
theorem dX2_aim_56 : decode cX2_aim 56 = .ok (.invokevirtual 55, 3) := by decide +kernel
theorem dX2_aim_59 : decode cX2_aim 59 = .ok (.ireturn, 1) := by decide +kernel
set_option maxRecDepth 20000 in
theorem ggX2_raiseAll_X3_glow : GoodIn wsX2_raiseAll wsX3_glow := goodIn_r _ [13, 14, 15, 16, 17, 18, 19, 5, 20, 21, 4, 6, 44, 45, 46, 47, 48, 49, 50] (by decide +kernel) (by decide +kernel)
set_option maxRecDepth 20000 in
theorem gX2_raiseAll_X3_glow : GoodIn wsX2_raiseAll (wsV RX2 58 RX3 yX3_glow wsX3_glow) := goodIn_app (goodIn_of _ (by decide +kernel)) ggX2_raiseAll_X3_glow
set_option maxRecDepth 20000 in
theorem ggX2_raiseAll_X5_lightOf : GoodIn wsX2_raiseAll wsX5_lightOf := goodIn_r _ [23, 24, 25, 5, 26] (by decide +kernel) (by decide +kernel)
set_option maxRecDepth 20000 in
theorem gX2_raiseAll_X5_lightOf_n62 : GoodIn wsX2_raiseAll (wsX5_lightOf) := ggX2_raiseAll_X5_lightOf
set_option maxRecDepth 20000 in
theorem ggX2_raiseAll_X2_raiseNeighbours : GoodIn wsX2_raiseAll wsX2_raiseNeighbours := goodIn_r _ [31, 8, 32, 33, 30, 34, 7, 15, 16, 17, 18, 19, 5, 20, 21, 4, 6, 35, 36, 37, 38, 39, 40, 2, 41, 25, 26, 44, 45, 46, 47, 48, 49, 50, 42, 43] (by decide +kernel) (by decide +kernel)
set_option maxRecDepth 20000 in
theorem gX2_raiseAll_X2_raiseNeighbours : GoodIn wsX2_raiseAll (wsV RX2 68 RX2 yX2_raiseNeighbours wsX2_raiseNeighbours) := goodIn_app (goodIn_of _ (by decide +kernel)) ggX2_raiseAll_X2_raiseNeighbours
set_option maxRecDepth 20000 in
theorem ggX2_raiseAll_X5_roundedUp : GoodIn wsX2_raiseAll wsX5_roundedUp := goodIn_r _ [36] (by decide +kernel) (by decide +kernel)
set_option maxRecDepth 20000 in
theorem gX2_raiseAll_X5_roundedUp_n72 : GoodIn wsX2_raiseAll (wsX5_roundedUp) := ggX2_raiseAll_X5_roundedUp
set_option maxRecDepth 20000 in
theorem ggX2_raiseAll_X2_raise : GoodIn wsX2_raiseAll wsX2_raise := goodIn_r _ [40, 2, 41, 25, 5, 26, 42, 43] (by decide +kernel) (by decide +kernel)
set_option maxRecDepth 20000 in
theorem gX2_raiseAll_X2_raise : GoodIn wsX2_raiseAll (wsV RX2 75 RX2 yX2_raise wsX2_raise) := goodIn_app (goodIn_of _ (by decide +kernel)) ggX2_raiseAll_X2_raise
theorem dX2_raiseAll_0 : decode cX2_raiseAll 0 = .ok (.iconst 0, 1) := by decide +kernel
theorem dX2_raiseAll_1 : decode cX2_raiseAll 1 = .ok (.istore_n 2, 1) := by decide +kernel
theorem dX2_raiseAll_2 : decode cX2_raiseAll 2 = .ok (.iload_n 2, 1) := by decide +kernel
theorem dX2_raiseAll_3 : decode cX2_raiseAll 3 = .ok (.bipush 18, 2) := by decide +kernel
theorem dX2_raiseAll_5 : decode cX2_raiseAll 5 = .ok (.if_icmp .ge 71, 3) := by decide +kernel
theorem dX2_raiseAll_8 : decode cX2_raiseAll 8 = .ok (.iconst 0, 1) := by decide +kernel
theorem dX2_raiseAll_9 : decode cX2_raiseAll 9 = .ok (.aload_n 0, 1) := by decide +kernel
theorem dX2_raiseAll_10 : decode cX2_raiseAll 10 = .ok (.getfield 15, 3) := by decide +kernel
theorem dX2_raiseAll_13 : decode cX2_raiseAll 13 = .ok (.iload_n 2, 1) := by decide +kernel
theorem dX2_raiseAll_14 : decode cX2_raiseAll 14 = .ok (.iaload, 1) := by decide +kernel
theorem dX2_raiseAll_15 : decode cX2_raiseAll 15 = .ok (.aload_n 1, 1) := by decide +kernel
theorem dX2_raiseAll_16 : decode cX2_raiseAll 16 = .ok (.iload_n 2, 1) := by decide +kernel
theorem dX2_raiseAll_17 : decode cX2_raiseAll 17 = .ok (.aload_n 0, 1) := by decide +kernel
theorem dX2_raiseAll_18 : decode cX2_raiseAll 18 = .ok (.getfield 9, 3) := by decide +kernel
theorem dX2_raiseAll_21 : decode cX2_raiseAll 21 = .ok (.invokevirtual 58, 3) := by decide +kernel
theorem dX2_raiseAll_24 : decode cX2_raiseAll 24 = .ok (.invokestatic 62, 3) := by decide +kernel
theorem dX2_raiseAll_27 : decode cX2_raiseAll 27 = .ok (.isub, 1) := by decide +kernel
theorem dX2_raiseAll_28 : decode cX2_raiseAll 28 = .ok (.invokestatic 65, 3) := by decide +kernel
theorem dX2_raiseAll_31 : decode cX2_raiseAll 31 = .ok (.istore_n 3, 1) := by decide +kernel
theorem dX2_raiseAll_32 : decode cX2_raiseAll 32 = .ok (.aload_n 1, 1) := by decide +kernel
theorem dX2_raiseAll_33 : decode cX2_raiseAll 33 = .ok (.getfield 23, 3) := by decide +kernel
theorem dX2_raiseAll_36 : decode cX2_raiseAll 36 = .ok (.iload_n 2, 1) := by decide +kernel
theorem dX2_raiseAll_37 : decode cX2_raiseAll 37 = .ok (.baload, 1) := by decide +kernel
theorem dX2_raiseAll_38 : decode cX2_raiseAll 38 = .ok (.ifCond .eq 13, 3) := by decide +kernel
theorem dX2_raiseAll_41 : decode cX2_raiseAll 41 = .ok (.aload_n 0, 1) := by decide +kernel
theorem dX2_raiseAll_42 : decode cX2_raiseAll 42 = .ok (.aload_n 1, 1) := by decide +kernel
theorem dX2_raiseAll_43 : decode cX2_raiseAll 43 = .ok (.iload_n 2, 1) := by decide +kernel
theorem dX2_raiseAll_44 : decode cX2_raiseAll 44 = .ok (.iload_n 3, 1) := by decide +kernel
theorem dX2_raiseAll_45 : decode cX2_raiseAll 45 = .ok (.invokevirtual 68, 3) := by decide +kernel
theorem dX2_raiseAll_48 : decode cX2_raiseAll 48 = .ok (.goto 22, 3) := by decide +kernel
theorem dX2_raiseAll_51 : decode cX2_raiseAll 51 = .ok (.aload_n 0, 1) := by decide +kernel
theorem dX2_raiseAll_52 : decode cX2_raiseAll 52 = .ok (.iload_n 2, 1) := by decide +kernel
theorem dX2_raiseAll_53 : decode cX2_raiseAll 53 = .ok (.iload_n 3, 1) := by decide +kernel
theorem dX2_raiseAll_54 : decode cX2_raiseAll 54 = .ok (.sipush 256, 3) := by decide +kernel
theorem dX2_raiseAll_57 : decode cX2_raiseAll 57 = .ok (.imul, 1) := by decide +kernel
theorem dX2_raiseAll_58 : decode cX2_raiseAll 58 = .ok (.aload_n 1, 1) := by decide +kernel
theorem dX2_raiseAll_59 : decode cX2_raiseAll 59 = .ok (.getfield 31, 3) := by decide +kernel
theorem dX2_raiseAll_62 : decode cX2_raiseAll 62 = .ok (.iconst 0, 1) := by decide +kernel
theorem dX2_raiseAll_63 : decode cX2_raiseAll 63 = .ok (.iaload, 1) := by decide +kernel
theorem dX2_raiseAll_64 : decode cX2_raiseAll 64 = .ok (.invokestatic 72, 3) := by decide +kernel
theorem dX2_raiseAll_67 : decode cX2_raiseAll 67 = .ok (.invokevirtual 75, 3) := by decide +kernel
theorem dX2_raiseAll_70 : decode cX2_raiseAll 70 = .ok (.iinc 2 1, 3) := by decide +kernel
theorem dX2_raiseAll_73 : decode cX2_raiseAll 73 = .ok (.goto (-71), 3) := by decide +kernel
theorem dX2_raiseAll_76 : decode cX2_raiseAll 76 = .ok (.return_, 1) := by decide +kernel
set_option maxRecDepth 20000 in
theorem ggX2_raiseNeighbours_X2_helps : GoodIn wsX2_raiseNeighbours wsX2_helps := goodIn_r _ [5, 6, 7, 8, 9, 10, 11, 12, 13, 14, 15, 16, 27, 28, 29, 30, 31, 32, 33] (by decide +kernel) (by decide +kernel)
set_option maxRecDepth 20000 in
theorem gX2_raiseNeighbours_X2_helps : GoodIn wsX2_raiseNeighbours (va_wsS RX2 79 yX2_helps wsX2_helps) := goodIn_app (goodIn_of _ (by decide +kernel)) ggX2_raiseNeighbours_X2_helps
set_option maxRecDepth 20000 in
theorem ggX2_raiseNeighbours_X5_roundedUp : GoodIn wsX2_raiseNeighbours wsX5_roundedUp := goodIn_r _ [18] (by decide +kernel) (by decide +kernel)
set_option maxRecDepth 20000 in
theorem gX2_raiseNeighbours_X5_roundedUp_n72 : GoodIn wsX2_raiseNeighbours (wsX5_roundedUp) := ggX2_raiseNeighbours_X5_roundedUp
set_option maxRecDepth 20000 in
theorem ggX2_raiseNeighbours_X2_raise : GoodIn wsX2_raiseNeighbours wsX2_raise := goodIn_r _ [22, 23, 24, 25, 12, 26, 34, 35] (by decide +kernel) (by decide +kernel)
set_option maxRecDepth 20000 in
theorem gX2_raiseNeighbours_X2_raise : GoodIn wsX2_raiseNeighbours (wsV RX2 75 RX2 yX2_raise wsX2_raise) := goodIn_app (goodIn_of _ (by decide +kernel)) ggX2_raiseNeighbours_X2_raise
theorem dX2_raiseNeighbours_0 : decode cX2_raiseNeighbours 0 = .ok (.iconst 0, 1) := by decide +kernel
theorem dX2_raiseNeighbours_1 : decode cX2_raiseNeighbours 1 = .ok (.istore 4, 2) := by decide +kernel
theorem dX2_raiseNeighbours_3 : decode cX2_raiseNeighbours 3 = .ok (.iconst 0, 1) := by decide +kernel
theorem dX2_raiseNeighbours_4 : decode cX2_raiseNeighbours 4 = .ok (.istore 5, 2) := by decide +kernel
theorem dX2_raiseNeighbours_6 : decode cX2_raiseNeighbours 6 = .ok (.iload 5, 2) := by decide +kernel
theorem dX2_raiseNeighbours_8 : decode cX2_raiseNeighbours 8 = .ok (.bipush 18, 2) := by decide +kernel
theorem dX2_raiseNeighbours_10 : decode cX2_raiseNeighbours 10 = .ok (.if_icmp .ge 22, 3) := by decide +kernel
theorem dX2_raiseNeighbours_13 : decode cX2_raiseNeighbours 13 = .ok (.aload_n 1, 1) := by decide +kernel
theorem dX2_raiseNeighbours_14 : decode cX2_raiseNeighbours 14 = .ok (.iload_n 2, 1) := by decide +kernel
theorem dX2_raiseNeighbours_15 : decode cX2_raiseNeighbours 15 = .ok (.iload 5, 2) := by decide +kernel
theorem dX2_raiseNeighbours_17 : decode cX2_raiseNeighbours 17 = .ok (.invokestatic 79, 3) := by decide +kernel
theorem dX2_raiseNeighbours_20 : decode cX2_raiseNeighbours 20 = .ok (.ifCond .eq 6, 3) := by decide +kernel
theorem dX2_raiseNeighbours_23 : decode cX2_raiseNeighbours 23 = .ok (.iinc 4 1, 3) := by decide +kernel
theorem dX2_raiseNeighbours_26 : decode cX2_raiseNeighbours 26 = .ok (.iinc 5 1, 3) := by decide +kernel
theorem dX2_raiseNeighbours_29 : decode cX2_raiseNeighbours 29 = .ok (.goto (-23), 3) := by decide +kernel
theorem dX2_raiseNeighbours_32 : decode cX2_raiseNeighbours 32 = .ok (.iload_n 3, 1) := by decide +kernel
theorem dX2_raiseNeighbours_33 : decode cX2_raiseNeighbours 33 = .ok (.sipush 256, 3) := by decide +kernel
theorem dX2_raiseNeighbours_36 : decode cX2_raiseNeighbours 36 = .ok (.imul, 1) := by decide +kernel
theorem dX2_raiseNeighbours_37 : decode cX2_raiseNeighbours 37 = .ok (.aload_n 1, 1) := by decide +kernel
theorem dX2_raiseNeighbours_38 : decode cX2_raiseNeighbours 38 = .ok (.getfield 31, 3) := by decide +kernel
theorem dX2_raiseNeighbours_41 : decode cX2_raiseNeighbours 41 = .ok (.iconst 1, 1) := by decide +kernel
theorem dX2_raiseNeighbours_42 : decode cX2_raiseNeighbours 42 = .ok (.iaload, 1) := by decide +kernel
theorem dX2_raiseNeighbours_43 : decode cX2_raiseNeighbours 43 = .ok (.iload 4, 2) := by decide +kernel
theorem dX2_raiseNeighbours_45 : decode cX2_raiseNeighbours 45 = .ok (.imul, 1) := by decide +kernel
theorem dX2_raiseNeighbours_46 : decode cX2_raiseNeighbours 46 = .ok (.invokestatic 72, 3) := by decide +kernel
theorem dX2_raiseNeighbours_49 : decode cX2_raiseNeighbours 49 = .ok (.istore 5, 2) := by decide +kernel
theorem dX2_raiseNeighbours_51 : decode cX2_raiseNeighbours 51 = .ok (.iconst 0, 1) := by decide +kernel
theorem dX2_raiseNeighbours_52 : decode cX2_raiseNeighbours 52 = .ok (.istore 6, 2) := by decide +kernel
theorem dX2_raiseNeighbours_54 : decode cX2_raiseNeighbours 54 = .ok (.iload 6, 2) := by decide +kernel
theorem dX2_raiseNeighbours_56 : decode cX2_raiseNeighbours 56 = .ok (.bipush 18, 2) := by decide +kernel
theorem dX2_raiseNeighbours_58 : decode cX2_raiseNeighbours 58 = .ok (.if_icmp .ge 27, 3) := by decide +kernel
theorem dX2_raiseNeighbours_61 : decode cX2_raiseNeighbours 61 = .ok (.aload_n 1, 1) := by decide +kernel
theorem dX2_raiseNeighbours_62 : decode cX2_raiseNeighbours 62 = .ok (.iload_n 2, 1) := by decide +kernel
theorem dX2_raiseNeighbours_63 : decode cX2_raiseNeighbours 63 = .ok (.iload 6, 2) := by decide +kernel
theorem dX2_raiseNeighbours_65 : decode cX2_raiseNeighbours 65 = .ok (.invokestatic 79, 3) := by decide +kernel
theorem dX2_raiseNeighbours_68 : decode cX2_raiseNeighbours 68 = .ok (.ifCond .eq 11, 3) := by decide +kernel
theorem dX2_raiseNeighbours_71 : decode cX2_raiseNeighbours 71 = .ok (.aload_n 0, 1) := by decide +kernel
theorem dX2_raiseNeighbours_72 : decode cX2_raiseNeighbours 72 = .ok (.iload 6, 2) := by decide +kernel
theorem dX2_raiseNeighbours_74 : decode cX2_raiseNeighbours 74 = .ok (.iload 5, 2) := by decide +kernel
theorem dX2_raiseNeighbours_76 : decode cX2_raiseNeighbours 76 = .ok (.invokevirtual 75, 3) := by decide +kernel
theorem dX2_raiseNeighbours_79 : decode cX2_raiseNeighbours 79 = .ok (.iinc 6 1, 3) := by decide +kernel
theorem dX2_raiseNeighbours_82 : decode cX2_raiseNeighbours 82 = .ok (.goto (-28), 3) := by decide +kernel
theorem dX2_raiseNeighbours_85 : decode cX2_raiseNeighbours 85 = .ok (.return_, 1) := by decide +kernel
set_option maxRecDepth 20000 in
theorem ggX2_helps_X5_zonesApart : GoodIn wsX2_helps wsX5_zonesApart := goodIn_r _ [4, 5, 6, 7, 8, 9, 10, 11] (by decide +kernel) (by decide +kernel)
set_option maxRecDepth 20000 in
theorem gX2_helps_X5_zonesApart_n83 : GoodIn wsX2_helps (wsX5_zonesApart) := ggX2_helps_X5_zonesApart
theorem dX2_helps_0 : decode cX2_helps 0 = .ok (.aload_n 0, 1) := by decide +kernel
theorem dX2_helps_1 : decode cX2_helps 1 = .ok (.getfield 23, 3) := by decide +kernel
theorem dX2_helps_4 : decode cX2_helps 4 = .ok (.iload_n 2, 1) := by decide +kernel
theorem dX2_helps_5 : decode cX2_helps 5 = .ok (.baload, 1) := by decide +kernel
theorem dX2_helps_6 : decode cX2_helps 6 = .ok (.ifCond .ne 16, 3) := by decide +kernel
theorem dX2_helps_9 : decode cX2_helps 9 = .ok (.iload_n 1, 1) := by decide +kernel
theorem dX2_helps_10 : decode cX2_helps 10 = .ok (.iload_n 2, 1) := by decide +kernel
theorem dX2_helps_11 : decode cX2_helps 11 = .ok (.invokestatic 83, 3) := by decide +kernel
theorem dX2_helps_14 : decode cX2_helps 14 = .ok (.iconst 1, 1) := by decide +kernel
theorem dX2_helps_15 : decode cX2_helps 15 = .ok (.if_icmp .ne 7, 3) := by decide +kernel
theorem dX2_helps_18 : decode cX2_helps 18 = .ok (.iconst 1, 1) := by decide +kernel
theorem dX2_helps_19 : decode cX2_helps 19 = .ok (.goto 4, 3) := by decide +kernel
theorem dX2_helps_22 : decode cX2_helps 22 = .ok (.iconst 0, 1) := by decide +kernel
theorem dX2_helps_23 : decode cX2_helps 23 = .ok (.ireturn, 1) := by decide +kernel
theorem dX2_raise_0 : decode cX2_raise 0 = .ok (.aload_n 0, 1) := by decide +kernel
theorem dX2_raise_1 : decode cX2_raise 1 = .ok (.getfield 9, 3) := by decide +kernel
theorem dX2_raise_4 : decode cX2_raise 4 = .ok (.iload_n 1, 1) := by decide +kernel
theorem dX2_raise_5 : decode cX2_raise 5 = .ok (.sipush 255, 3) := by decide +kernel
theorem dX2_raise_8 : decode cX2_raise 8 = .ok (.aload_n 0, 1) := by decide +kernel
theorem dX2_raise_9 : decode cX2_raise 9 = .ok (.getfield 9, 3) := by decide +kernel
theorem dX2_raise_12 : decode cX2_raise 12 = .ok (.iload_n 1, 1) := by decide +kernel
theorem dX2_raise_13 : decode cX2_raise 13 = .ok (.iaload, 1) := by decide +kernel
theorem dX2_raise_14 : decode cX2_raise 14 = .ok (.iload_n 2, 1) := by decide +kernel
theorem dX2_raise_15 : decode cX2_raise 15 = .ok (.iadd, 1) := by decide +kernel
theorem dX2_raise_16 : decode cX2_raise 16 = .ok (.invokestatic 49, 3) := by decide +kernel
theorem dX2_raise_19 : decode cX2_raise 19 = .ok (.iastore, 1) := by decide +kernel
theorem dX2_raise_20 : decode cX2_raise 20 = .ok (.return_, 1) := by decide +kernel
set_option maxRecDepth 20000 in
theorem ggX2_lowerForBlack_X3_glow : GoodIn wsX2_lowerForBlack wsX3_glow := goodIn_r _ [7, 8, 9, 10, 11, 12, 13, 14, 15, 16, 17, 18, 30, 31, 32, 33, 34, 35, 36] (by decide +kernel) (by decide +kernel)
set_option maxRecDepth 20000 in
theorem gX2_lowerForBlack_X3_glow : GoodIn wsX2_lowerForBlack (wsV RX2 58 RX3 yX3_glow wsX3_glow) := goodIn_app (goodIn_of _ (by decide +kernel)) ggX2_lowerForBlack_X3_glow
set_option maxRecDepth 20000 in
theorem ggX2_lowerForBlack_X5_lightOf : GoodIn wsX2_lowerForBlack wsX5_lightOf := goodIn_r _ [20, 21, 22, 14, 23] (by decide +kernel) (by decide +kernel)
set_option maxRecDepth 20000 in
theorem gX2_lowerForBlack_X5_lightOf_n62 : GoodIn wsX2_lowerForBlack (wsX5_lightOf) := ggX2_lowerForBlack_X5_lightOf
set_option maxRecDepth 20000 in
theorem ggX2_lowerForBlack_X3_leakOf : GoodIn wsX2_lowerForBlack wsX3_leakOf := goodIn_r _ [27, 8, 30, 31, 32, 33, 34, 35, 36] (by decide +kernel) (by decide +kernel)
set_option maxRecDepth 20000 in
theorem gX2_lowerForBlack_X3_leakOf : GoodIn wsX2_lowerForBlack (wsV RX2 86 RX3 yX3_leakOf wsX3_leakOf) := goodIn_app (goodIn_of _ (by decide +kernel)) ggX2_lowerForBlack_X3_leakOf
theorem dX2_lowerForBlack_0 : decode cX2_lowerForBlack 0 = .ok (.aload_n 1, 1) := by decide +kernel
theorem dX2_lowerForBlack_1 : decode cX2_lowerForBlack 1 = .ok (.iload_n 2, 1) := by decide +kernel
theorem dX2_lowerForBlack_2 : decode cX2_lowerForBlack 2 = .ok (.aload_n 0, 1) := by decide +kernel
theorem dX2_lowerForBlack_3 : decode cX2_lowerForBlack 3 = .ok (.getfield 9, 3) := by decide +kernel
theorem dX2_lowerForBlack_6 : decode cX2_lowerForBlack 6 = .ok (.invokevirtual 58, 3) := by decide +kernel
theorem dX2_lowerForBlack_9 : decode cX2_lowerForBlack 9 = .ok (.istore_n 3, 1) := by decide +kernel
theorem dX2_lowerForBlack_10 : decode cX2_lowerForBlack 10 = .ok (.aload_n 0, 1) := by decide +kernel
theorem dX2_lowerForBlack_11 : decode cX2_lowerForBlack 11 = .ok (.getfield 9, 3) := by decide +kernel
theorem dX2_lowerForBlack_14 : decode cX2_lowerForBlack 14 = .ok (.iload_n 2, 1) := by decide +kernel
theorem dX2_lowerForBlack_15 : decode cX2_lowerForBlack 15 = .ok (.iaload, 1) := by decide +kernel
theorem dX2_lowerForBlack_16 : decode cX2_lowerForBlack 16 = .ok (.ifCond .le 43, 3) := by decide +kernel
theorem dX2_lowerForBlack_19 : decode cX2_lowerForBlack 19 = .ok (.aload_n 1, 1) := by decide +kernel
theorem dX2_lowerForBlack_20 : decode cX2_lowerForBlack 20 = .ok (.iload_n 3, 1) := by decide +kernel
theorem dX2_lowerForBlack_21 : decode cX2_lowerForBlack 21 = .ok (.invokestatic 62, 3) := by decide +kernel
theorem dX2_lowerForBlack_24 : decode cX2_lowerForBlack 24 = .ok (.invokevirtual 86, 3) := by decide +kernel
theorem dX2_lowerForBlack_27 : decode cX2_lowerForBlack 27 = .ok (.aload_n 1, 1) := by decide +kernel
theorem dX2_lowerForBlack_28 : decode cX2_lowerForBlack 28 = .ok (.getfield 31, 3) := by decide +kernel
theorem dX2_lowerForBlack_31 : decode cX2_lowerForBlack 31 = .ok (.bipush 6, 2) := by decide +kernel
theorem dX2_lowerForBlack_33 : decode cX2_lowerForBlack 33 = .ok (.iaload, 1) := by decide +kernel
theorem dX2_lowerForBlack_34 : decode cX2_lowerForBlack 34 = .ok (.if_icmp .le 25, 3) := by decide +kernel
theorem dX2_lowerForBlack_37 : decode cX2_lowerForBlack 37 = .ok (.aload_n 0, 1) := by decide +kernel
theorem dX2_lowerForBlack_38 : decode cX2_lowerForBlack 38 = .ok (.getfield 9, 3) := by decide +kernel
theorem dX2_lowerForBlack_41 : decode cX2_lowerForBlack 41 = .ok (.iload_n 2, 1) := by decide +kernel
theorem dX2_lowerForBlack_42 : decode cX2_lowerForBlack 42 = .ok (.dup2, 1) := by decide +kernel
theorem dX2_lowerForBlack_43 : decode cX2_lowerForBlack 43 = .ok (.iaload, 1) := by decide +kernel
theorem dX2_lowerForBlack_44 : decode cX2_lowerForBlack 44 = .ok (.iconst 1, 1) := by decide +kernel
theorem dX2_lowerForBlack_45 : decode cX2_lowerForBlack 45 = .ok (.isub, 1) := by decide +kernel
theorem dX2_lowerForBlack_46 : decode cX2_lowerForBlack 46 = .ok (.iastore, 1) := by decide +kernel
theorem dX2_lowerForBlack_47 : decode cX2_lowerForBlack 47 = .ok (.iload_n 3, 1) := by decide +kernel
theorem dX2_lowerForBlack_48 : decode cX2_lowerForBlack 48 = .ok (.aload_n 1, 1) := by decide +kernel
theorem dX2_lowerForBlack_49 : decode cX2_lowerForBlack 49 = .ok (.getfield 31, 3) := by decide +kernel
theorem dX2_lowerForBlack_52 : decode cX2_lowerForBlack 52 = .ok (.iconst 0, 1) := by decide +kernel
theorem dX2_lowerForBlack_53 : decode cX2_lowerForBlack 53 = .ok (.iaload, 1) := by decide +kernel
theorem dX2_lowerForBlack_54 : decode cX2_lowerForBlack 54 = .ok (.isub, 1) := by decide +kernel
theorem dX2_lowerForBlack_55 : decode cX2_lowerForBlack 55 = .ok (.istore_n 3, 1) := by decide +kernel
theorem dX2_lowerForBlack_56 : decode cX2_lowerForBlack 56 = .ok (.goto (-46), 3) := by decide +kernel
theorem dX2_lowerForBlack_59 : decode cX2_lowerForBlack 59 = .ok (.return_, 1) := by decide +kernel
theorem dX3_init_0 : decode cX3_init 0 = .ok (.aload_n 0, 1) := by decide +kernel
theorem dX3_init_1 : decode cX3_init 1 = .ok (.invokespecial 3, 3) := by decide +kernel
theorem dX3_init_4 : decode cX3_init 4 = .ok (.aload_n 0, 1) := by decide +kernel
theorem dX3_init_5 : decode cX3_init 5 = .ok (.sipush 288, 3) := by decide +kernel
theorem dX3_init_8 : decode cX3_init 8 = .ok (.newarray .int, 2) := by decide +kernel
theorem dX3_init_10 : decode cX3_init 10 = .ok (.putfield 9, 3) := by decide +kernel
theorem dX3_init_13 : decode cX3_init 13 = .ok (.aload_n 0, 1) := by decide +kernel
theorem dX3_init_14 : decode cX3_init 14 = .ok (.bipush 18, 2) := by decide +kernel
theorem dX3_init_16 : decode cX3_init 16 = .ok (.newarray .int, 2) := by decide +kernel
theorem dX3_init_18 : decode cX3_init 18 = .ok (.putfield 15, 3) := by decide +kernel
theorem dX3_init_21 : decode cX3_init 21 = .ok (.aload_n 0, 1) := by decide +kernel
theorem dX3_init_22 : decode cX3_init 22 = .ok (.bipush 18, 2) := by decide +kernel
theorem dX3_init_24 : decode cX3_init 24 = .ok (.newarray .boolean, 2) := by decide +kernel
theorem dX3_init_26 : decode cX3_init 26 = .ok (.putfield 18, 3) := by decide +kernel
theorem dX3_init_29 : decode cX3_init 29 = .ok (.aload_n 0, 1) := by decide +kernel
theorem dX3_init_30 : decode cX3_init 30 = .ok (.bipush 8, 2) := by decide +kernel
theorem dX3_init_32 : decode cX3_init 32 = .ok (.newarray .int, 2) := by decide +kernel
theorem dX3_init_34 : decode cX3_init 34 = .ok (.putfield 22, 3) := by decide +kernel
theorem dX3_init_37 : decode cX3_init 37 = .ok (.aload_n 0, 1) := by decide +kernel
theorem dX3_init_38 : decode cX3_init 38 = .ok (.iconst 0, 1) := by decide +kernel
theorem dX3_init_39 : decode cX3_init 39 = .ok (.putfield 25, 3) := by decide +kernel
theorem dX3_init_42 : decode cX3_init 42 = .ok (.aload_n 0, 1) := by decide +kernel
theorem dX3_init_43 : decode cX3_init 43 = .ok (.iconst 0, 1) := by decide +kernel
theorem dX3_init_44 : decode cX3_init 44 = .ok (.putfield 29, 3) := by decide +kernel
theorem dX3_init_47 : decode cX3_init 47 = .ok (.aload_n 0, 1) := by decide +kernel
theorem dX3_init_48 : decode cX3_init 48 = .ok (.iconst 0, 1) := by decide +kernel
theorem dX3_init_49 : decode cX3_init 49 = .ok (.putfield 32, 3) := by decide +kernel
theorem dX3_init_52 : decode cX3_init 52 = .ok (.getstatic 35, 3) := by decide +kernel
theorem dX3_init_55 : decode cX3_init 55 = .ok (.iconst 0, 1) := by decide +kernel
theorem dX3_init_56 : decode cX3_init 56 = .ok (.aload_n 0, 1) := by decide +kernel
theorem dX3_init_57 : decode cX3_init 57 = .ok (.getfield 22, 3) := by decide +kernel
theorem dX3_init_60 : decode cX3_init 60 = .ok (.iconst 0, 1) := by decide +kernel
theorem dX3_init_61 : decode cX3_init 61 = .ok (.bipush 8, 2) := by decide +kernel
theorem dX3_init_63 : decode cX3_init 63 = .ok (.invokestatic 38, 3) := by decide +kernel
theorem dX3_init_66 : decode cX3_init 66 = .ok (.return_, 1) := by decide +kernel
theorem dX3_copyFrom_0 : decode cX3_copyFrom 0 = .ok (.aload_n 1, 1) := by decide +kernel
theorem dX3_copyFrom_1 : decode cX3_copyFrom 1 = .ok (.getfield 9, 3) := by decide +kernel
theorem dX3_copyFrom_4 : decode cX3_copyFrom 4 = .ok (.iconst 0, 1) := by decide +kernel
theorem dX3_copyFrom_5 : decode cX3_copyFrom 5 = .ok (.aload_n 0, 1) := by decide +kernel
theorem dX3_copyFrom_6 : decode cX3_copyFrom 6 = .ok (.getfield 9, 3) := by decide +kernel
theorem dX3_copyFrom_9 : decode cX3_copyFrom 9 = .ok (.iconst 0, 1) := by decide +kernel
theorem dX3_copyFrom_10 : decode cX3_copyFrom 10 = .ok (.sipush 288, 3) := by decide +kernel
theorem dX3_copyFrom_13 : decode cX3_copyFrom 13 = .ok (.invokestatic 38, 3) := by decide +kernel
theorem dX3_copyFrom_16 : decode cX3_copyFrom 16 = .ok (.aload_n 1, 1) := by decide +kernel
theorem dX3_copyFrom_17 : decode cX3_copyFrom 17 = .ok (.getfield 15, 3) := by decide +kernel
theorem dX3_copyFrom_20 : decode cX3_copyFrom 20 = .ok (.iconst 0, 1) := by decide +kernel
theorem dX3_copyFrom_21 : decode cX3_copyFrom 21 = .ok (.aload_n 0, 1) := by decide +kernel
theorem dX3_copyFrom_22 : decode cX3_copyFrom 22 = .ok (.getfield 15, 3) := by decide +kernel
theorem dX3_copyFrom_25 : decode cX3_copyFrom 25 = .ok (.iconst 0, 1) := by decide +kernel
theorem dX3_copyFrom_26 : decode cX3_copyFrom 26 = .ok (.bipush 18, 2) := by decide +kernel
theorem dX3_copyFrom_28 : decode cX3_copyFrom 28 = .ok (.invokestatic 38, 3) := by decide +kernel
theorem dX3_copyFrom_31 : decode cX3_copyFrom 31 = .ok (.aload_n 1, 1) := by decide +kernel
theorem dX3_copyFrom_32 : decode cX3_copyFrom 32 = .ok (.getfield 22, 3) := by decide +kernel
theorem dX3_copyFrom_35 : decode cX3_copyFrom 35 = .ok (.iconst 0, 1) := by decide +kernel
theorem dX3_copyFrom_36 : decode cX3_copyFrom 36 = .ok (.aload_n 0, 1) := by decide +kernel
theorem dX3_copyFrom_37 : decode cX3_copyFrom 37 = .ok (.getfield 22, 3) := by decide +kernel
theorem dX3_copyFrom_40 : decode cX3_copyFrom 40 = .ok (.iconst 0, 1) := by decide +kernel
theorem dX3_copyFrom_41 : decode cX3_copyFrom 41 = .ok (.bipush 8, 2) := by decide +kernel
theorem dX3_copyFrom_43 : decode cX3_copyFrom 43 = .ok (.invokestatic 38, 3) := by decide +kernel
theorem dX3_copyFrom_46 : decode cX3_copyFrom 46 = .ok (.iconst 0, 1) := by decide +kernel
theorem dX3_copyFrom_47 : decode cX3_copyFrom 47 = .ok (.istore_n 2, 1) := by decide +kernel
theorem dX3_copyFrom_48 : decode cX3_copyFrom 48 = .ok (.iload_n 2, 1) := by decide +kernel
theorem dX3_copyFrom_49 : decode cX3_copyFrom 49 = .ok (.bipush 18, 2) := by decide +kernel
theorem dX3_copyFrom_51 : decode cX3_copyFrom 51 = .ok (.if_icmp .ge 21, 3) := by decide +kernel
theorem dX3_copyFrom_54 : decode cX3_copyFrom 54 = .ok (.aload_n 0, 1) := by decide +kernel
theorem dX3_copyFrom_55 : decode cX3_copyFrom 55 = .ok (.getfield 18, 3) := by decide +kernel
theorem dX3_copyFrom_58 : decode cX3_copyFrom 58 = .ok (.iload_n 2, 1) := by decide +kernel
theorem dX3_copyFrom_59 : decode cX3_copyFrom 59 = .ok (.aload_n 1, 1) := by decide +kernel
theorem dX3_copyFrom_60 : decode cX3_copyFrom 60 = .ok (.getfield 18, 3) := by decide +kernel
theorem dX3_copyFrom_63 : decode cX3_copyFrom 63 = .ok (.iload_n 2, 1) := by decide +kernel
theorem dX3_copyFrom_64 : decode cX3_copyFrom 64 = .ok (.baload, 1) := by decide +kernel
theorem dX3_copyFrom_65 : decode cX3_copyFrom 65 = .ok (.bastore, 1) := by decide +kernel
theorem dX3_copyFrom_66 : decode cX3_copyFrom 66 = .ok (.iinc 2 1, 3) := by decide +kernel
theorem dX3_copyFrom_69 : decode cX3_copyFrom 69 = .ok (.goto (-21), 3) := by decide +kernel
theorem dX3_copyFrom_72 : decode cX3_copyFrom 72 = .ok (.aload_n 0, 1) := by decide +kernel
theorem dX3_copyFrom_73 : decode cX3_copyFrom 73 = .ok (.aload_n 1, 1) := by decide +kernel
theorem dX3_copyFrom_74 : decode cX3_copyFrom 74 = .ok (.getfield 25, 3) := by decide +kernel
theorem dX3_copyFrom_77 : decode cX3_copyFrom 77 = .ok (.putfield 25, 3) := by decide +kernel
theorem dX3_copyFrom_80 : decode cX3_copyFrom 80 = .ok (.aload_n 0, 1) := by decide +kernel
theorem dX3_copyFrom_81 : decode cX3_copyFrom 81 = .ok (.aload_n 1, 1) := by decide +kernel
theorem dX3_copyFrom_82 : decode cX3_copyFrom 82 = .ok (.getfield 29, 3) := by decide +kernel
theorem dX3_copyFrom_85 : decode cX3_copyFrom 85 = .ok (.putfield 29, 3) := by decide +kernel
theorem dX3_copyFrom_88 : decode cX3_copyFrom 88 = .ok (.aload_n 0, 1) := by decide +kernel
theorem dX3_copyFrom_89 : decode cX3_copyFrom 89 = .ok (.aload_n 1, 1) := by decide +kernel
theorem dX3_copyFrom_90 : decode cX3_copyFrom 90 = .ok (.getfield 32, 3) := by decide +kernel
theorem dX3_copyFrom_93 : decode cX3_copyFrom 93 = .ok (.putfield 32, 3) := by decide +kernel
theorem dX3_copyFrom_96 : decode cX3_copyFrom 96 = .ok (.return_, 1) := by decide +kernel
set_option maxRecDepth 20000 in
theorem ggX3_paint_X5_spotAt : GoodIn wsX3_paint wsX5_spotAt := goodIn_r _ [11] (by decide +kernel) (by decide +kernel)
set_option maxRecDepth 20000 in
theorem gX3_paint_X5_spotAt_n53 : GoodIn wsX3_paint (wsX5_spotAt) := ggX3_paint_X5_spotAt
theorem dX3_paint_0 : decode cX3_paint 0 = .ok (.bipush 24, 2) := by decide +kernel
theorem dX3_paint_2 : decode cX3_paint 2 = .ok (.iload_n 1, 1) := by decide +kernel
theorem dX3_paint_3 : decode cX3_paint 3 = .ok (.iload_n 3, 1) := by decide +kernel
theorem dX3_paint_4 : decode cX3_paint 4 = .ok (.iadd, 1) := by decide +kernel
theorem dX3_paint_5 : decode cX3_paint 5 = .ok (.invokestatic 44, 3) := by decide +kernel
theorem dX3_paint_8 : decode cX3_paint 8 = .ok (.istore 6, 2) := by decide +kernel
theorem dX3_paint_10 : decode cX3_paint 10 = .ok (.bipush 12, 2) := by decide +kernel
theorem dX3_paint_12 : decode cX3_paint 12 = .ok (.iload_n 2, 1) := by decide +kernel
theorem dX3_paint_13 : decode cX3_paint 13 = .ok (.iload 4, 2) := by decide +kernel
theorem dX3_paint_15 : decode cX3_paint 15 = .ok (.iadd, 1) := by decide +kernel
theorem dX3_paint_16 : decode cX3_paint 16 = .ok (.invokestatic 44, 3) := by decide +kernel
theorem dX3_paint_19 : decode cX3_paint 19 = .ok (.istore 7, 2) := by decide +kernel
theorem dX3_paint_21 : decode cX3_paint 21 = .ok (.iconst 0, 1) := by decide +kernel
theorem dX3_paint_22 : decode cX3_paint 22 = .ok (.iload_n 2, 1) := by decide +kernel
theorem dX3_paint_23 : decode cX3_paint 23 = .ok (.invokestatic 50, 3) := by decide +kernel
theorem dX3_paint_26 : decode cX3_paint 26 = .ok (.istore 8, 2) := by decide +kernel
theorem dX3_paint_28 : decode cX3_paint 28 = .ok (.iload 8, 2) := by decide +kernel
theorem dX3_paint_30 : decode cX3_paint 30 = .ok (.iload 7, 2) := by decide +kernel
theorem dX3_paint_32 : decode cX3_paint 32 = .ok (.if_icmp .ge 43, 3) := by decide +kernel
theorem dX3_paint_35 : decode cX3_paint 35 = .ok (.iconst 0, 1) := by decide +kernel
theorem dX3_paint_36 : decode cX3_paint 36 = .ok (.iload_n 1, 1) := by decide +kernel
theorem dX3_paint_37 : decode cX3_paint 37 = .ok (.invokestatic 50, 3) := by decide +kernel
theorem dX3_paint_40 : decode cX3_paint 40 = .ok (.istore 9, 2) := by decide +kernel
theorem dX3_paint_42 : decode cX3_paint 42 = .ok (.iload 9, 2) := by decide +kernel
theorem dX3_paint_44 : decode cX3_paint 44 = .ok (.iload 6, 2) := by decide +kernel
theorem dX3_paint_46 : decode cX3_paint 46 = .ok (.if_icmp .ge 23, 3) := by decide +kernel
theorem dX3_paint_49 : decode cX3_paint 49 = .ok (.aload_n 0, 1) := by decide +kernel
theorem dX3_paint_50 : decode cX3_paint 50 = .ok (.getfield 9, 3) := by decide +kernel
theorem dX3_paint_53 : decode cX3_paint 53 = .ok (.iload 9, 2) := by decide +kernel
theorem dX3_paint_55 : decode cX3_paint 55 = .ok (.iload 8, 2) := by decide +kernel
theorem dX3_paint_57 : decode cX3_paint 57 = .ok (.invokestatic 53, 3) := by decide +kernel
theorem dX3_paint_60 : decode cX3_paint 60 = .ok (.iload 5, 2) := by decide +kernel
theorem dX3_paint_62 : decode cX3_paint 62 = .ok (.iastore, 1) := by decide +kernel
theorem dX3_paint_63 : decode cX3_paint 63 = .ok (.iinc 9 1, 3) := by decide +kernel
theorem dX3_paint_66 : decode cX3_paint 66 = .ok (.goto (-24), 3) := by decide +kernel
theorem dX3_paint_69 : decode cX3_paint 69 = .ok (.iinc 8 1, 3) := by decide +kernel
theorem dX3_paint_72 : decode cX3_paint 72 = .ok (.goto (-44), 3) := by decide +kernel
theorem dX3_paint_75 : decode cX3_paint 75 = .ok (.return_, 1) := by decide +kernel
set_option maxRecDepth 20000 in
theorem ggX3_takeShifted_X5_onScreen : GoodIn wsX3_takeShifted wsX5_onScreen := goodIn_r _ [4] (by decide +kernel) (by decide +kernel)
set_option maxRecDepth 20000 in
theorem gX3_takeShifted_X5_onScreen_n56 : GoodIn wsX3_takeShifted (wsX5_onScreen) := ggX3_takeShifted_X5_onScreen
set_option maxRecDepth 20000 in
theorem ggX3_takeShifted_X5_spotAt : GoodIn wsX3_takeShifted wsX5_spotAt := goodIn_r _ [6] (by decide +kernel) (by decide +kernel)
set_option maxRecDepth 20000 in
theorem gX3_takeShifted_X5_spotAt_n53 : GoodIn wsX3_takeShifted (wsX5_spotAt) := ggX3_takeShifted_X5_spotAt
theorem dX3_takeShifted_0 : decode cX3_takeShifted 0 = .ok (.iconst 0, 1) := by decide +kernel
theorem dX3_takeShifted_1 : decode cX3_takeShifted 1 = .ok (.istore 4, 2) := by decide +kernel
theorem dX3_takeShifted_3 : decode cX3_takeShifted 3 = .ok (.iload 4, 2) := by decide +kernel
theorem dX3_takeShifted_5 : decode cX3_takeShifted 5 = .ok (.bipush 12, 2) := by decide +kernel
theorem dX3_takeShifted_7 : decode cX3_takeShifted 7 = .ok (.if_icmp .ge 72, 3) := by decide +kernel
theorem dX3_takeShifted_10 : decode cX3_takeShifted 10 = .ok (.iconst 0, 1) := by decide +kernel
theorem dX3_takeShifted_11 : decode cX3_takeShifted 11 = .ok (.istore 5, 2) := by decide +kernel
theorem dX3_takeShifted_13 : decode cX3_takeShifted 13 = .ok (.iload 5, 2) := by decide +kernel
theorem dX3_takeShifted_15 : decode cX3_takeShifted 15 = .ok (.bipush 24, 2) := by decide +kernel
theorem dX3_takeShifted_17 : decode cX3_takeShifted 17 = .ok (.if_icmp .ge 56, 3) := by decide +kernel
theorem dX3_takeShifted_20 : decode cX3_takeShifted 20 = .ok (.iload 5, 2) := by decide +kernel
theorem dX3_takeShifted_22 : decode cX3_takeShifted 22 = .ok (.iload_n 2, 1) := by decide +kernel
theorem dX3_takeShifted_23 : decode cX3_takeShifted 23 = .ok (.iadd, 1) := by decide +kernel
theorem dX3_takeShifted_24 : decode cX3_takeShifted 24 = .ok (.iload 4, 2) := by decide +kernel
theorem dX3_takeShifted_26 : decode cX3_takeShifted 26 = .ok (.iload_n 3, 1) := by decide +kernel
theorem dX3_takeShifted_27 : decode cX3_takeShifted 27 = .ok (.iadd, 1) := by decide +kernel
theorem dX3_takeShifted_28 : decode cX3_takeShifted 28 = .ok (.invokestatic 56, 3) := by decide +kernel
theorem dX3_takeShifted_31 : decode cX3_takeShifted 31 = .ok (.istore 6, 2) := by decide +kernel
theorem dX3_takeShifted_33 : decode cX3_takeShifted 33 = .ok (.aload_n 0, 1) := by decide +kernel
theorem dX3_takeShifted_34 : decode cX3_takeShifted 34 = .ok (.getfield 9, 3) := by decide +kernel
theorem dX3_takeShifted_37 : decode cX3_takeShifted 37 = .ok (.iload 5, 2) := by decide +kernel
theorem dX3_takeShifted_39 : decode cX3_takeShifted 39 = .ok (.iload 4, 2) := by decide +kernel
theorem dX3_takeShifted_41 : decode cX3_takeShifted 41 = .ok (.invokestatic 53, 3) := by decide +kernel
theorem dX3_takeShifted_44 : decode cX3_takeShifted 44 = .ok (.iload 6, 2) := by decide +kernel
theorem dX3_takeShifted_46 : decode cX3_takeShifted 46 = .ok (.ifCond .eq 19, 3) := by decide +kernel
theorem dX3_takeShifted_49 : decode cX3_takeShifted 49 = .ok (.aload_n 1, 1) := by decide +kernel
theorem dX3_takeShifted_50 : decode cX3_takeShifted 50 = .ok (.iload 5, 2) := by decide +kernel
theorem dX3_takeShifted_52 : decode cX3_takeShifted 52 = .ok (.iload_n 2, 1) := by decide +kernel
theorem dX3_takeShifted_53 : decode cX3_takeShifted 53 = .ok (.iadd, 1) := by decide +kernel
theorem dX3_takeShifted_54 : decode cX3_takeShifted 54 = .ok (.iload 4, 2) := by decide +kernel
theorem dX3_takeShifted_56 : decode cX3_takeShifted 56 = .ok (.iload_n 3, 1) := by decide +kernel
theorem dX3_takeShifted_57 : decode cX3_takeShifted 57 = .ok (.iadd, 1) := by decide +kernel
theorem dX3_takeShifted_58 : decode cX3_takeShifted 58 = .ok (.invokestatic 53, 3) := by decide +kernel
theorem dX3_takeShifted_61 : decode cX3_takeShifted 61 = .ok (.iaload, 1) := by decide +kernel
theorem dX3_takeShifted_62 : decode cX3_takeShifted 62 = .ok (.goto 4, 3) := by decide +kernel
theorem dX3_takeShifted_65 : decode cX3_takeShifted 65 = .ok (.iconst 0, 1) := by decide +kernel
theorem dX3_takeShifted_66 : decode cX3_takeShifted 66 = .ok (.iastore, 1) := by decide +kernel
theorem dX3_takeShifted_67 : decode cX3_takeShifted 67 = .ok (.iinc 5 1, 3) := by decide +kernel
theorem dX3_takeShifted_70 : decode cX3_takeShifted 70 = .ok (.goto (-57), 3) := by decide +kernel
theorem dX3_takeShifted_73 : decode cX3_takeShifted 73 = .ok (.iinc 4 1, 3) := by decide +kernel
theorem dX3_takeShifted_76 : decode cX3_takeShifted 76 = .ok (.goto (-73), 3) := by decide +kernel
theorem dX3_takeShifted_79 : decode cX3_takeShifted 79 = .ok (.return_, 1) := by decide +kernel
set_option maxRecDepth 20000 in
theorem ggX3_peak_X5_spotOfZone : GoodIn wsX3_peak wsX5_spotOfZone := goodIn_r _ [8, 9, 10, 7, 11] (by decide +kernel) (by decide +kernel)
set_option maxRecDepth 20000 in
theorem gX3_peak_X5_spotOfZone_n60 : GoodIn wsX3_peak (wsX5_spotOfZone) := ggX3_peak_X5_spotOfZone
theorem dX3_peak_0 : decode cX3_peak 0 = .ok (.iconst 0, 1) := by decide +kernel
theorem dX3_peak_1 : decode cX3_peak 1 = .ok (.istore_n 2, 1) := by decide +kernel
theorem dX3_peak_2 : decode cX3_peak 2 = .ok (.iconst 0, 1) := by decide +kernel
theorem dX3_peak_3 : decode cX3_peak 3 = .ok (.istore_n 3, 1) := by decide +kernel
theorem dX3_peak_4 : decode cX3_peak 4 = .ok (.iload_n 3, 1) := by decide +kernel
theorem dX3_peak_5 : decode cX3_peak 5 = .ok (.bipush 16, 2) := by decide +kernel
theorem dX3_peak_7 : decode cX3_peak 7 = .ok (.if_icmp .ge 24, 3) := by decide +kernel
theorem dX3_peak_10 : decode cX3_peak 10 = .ok (.iload_n 2, 1) := by decide +kernel
theorem dX3_peak_11 : decode cX3_peak 11 = .ok (.aload_n 0, 1) := by decide +kernel
theorem dX3_peak_12 : decode cX3_peak 12 = .ok (.getfield 9, 3) := by decide +kernel
theorem dX3_peak_15 : decode cX3_peak 15 = .ok (.iload_n 1, 1) := by decide +kernel
theorem dX3_peak_16 : decode cX3_peak 16 = .ok (.iload_n 3, 1) := by decide +kernel
theorem dX3_peak_17 : decode cX3_peak 17 = .ok (.invokestatic 60, 3) := by decide +kernel
theorem dX3_peak_20 : decode cX3_peak 20 = .ok (.iaload, 1) := by decide +kernel
theorem dX3_peak_21 : decode cX3_peak 21 = .ok (.invokestatic 50, 3) := by decide +kernel
theorem dX3_peak_24 : decode cX3_peak 24 = .ok (.istore_n 2, 1) := by decide +kernel
theorem dX3_peak_25 : decode cX3_peak 25 = .ok (.iinc 3 1, 3) := by decide +kernel
theorem dX3_peak_28 : decode cX3_peak 28 = .ok (.goto (-24), 3) := by decide +kernel
theorem dX3_peak_31 : decode cX3_peak 31 = .ok (.iload_n 2, 1) := by decide +kernel
theorem dX3_peak_32 : decode cX3_peak 32 = .ok (.ireturn, 1) := by decide +kernel
set_option maxRecDepth 20000 in
theorem ggX3_mean_X5_spotOfZone : GoodIn wsX3_mean wsX5_spotOfZone := goodIn_r _ [4, 5, 6, 3, 7] (by decide +kernel) (by decide +kernel)
set_option maxRecDepth 20000 in
theorem gX3_mean_X5_spotOfZone_n60 : GoodIn wsX3_mean (wsX5_spotOfZone) := ggX3_mean_X5_spotOfZone
theorem dX3_mean_0 : decode cX3_mean 0 = .ok (.iconst 0, 1) := by decide +kernel
theorem dX3_mean_1 : decode cX3_mean 1 = .ok (.istore_n 2, 1) := by decide +kernel
theorem dX3_mean_2 : decode cX3_mean 2 = .ok (.iconst 0, 1) := by decide +kernel
theorem dX3_mean_3 : decode cX3_mean 3 = .ok (.istore_n 3, 1) := by decide +kernel
theorem dX3_mean_4 : decode cX3_mean 4 = .ok (.iload_n 3, 1) := by decide +kernel
theorem dX3_mean_5 : decode cX3_mean 5 = .ok (.bipush 16, 2) := by decide +kernel
theorem dX3_mean_7 : decode cX3_mean 7 = .ok (.if_icmp .ge 22, 3) := by decide +kernel
theorem dX3_mean_10 : decode cX3_mean 10 = .ok (.iload_n 2, 1) := by decide +kernel
theorem dX3_mean_11 : decode cX3_mean 11 = .ok (.aload_n 0, 1) := by decide +kernel
theorem dX3_mean_12 : decode cX3_mean 12 = .ok (.getfield 9, 3) := by decide +kernel
theorem dX3_mean_15 : decode cX3_mean 15 = .ok (.iload_n 1, 1) := by decide +kernel
theorem dX3_mean_16 : decode cX3_mean 16 = .ok (.iload_n 3, 1) := by decide +kernel
theorem dX3_mean_17 : decode cX3_mean 17 = .ok (.invokestatic 60, 3) := by decide +kernel
theorem dX3_mean_20 : decode cX3_mean 20 = .ok (.iaload, 1) := by decide +kernel
theorem dX3_mean_21 : decode cX3_mean 21 = .ok (.iadd, 1) := by decide +kernel
theorem dX3_mean_22 : decode cX3_mean 22 = .ok (.istore_n 2, 1) := by decide +kernel
theorem dX3_mean_23 : decode cX3_mean 23 = .ok (.iinc 3 1, 3) := by decide +kernel
theorem dX3_mean_26 : decode cX3_mean 26 = .ok (.goto (-22), 3) := by decide +kernel
theorem dX3_mean_29 : decode cX3_mean 29 = .ok (.iload_n 2, 1) := by decide +kernel
theorem dX3_mean_30 : decode cX3_mean 30 = .ok (.bipush 16, 2) := by decide +kernel
theorem dX3_mean_32 : decode cX3_mean 32 = .ok (.idiv, 1) := by decide +kernel
theorem dX3_mean_33 : decode cX3_mean 33 = .ok (.ireturn, 1) := by decide +kernel
set_option maxRecDepth 20000 in
theorem ggX3_asksBlack_X5_spotOfZone : GoodIn wsX3_asksBlack wsX5_spotOfZone := goodIn_r _ [4, 5, 6, 3, 7] (by decide +kernel) (by decide +kernel)
set_option maxRecDepth 20000 in
theorem gX3_asksBlack_X5_spotOfZone_n60 : GoodIn wsX3_asksBlack (wsX5_spotOfZone) := ggX3_asksBlack_X5_spotOfZone
theorem dX3_asksBlack_0 : decode cX3_asksBlack 0 = .ok (.iconst 0, 1) := by decide +kernel
theorem dX3_asksBlack_1 : decode cX3_asksBlack 1 = .ok (.istore_n 2, 1) := by decide +kernel
theorem dX3_asksBlack_2 : decode cX3_asksBlack 2 = .ok (.iload_n 2, 1) := by decide +kernel
theorem dX3_asksBlack_3 : decode cX3_asksBlack 3 = .ok (.bipush 16, 2) := by decide +kernel
theorem dX3_asksBlack_5 : decode cX3_asksBlack 5 = .ok (.if_icmp .ge 24, 3) := by decide +kernel
theorem dX3_asksBlack_8 : decode cX3_asksBlack 8 = .ok (.aload_n 0, 1) := by decide +kernel
theorem dX3_asksBlack_9 : decode cX3_asksBlack 9 = .ok (.getfield 9, 3) := by decide +kernel
theorem dX3_asksBlack_12 : decode cX3_asksBlack 12 = .ok (.iload_n 1, 1) := by decide +kernel
theorem dX3_asksBlack_13 : decode cX3_asksBlack 13 = .ok (.iload_n 2, 1) := by decide +kernel
theorem dX3_asksBlack_14 : decode cX3_asksBlack 14 = .ok (.invokestatic 60, 3) := by decide +kernel
theorem dX3_asksBlack_17 : decode cX3_asksBlack 17 = .ok (.iaload, 1) := by decide +kernel
theorem dX3_asksBlack_18 : decode cX3_asksBlack 18 = .ok (.ifCond .ne 5, 3) := by decide +kernel
theorem dX3_asksBlack_21 : decode cX3_asksBlack 21 = .ok (.iconst 1, 1) := by decide +kernel
theorem dX3_asksBlack_22 : decode cX3_asksBlack 22 = .ok (.ireturn, 1) := by decide +kernel
theorem dX3_asksBlack_23 : decode cX3_asksBlack 23 = .ok (.iinc 2 1, 3) := by decide +kernel
theorem dX3_asksBlack_26 : decode cX3_asksBlack 26 = .ok (.goto (-24), 3) := by decide +kernel
theorem dX3_asksBlack_29 : decode cX3_asksBlack 29 = .ok (.iconst 0, 1) := by decide +kernel
theorem dX3_asksBlack_30 : decode cX3_asksBlack 30 = .ok (.ireturn, 1) := by decide +kernel
set_option maxRecDepth 20000 in
theorem ggX3_glow_X5_zonesApart : GoodIn wsX3_glow wsX5_zonesApart := goodIn_r _ [4, 5, 6, 7, 8, 9, 10, 11] (by decide +kernel) (by decide +kernel)
set_option maxRecDepth 20000 in
theorem gX3_glow_X5_zonesApart_n63 : GoodIn wsX3_glow (wsX5_zonesApart) := ggX3_glow_X5_zonesApart
theorem dX3_glow_0 : decode cX3_glow 0 = .ok (.iconst 0, 1) := by decide +kernel
theorem dX3_glow_1 : decode cX3_glow 1 = .ok (.istore_n 3, 1) := by decide +kernel
theorem dX3_glow_2 : decode cX3_glow 2 = .ok (.iconst 0, 1) := by decide +kernel
theorem dX3_glow_3 : decode cX3_glow 3 = .ok (.istore 4, 2) := by decide +kernel
theorem dX3_glow_5 : decode cX3_glow 5 = .ok (.iload 4, 2) := by decide +kernel
theorem dX3_glow_7 : decode cX3_glow 7 = .ok (.bipush 18, 2) := by decide +kernel
theorem dX3_glow_9 : decode cX3_glow 9 = .ok (.if_icmp .ge 38, 3) := by decide +kernel
theorem dX3_glow_12 : decode cX3_glow 12 = .ok (.iload_n 1, 1) := by decide +kernel
theorem dX3_glow_13 : decode cX3_glow 13 = .ok (.iload 4, 2) := by decide +kernel
theorem dX3_glow_15 : decode cX3_glow 15 = .ok (.invokestatic 63, 3) := by decide +kernel
theorem dX3_glow_18 : decode cX3_glow 18 = .ok (.istore 5, 2) := by decide +kernel
theorem dX3_glow_20 : decode cX3_glow 20 = .ok (.iload 5, 2) := by decide +kernel
theorem dX3_glow_22 : decode cX3_glow 22 = .ok (.iconst 3, 1) := by decide +kernel
theorem dX3_glow_23 : decode cX3_glow 23 = .ok (.if_icmp .ge 18, 3) := by decide +kernel
theorem dX3_glow_26 : decode cX3_glow 26 = .ok (.iload_n 3, 1) := by decide +kernel
theorem dX3_glow_27 : decode cX3_glow 27 = .ok (.aload_n 2, 1) := by decide +kernel
theorem dX3_glow_28 : decode cX3_glow 28 = .ok (.iload 4, 2) := by decide +kernel
theorem dX3_glow_30 : decode cX3_glow 30 = .ok (.iaload, 1) := by decide +kernel
theorem dX3_glow_31 : decode cX3_glow 31 = .ok (.aload_n 0, 1) := by decide +kernel
theorem dX3_glow_32 : decode cX3_glow 32 = .ok (.getfield 22, 3) := by decide +kernel
theorem dX3_glow_35 : decode cX3_glow 35 = .ok (.iload 5, 2) := by decide +kernel
theorem dX3_glow_37 : decode cX3_glow 37 = .ok (.iaload, 1) := by decide +kernel
theorem dX3_glow_38 : decode cX3_glow 38 = .ok (.imul, 1) := by decide +kernel
theorem dX3_glow_39 : decode cX3_glow 39 = .ok (.iadd, 1) := by decide +kernel
theorem dX3_glow_40 : decode cX3_glow 40 = .ok (.istore_n 3, 1) := by decide +kernel
theorem dX3_glow_41 : decode cX3_glow 41 = .ok (.iinc 4 1, 3) := by decide +kernel
theorem dX3_glow_44 : decode cX3_glow 44 = .ok (.goto (-39), 3) := by decide +kernel
theorem dX3_glow_47 : decode cX3_glow 47 = .ok (.iload_n 3, 1) := by decide +kernel
theorem dX3_glow_48 : decode cX3_glow 48 = .ok (.ireturn, 1) := by decide +kernel
set_option maxRecDepth 20000 in
theorem ggX3_light_X3_glow : GoodIn wsX3_light wsX3_glow := goodIn_r _ [6, 7, 8, 9, 10, 11, 12, 13, 14, 15, 16, 17, 23, 24, 25, 26, 27, 28, 29] (by decide +kernel) (by decide +kernel)
set_option maxRecDepth 20000 in
theorem gX3_light_X3_glow : GoodIn wsX3_light (wsV RX3 66 RX3 yX3_glow wsX3_glow) := goodIn_app (goodIn_of _ (by decide +kernel)) ggX3_light_X3_glow
set_option maxRecDepth 20000 in
theorem ggX3_light_X5_lightOf : GoodIn wsX3_light wsX5_lightOf := goodIn_r _ [19, 20, 21, 13, 22] (by decide +kernel) (by decide +kernel)
set_option maxRecDepth 20000 in
theorem gX3_light_X5_lightOf_n70 : GoodIn wsX3_light (wsX5_lightOf) := ggX3_light_X5_lightOf
theorem dX3_light_0 : decode cX3_light 0 = .ok (.aload_n 0, 1) := by decide +kernel
theorem dX3_light_1 : decode cX3_light 1 = .ok (.iload_n 1, 1) := by decide +kernel
theorem dX3_light_2 : decode cX3_light 2 = .ok (.aload_n 0, 1) := by decide +kernel
theorem dX3_light_3 : decode cX3_light 3 = .ok (.getfield 15, 3) := by decide +kernel
theorem dX3_light_6 : decode cX3_light 6 = .ok (.invokevirtual 66, 3) := by decide +kernel
theorem dX3_light_9 : decode cX3_light 9 = .ok (.invokestatic 70, 3) := by decide +kernel
theorem dX3_light_12 : decode cX3_light 12 = .ok (.ireturn, 1) := by decide +kernel
theorem dX3_leakOf_0 : decode cX3_leakOf 0 = .ok (.iload_n 1, 1) := by decide +kernel
theorem dX3_leakOf_1 : decode cX3_leakOf 1 = .ok (.aload_n 0, 1) := by decide +kernel
theorem dX3_leakOf_2 : decode cX3_leakOf 2 = .ok (.getfield 22, 3) := by decide +kernel
theorem dX3_leakOf_5 : decode cX3_leakOf 5 = .ok (.iconst 5, 1) := by decide +kernel
theorem dX3_leakOf_6 : decode cX3_leakOf 6 = .ok (.iaload, 1) := by decide +kernel
theorem dX3_leakOf_7 : decode cX3_leakOf 7 = .ok (.imul, 1) := by decide +kernel
theorem dX3_leakOf_8 : decode cX3_leakOf 8 = .ok (.sipush 1000, 3) := by decide +kernel
theorem dX3_leakOf_11 : decode cX3_leakOf 11 = .ok (.idiv, 1) := by decide +kernel
theorem dX3_leakOf_12 : decode cX3_leakOf 12 = .ok (.ireturn, 1) := by decide +kernel
set_option maxRecDepth 20000 in
theorem ggX3_shown_X5_glassFor : GoodIn wsX3_shown wsX5_glassFor := goodIn_r _ [7, 8, 9, 3, 10, 11, 12, 6, 13] (by decide +kernel) (by decide +kernel)
set_option maxRecDepth 20000 in
theorem gX3_shown_X5_glassFor_n74 : GoodIn wsX3_shown (wsX5_glassFor) := ggX3_shown_X5_glassFor
set_option maxRecDepth 20000 in
theorem ggX3_shown_X3_leakOf : GoodIn wsX3_shown wsX3_leakOf := goodIn_r _ [18, 19, 20, 21, 22, 23, 24, 25, 26] (by decide +kernel) (by decide +kernel)
set_option maxRecDepth 20000 in
theorem gX3_shown_X3_leakOf : GoodIn wsX3_shown (wsV RX3 77 RX3 yX3_leakOf wsX3_leakOf) := goodIn_app (goodIn_of _ (by decide +kernel)) ggX3_shown_X3_leakOf
theorem dX3_shown_0 : decode cX3_shown 0 = .ok (.iload_n 2, 1) := by decide +kernel
theorem dX3_shown_1 : decode cX3_shown 1 = .ok (.iload_n 1, 1) := by decide +kernel
theorem dX3_shown_2 : decode cX3_shown 2 = .ok (.iload_n 2, 1) := by decide +kernel
theorem dX3_shown_3 : decode cX3_shown 3 = .ok (.invokestatic 74, 3) := by decide +kernel
theorem dX3_shown_6 : decode cX3_shown 6 = .ok (.imul, 1) := by decide +kernel
theorem dX3_shown_7 : decode cX3_shown 7 = .ok (.sipush 255, 3) := by decide +kernel
theorem dX3_shown_10 : decode cX3_shown 10 = .ok (.idiv, 1) := by decide +kernel
theorem dX3_shown_11 : decode cX3_shown 11 = .ok (.aload_n 0, 1) := by decide +kernel
theorem dX3_shown_12 : decode cX3_shown 12 = .ok (.iload_n 2, 1) := by decide +kernel
theorem dX3_shown_13 : decode cX3_shown 13 = .ok (.invokevirtual 77, 3) := by decide +kernel
theorem dX3_shown_16 : decode cX3_shown 16 = .ok (.invokestatic 50, 3) := by decide +kernel
theorem dX3_shown_19 : decode cX3_shown 19 = .ok (.ireturn, 1) := by decide +kernel
theorem dX3_power_0 : decode cX3_power 0 = .ok (.iconst 0, 1) := by decide +kernel
theorem dX3_power_1 : decode cX3_power 1 = .ok (.istore_n 1, 1) := by decide +kernel
theorem dX3_power_2 : decode cX3_power 2 = .ok (.iconst 0, 1) := by decide +kernel
theorem dX3_power_3 : decode cX3_power 3 = .ok (.istore_n 2, 1) := by decide +kernel
theorem dX3_power_4 : decode cX3_power 4 = .ok (.iload_n 2, 1) := by decide +kernel
theorem dX3_power_5 : decode cX3_power 5 = .ok (.bipush 18, 2) := by decide +kernel
theorem dX3_power_7 : decode cX3_power 7 = .ok (.if_icmp .ge 18, 3) := by decide +kernel
theorem dX3_power_10 : decode cX3_power 10 = .ok (.iload_n 1, 1) := by decide +kernel
theorem dX3_power_11 : decode cX3_power 11 = .ok (.aload_n 0, 1) := by decide +kernel
theorem dX3_power_12 : decode cX3_power 12 = .ok (.getfield 15, 3) := by decide +kernel
theorem dX3_power_15 : decode cX3_power 15 = .ok (.iload_n 2, 1) := by decide +kernel
theorem dX3_power_16 : decode cX3_power 16 = .ok (.iaload, 1) := by decide +kernel
theorem dX3_power_17 : decode cX3_power 17 = .ok (.iadd, 1) := by decide +kernel
theorem dX3_power_18 : decode cX3_power 18 = .ok (.istore_n 1, 1) := by decide +kernel
theorem dX3_power_19 : decode cX3_power 19 = .ok (.iinc 2 1, 3) := by decide +kernel
theorem dX3_power_22 : decode cX3_power 22 = .ok (.goto (-18), 3) := by decide +kernel
theorem dX3_power_25 : decode cX3_power 25 = .ok (.iload_n 1, 1) := by decide +kernel
theorem dX3_power_26 : decode cX3_power 26 = .ok (.ireturn, 1) := by decide +kernel
theorem dX3_deadZones_0 : decode cX3_deadZones 0 = .ok (.iconst 0, 1) := by decide +kernel
theorem dX3_deadZones_1 : decode cX3_deadZones 1 = .ok (.istore_n 1, 1) := by decide +kernel
theorem dX3_deadZones_2 : decode cX3_deadZones 2 = .ok (.iconst 0, 1) := by decide +kernel
theorem dX3_deadZones_3 : decode cX3_deadZones 3 = .ok (.istore_n 2, 1) := by decide +kernel
theorem dX3_deadZones_4 : decode cX3_deadZones 4 = .ok (.iload_n 2, 1) := by decide +kernel
theorem dX3_deadZones_5 : decode cX3_deadZones 5 = .ok (.bipush 18, 2) := by decide +kernel
theorem dX3_deadZones_7 : decode cX3_deadZones 7 = .ok (.if_icmp .ge 21, 3) := by decide +kernel
theorem dX3_deadZones_10 : decode cX3_deadZones 10 = .ok (.aload_n 0, 1) := by decide +kernel
theorem dX3_deadZones_11 : decode cX3_deadZones 11 = .ok (.getfield 18, 3) := by decide +kernel
theorem dX3_deadZones_14 : decode cX3_deadZones 14 = .ok (.iload_n 2, 1) := by decide +kernel
theorem dX3_deadZones_15 : decode cX3_deadZones 15 = .ok (.baload, 1) := by decide +kernel
theorem dX3_deadZones_16 : decode cX3_deadZones 16 = .ok (.ifCond .eq 6, 3) := by decide +kernel
theorem dX3_deadZones_19 : decode cX3_deadZones 19 = .ok (.iinc 1 1, 3) := by decide +kernel
theorem dX3_deadZones_22 : decode cX3_deadZones 22 = .ok (.iinc 2 1, 3) := by decide +kernel
theorem dX3_deadZones_25 : decode cX3_deadZones 25 = .ok (.goto (-21), 3) := by decide +kernel
theorem dX3_deadZones_28 : decode cX3_deadZones 28 = .ok (.iload_n 1, 1) := by decide +kernel
theorem dX3_deadZones_29 : decode cX3_deadZones 29 = .ok (.ireturn, 1) := by decide +kernel
set_option maxRecDepth 20000 in
theorem ggX3_passFrame_X3_power : GoodIn wsX3_passFrame wsX3_power := goodIn_r _ [21, 2, 22, 23, 24, 25, 26, 27, 28] (by decide +kernel) (by decide +kernel)
set_option maxRecDepth 20000 in
theorem gX3_passFrame_X3_power : GoodIn wsX3_passFrame (wsV RX3 83 RX3 yX3_power wsX3_power) := goodIn_app (goodIn_of _ (by decide +kernel)) ggX3_passFrame_X3_power
theorem dX3_passFrame_0 : decode cX3_passFrame 0 = .ok (.iconst 0, 1) := by decide +kernel
theorem dX3_passFrame_1 : decode cX3_passFrame 1 = .ok (.istore_n 2, 1) := by decide +kernel
theorem dX3_passFrame_2 : decode cX3_passFrame 2 = .ok (.iload_n 2, 1) := by decide +kernel
theorem dX3_passFrame_3 : decode cX3_passFrame 3 = .ok (.bipush 18, 2) := by decide +kernel
theorem dX3_passFrame_5 : decode cX3_passFrame 5 = .ok (.if_icmp .ge 78, 3) := by decide +kernel
theorem dX3_passFrame_8 : decode cX3_passFrame 8 = .ok (.aload_n 0, 1) := by decide +kernel
theorem dX3_passFrame_9 : decode cX3_passFrame 9 = .ok (.getfield 18, 3) := by decide +kernel
theorem dX3_passFrame_12 : decode cX3_passFrame 12 = .ok (.iload_n 2, 1) := by decide +kernel
theorem dX3_passFrame_13 : decode cX3_passFrame 13 = .ok (.baload, 1) := by decide +kernel
theorem dX3_passFrame_14 : decode cX3_passFrame 14 = .ok (.ifCond .ne 63, 3) := by decide +kernel
theorem dX3_passFrame_17 : decode cX3_passFrame 17 = .ok (.aload_n 1, 1) := by decide +kernel
theorem dX3_passFrame_18 : decode cX3_passFrame 18 = .ok (.iload_n 2, 1) := by decide +kernel
theorem dX3_passFrame_19 : decode cX3_passFrame 19 = .ok (.iaload, 1) := by decide +kernel
theorem dX3_passFrame_20 : decode cX3_passFrame 20 = .ok (.aload_n 0, 1) := by decide +kernel
theorem dX3_passFrame_21 : decode cX3_passFrame 21 = .ok (.getfield 15, 3) := by decide +kernel
theorem dX3_passFrame_24 : decode cX3_passFrame 24 = .ok (.iload_n 2, 1) := by decide +kernel
theorem dX3_passFrame_25 : decode cX3_passFrame 25 = .ok (.iaload, 1) := by decide +kernel
theorem dX3_passFrame_26 : decode cX3_passFrame 26 = .ok (.isub, 1) := by decide +kernel
theorem dX3_passFrame_27 : decode cX3_passFrame 27 = .ok (.istore_n 3, 1) := by decide +kernel
theorem dX3_passFrame_28 : decode cX3_passFrame 28 = .ok (.aload_n 0, 1) := by decide +kernel
theorem dX3_passFrame_29 : decode cX3_passFrame 29 = .ok (.getfield 22, 3) := by decide +kernel
theorem dX3_passFrame_32 : decode cX3_passFrame 32 = .ok (.bipush 7, 2) := by decide +kernel
theorem dX3_passFrame_34 : decode cX3_passFrame 34 = .ok (.iaload, 1) := by decide +kernel
theorem dX3_passFrame_35 : decode cX3_passFrame 35 = .ok (.ineg, 1) := by decide +kernel
theorem dX3_passFrame_36 : decode cX3_passFrame 36 = .ok (.aload_n 0, 1) := by decide +kernel
theorem dX3_passFrame_37 : decode cX3_passFrame 37 = .ok (.getfield 22, 3) := by decide +kernel
theorem dX3_passFrame_40 : decode cX3_passFrame 40 = .ok (.bipush 7, 2) := by decide +kernel
theorem dX3_passFrame_42 : decode cX3_passFrame 42 = .ok (.iaload, 1) := by decide +kernel
theorem dX3_passFrame_43 : decode cX3_passFrame 43 = .ok (.iload_n 3, 1) := by decide +kernel
theorem dX3_passFrame_44 : decode cX3_passFrame 44 = .ok (.invokestatic 44, 3) := by decide +kernel
theorem dX3_passFrame_47 : decode cX3_passFrame 47 = .ok (.invokestatic 50, 3) := by decide +kernel
theorem dX3_passFrame_50 : decode cX3_passFrame 50 = .ok (.istore 4, 2) := by decide +kernel
theorem dX3_passFrame_52 : decode cX3_passFrame 52 = .ok (.aload_n 0, 1) := by decide +kernel
theorem dX3_passFrame_53 : decode cX3_passFrame 53 = .ok (.getfield 15, 3) := by decide +kernel
theorem dX3_passFrame_56 : decode cX3_passFrame 56 = .ok (.iload_n 2, 1) := by decide +kernel
theorem dX3_passFrame_57 : decode cX3_passFrame 57 = .ok (.dup2, 1) := by decide +kernel
theorem dX3_passFrame_58 : decode cX3_passFrame 58 = .ok (.iaload, 1) := by decide +kernel
theorem dX3_passFrame_59 : decode cX3_passFrame 59 = .ok (.iload 4, 2) := by decide +kernel
theorem dX3_passFrame_61 : decode cX3_passFrame 61 = .ok (.iadd, 1) := by decide +kernel
theorem dX3_passFrame_62 : decode cX3_passFrame 62 = .ok (.iastore, 1) := by decide +kernel
theorem dX3_passFrame_63 : decode cX3_passFrame 63 = .ok (.aload_n 0, 1) := by decide +kernel
theorem dX3_passFrame_64 : decode cX3_passFrame 64 = .ok (.dup, 1) := by decide +kernel
theorem dX3_passFrame_65 : decode cX3_passFrame 65 = .ok (.getfield 29, 3) := by decide +kernel
theorem dX3_passFrame_68 : decode cX3_passFrame 68 = .ok (.iload 4, 2) := by decide +kernel
theorem dX3_passFrame_70 : decode cX3_passFrame 70 = .ok (.invokestatic 80, 3) := by decide +kernel
theorem dX3_passFrame_73 : decode cX3_passFrame 73 = .ok (.iadd, 1) := by decide +kernel
theorem dX3_passFrame_74 : decode cX3_passFrame 74 = .ok (.putfield 29, 3) := by decide +kernel
theorem dX3_passFrame_77 : decode cX3_passFrame 77 = .ok (.iinc 2 1, 3) := by decide +kernel
theorem dX3_passFrame_80 : decode cX3_passFrame 80 = .ok (.goto (-78), 3) := by decide +kernel
theorem dX3_passFrame_83 : decode cX3_passFrame 83 = .ok (.aload_n 0, 1) := by decide +kernel
theorem dX3_passFrame_84 : decode cX3_passFrame 84 = .ok (.dup, 1) := by decide +kernel
theorem dX3_passFrame_85 : decode cX3_passFrame 85 = .ok (.getfield 25, 3) := by decide +kernel
theorem dX3_passFrame_88 : decode cX3_passFrame 88 = .ok (.iconst 1, 1) := by decide +kernel
theorem dX3_passFrame_89 : decode cX3_passFrame 89 = .ok (.iadd, 1) := by decide +kernel
theorem dX3_passFrame_90 : decode cX3_passFrame 90 = .ok (.putfield 25, 3) := by decide +kernel
theorem dX3_passFrame_93 : decode cX3_passFrame 93 = .ok (.aload_n 0, 1) := by decide +kernel
theorem dX3_passFrame_94 : decode cX3_passFrame 94 = .ok (.dup, 1) := by decide +kernel
theorem dX3_passFrame_95 : decode cX3_passFrame 95 = .ok (.getfield 32, 3) := by decide +kernel
theorem dX3_passFrame_98 : decode cX3_passFrame 98 = .ok (.aload_n 0, 1) := by decide +kernel
theorem dX3_passFrame_99 : decode cX3_passFrame 99 = .ok (.invokevirtual 83, 3) := by decide +kernel
theorem dX3_passFrame_102 : decode cX3_passFrame 102 = .ok (.iadd, 1) := by decide +kernel
theorem dX3_passFrame_103 : decode cX3_passFrame 103 = .ok (.putfield 32, 3) := by decide +kernel
theorem dX3_passFrame_106 : decode cX3_passFrame 106 = .ok (.return_, 1) := by decide +kernel
theorem dX4_init_0 : decode cX4_init 0 = .ok (.aload_n 0, 1) := by decide +kernel
theorem dX4_init_1 : decode cX4_init 1 = .ok (.invokespecial 3, 3) := by decide +kernel
theorem dX4_init_4 : decode cX4_init 4 = .ok (.aload_n 0, 1) := by decide +kernel
theorem dX4_init_5 : decode cX4_init 5 = .ok (.iconst 0, 1) := by decide +kernel
theorem dX4_init_6 : decode cX4_init 6 = .ok (.putfield 9, 3) := by decide +kernel
theorem dX4_init_9 : decode cX4_init 9 = .ok (.aload_n 0, 1) := by decide +kernel
theorem dX4_init_10 : decode cX4_init 10 = .ok (.iconst 0, 1) := by decide +kernel
theorem dX4_init_11 : decode cX4_init 11 = .ok (.putfield 15, 3) := by decide +kernel
theorem dX4_init_14 : decode cX4_init 14 = .ok (.aload_n 0, 1) := by decide +kernel
theorem dX4_init_15 : decode cX4_init 15 = .ok (.iconst 0, 1) := by decide +kernel
theorem dX4_init_16 : decode cX4_init 16 = .ok (.putfield 18, 3) := by decide +kernel
theorem dX4_init_19 : decode cX4_init 19 = .ok (.aload_n 0, 1) := by decide +kernel
theorem dX4_init_20 : decode cX4_init 20 = .ok (.iconst 0, 1) := by decide +kernel
theorem dX4_init_21 : decode cX4_init 21 = .ok (.putfield 21, 3) := by decide +kernel
theorem dX4_init_24 : decode cX4_init 24 = .ok (.aload_n 0, 1) := by decide +kernel
theorem dX4_init_25 : decode cX4_init 25 = .ok (.iconst 0, 1) := by decide +kernel
theorem dX4_init_26 : decode cX4_init 26 = .ok (.putfield 24, 3) := by decide +kernel
theorem dX4_init_29 : decode cX4_init 29 = .ok (.return_, 1) := by decide +kernel
set_option maxRecDepth 20000 in
theorem ggX4_takeAll_X4_clear : GoodIn wsX4_takeAll wsX4_clear := goodIn_r _ [5, 6, 7, 8, 9, 10, 69, 70, 71, 72, 73] (by decide +kernel) (by decide +kernel)
set_option maxRecDepth 20000 in
theorem gX4_takeAll_X4_clear : GoodIn wsX4_takeAll (wsV RX4 27 RX4 yX4_clear wsX4_clear) := goodIn_app (goodIn_of _ (by decide +kernel)) ggX4_takeAll_X4_clear
set_option maxRecDepth 20000 in
theorem ggX4_takeAll_X4_addZone : GoodIn wsX4_takeAll wsX4_addZone := goodIn_r _ [14, 15, 16, 17, 18, 19, 20, 21, 22, 23, 24, 25, 26, 27, 28, 29, 30, 31, 32, 33, 34, 35, 36, 37, 38, 39, 40, 41, 42, 43, 44, 45, 46, 47, 48, 49, 50, 51, 52, 53, 54, 55, 56, 57, 58, 59, 60, 61, 62, 63, 4, 64, 6, 7, 65, 8, 9, 66, 10, 67, 68, 74, 75, 76, 77, 78, 79, 80, 69, 70, 71, 72, 73] (by decide +kernel) (by decide +kernel)
set_option maxRecDepth 20000 in
theorem gX4_takeAll_X4_addZone : GoodIn wsX4_takeAll (wsV RX4 30 RX4 yX4_addZone wsX4_addZone) := goodIn_app (goodIn_of _ (by decide +kernel)) ggX4_takeAll_X4_addZone
theorem dX4_takeAll_0 : decode cX4_takeAll 0 = .ok (.aload_n 0, 1) := by decide +kernel
theorem dX4_takeAll_1 : decode cX4_takeAll 1 = .ok (.invokevirtual 27, 3) := by decide +kernel
theorem dX4_takeAll_4 : decode cX4_takeAll 4 = .ok (.iconst 0, 1) := by decide +kernel
theorem dX4_takeAll_5 : decode cX4_takeAll 5 = .ok (.istore_n 2, 1) := by decide +kernel
theorem dX4_takeAll_6 : decode cX4_takeAll 6 = .ok (.iload_n 2, 1) := by decide +kernel
theorem dX4_takeAll_7 : decode cX4_takeAll 7 = .ok (.bipush 18, 2) := by decide +kernel
theorem dX4_takeAll_9 : decode cX4_takeAll 9 = .ok (.if_icmp .ge 15, 3) := by decide +kernel
theorem dX4_takeAll_12 : decode cX4_takeAll 12 = .ok (.aload_n 0, 1) := by decide +kernel
theorem dX4_takeAll_13 : decode cX4_takeAll 13 = .ok (.aload_n 1, 1) := by decide +kernel
theorem dX4_takeAll_14 : decode cX4_takeAll 14 = .ok (.iload_n 2, 1) := by decide +kernel
theorem dX4_takeAll_15 : decode cX4_takeAll 15 = .ok (.invokevirtual 30, 3) := by decide +kernel
theorem dX4_takeAll_18 : decode cX4_takeAll 18 = .ok (.iinc 2 1, 3) := by decide +kernel
theorem dX4_takeAll_21 : decode cX4_takeAll 21 = .ok (.goto (-15), 3) := by decide +kernel
theorem dX4_takeAll_24 : decode cX4_takeAll 24 = .ok (.return_, 1) := by decide +kernel
set_option maxRecDepth 20000 in
theorem ggX4_takeZone_X4_clear : GoodIn wsX4_takeZone wsX4_clear := goodIn_r _ [5, 6, 7, 8, 9, 10, 69, 70, 71, 72, 73] (by decide +kernel) (by decide +kernel)
set_option maxRecDepth 20000 in
theorem gX4_takeZone_X4_clear : GoodIn wsX4_takeZone (wsV RX4 27 RX4 yX4_clear wsX4_clear) := goodIn_app (goodIn_of _ (by decide +kernel)) ggX4_takeZone_X4_clear
set_option maxRecDepth 20000 in
theorem ggX4_takeZone_X4_addZone : GoodIn wsX4_takeZone wsX4_addZone := goodIn_r _ [14, 15, 16, 17, 18, 19, 20, 21, 22, 23, 24, 25, 26, 27, 28, 29, 30, 31, 32, 33, 34, 35, 36, 37, 38, 39, 40, 41, 42, 43, 44, 45, 46, 47, 48, 49, 50, 51, 52, 53, 54, 55, 56, 57, 58, 59, 60, 61, 62, 63, 4, 64, 6, 7, 65, 8, 9, 66, 10, 67, 68, 74, 75, 76, 77, 78, 79, 80, 69, 70, 71, 72, 73] (by decide +kernel) (by decide +kernel)
set_option maxRecDepth 20000 in
theorem gX4_takeZone_X4_addZone : GoodIn wsX4_takeZone (wsV RX4 30 RX4 yX4_addZone wsX4_addZone) := goodIn_app (goodIn_of _ (by decide +kernel)) ggX4_takeZone_X4_addZone
theorem dX4_takeZone_0 : decode cX4_takeZone 0 = .ok (.aload_n 0, 1) := by decide +kernel
theorem dX4_takeZone_1 : decode cX4_takeZone 1 = .ok (.invokevirtual 27, 3) := by decide +kernel
theorem dX4_takeZone_4 : decode cX4_takeZone 4 = .ok (.aload_n 0, 1) := by decide +kernel
theorem dX4_takeZone_5 : decode cX4_takeZone 5 = .ok (.aload_n 1, 1) := by decide +kernel
theorem dX4_takeZone_6 : decode cX4_takeZone 6 = .ok (.iload_n 2, 1) := by decide +kernel
theorem dX4_takeZone_7 : decode cX4_takeZone 7 = .ok (.invokevirtual 30, 3) := by decide +kernel
theorem dX4_takeZone_10 : decode cX4_takeZone 10 = .ok (.return_, 1) := by decide +kernel
theorem dX4_clear_0 : decode cX4_clear 0 = .ok (.aload_n 0, 1) := by decide +kernel
theorem dX4_clear_1 : decode cX4_clear 1 = .ok (.iconst 0, 1) := by decide +kernel
theorem dX4_clear_2 : decode cX4_clear 2 = .ok (.putfield 9, 3) := by decide +kernel
theorem dX4_clear_5 : decode cX4_clear 5 = .ok (.aload_n 0, 1) := by decide +kernel
theorem dX4_clear_6 : decode cX4_clear 6 = .ok (.iconst 0, 1) := by decide +kernel
theorem dX4_clear_7 : decode cX4_clear 7 = .ok (.putfield 15, 3) := by decide +kernel
theorem dX4_clear_10 : decode cX4_clear 10 = .ok (.aload_n 0, 1) := by decide +kernel
theorem dX4_clear_11 : decode cX4_clear 11 = .ok (.iconst 0, 1) := by decide +kernel
theorem dX4_clear_12 : decode cX4_clear 12 = .ok (.putfield 18, 3) := by decide +kernel
theorem dX4_clear_15 : decode cX4_clear 15 = .ok (.aload_n 0, 1) := by decide +kernel
theorem dX4_clear_16 : decode cX4_clear 16 = .ok (.iconst 0, 1) := by decide +kernel
theorem dX4_clear_17 : decode cX4_clear 17 = .ok (.putfield 21, 3) := by decide +kernel
theorem dX4_clear_20 : decode cX4_clear 20 = .ok (.aload_n 0, 1) := by decide +kernel
theorem dX4_clear_21 : decode cX4_clear 21 = .ok (.iconst 0, 1) := by decide +kernel
theorem dX4_clear_22 : decode cX4_clear 22 = .ok (.putfield 24, 3) := by decide +kernel
theorem dX4_clear_25 : decode cX4_clear 25 = .ok (.return_, 1) := by decide +kernel
set_option maxRecDepth 20000 in
theorem ggX4_addZone_X3_light : GoodIn wsX4_addZone wsX3_light := goodIn_r _ [6, 7, 8, 9, 10, 5, 11, 12, 13, 14, 15, 16, 17, 18, 19, 20, 21, 22, 23, 24, 25, 26, 27, 61, 62, 63, 64, 65, 66, 67] (by decide +kernel) (by decide +kernel)
set_option maxRecDepth 20000 in
theorem gX4_addZone_X3_light : GoodIn wsX4_addZone (wsV RX4 34 RX3 yX3_light wsX3_light) := goodIn_app (goodIn_of _ (by decide +kernel)) ggX4_addZone_X3_light
set_option maxRecDepth 20000 in
theorem ggX4_addZone_X5_spotOfZone : GoodIn wsX4_addZone wsX5_spotOfZone := goodIn_r _ [29, 30, 31, 14, 32] (by decide +kernel) (by decide +kernel)
set_option maxRecDepth 20000 in
theorem gX4_addZone_X5_spotOfZone_n44 : GoodIn wsX4_addZone (wsX5_spotOfZone) := ggX4_addZone_X5_spotOfZone
set_option maxRecDepth 20000 in
theorem ggX4_addZone_X3_shown : GoodIn wsX4_addZone wsX3_shown := goodIn_r _ [36, 37, 21, 18, 22, 38, 14, 39, 25, 26, 27, 40, 41, 42, 43, 44, 45, 5, 46, 12, 61, 62, 63, 64, 65, 66, 67] (by decide +kernel) (by decide +kernel)
set_option maxRecDepth 20000 in
theorem gX4_addZone_X3_shown : GoodIn wsX4_addZone (wsV RX4 48 RX3 yX3_shown wsX3_shown) := goodIn_app (goodIn_of _ (by decide +kernel)) ggX4_addZone_X3_shown
set_option maxRecDepth 20000 in
theorem ggX4_addZone_X4_addSpot : GoodIn wsX4_addZone wsX4_addSpot := goodIn_r _ [51, 52, 53, 54, 17, 18, 19, 55, 56, 57, 21, 22, 58, 59, 14, 60, 68, 69, 70, 71, 72] (by decide +kernel) (by decide +kernel)
set_option maxRecDepth 20000 in
theorem gX4_addZone_X4_addSpot : GoodIn wsX4_addZone (wsV RX4 50 RX4 yX4_addSpot wsX4_addSpot) := goodIn_app (goodIn_of _ (by decide +kernel)) ggX4_addZone_X4_addSpot
theorem dX4_addZone_0 : decode cX4_addZone 0 = .ok (.aload_n 1, 1) := by decide +kernel
theorem dX4_addZone_1 : decode cX4_addZone 1 = .ok (.iload_n 2, 1) := by decide +kernel
theorem dX4_addZone_2 : decode cX4_addZone 2 = .ok (.invokevirtual 34, 3) := by decide +kernel
theorem dX4_addZone_5 : decode cX4_addZone 5 = .ok (.istore_n 3, 1) := by decide +kernel
theorem dX4_addZone_6 : decode cX4_addZone 6 = .ok (.iconst 0, 1) := by decide +kernel
theorem dX4_addZone_7 : decode cX4_addZone 7 = .ok (.istore 4, 2) := by decide +kernel
theorem dX4_addZone_9 : decode cX4_addZone 9 = .ok (.iload 4, 2) := by decide +kernel
theorem dX4_addZone_11 : decode cX4_addZone 11 = .ok (.bipush 16, 2) := by decide +kernel
theorem dX4_addZone_13 : decode cX4_addZone 13 = .ok (.if_icmp .ge 35, 3) := by decide +kernel
theorem dX4_addZone_16 : decode cX4_addZone 16 = .ok (.aload_n 1, 1) := by decide +kernel
theorem dX4_addZone_17 : decode cX4_addZone 17 = .ok (.getfield 40, 3) := by decide +kernel
theorem dX4_addZone_20 : decode cX4_addZone 20 = .ok (.iload_n 2, 1) := by decide +kernel
theorem dX4_addZone_21 : decode cX4_addZone 21 = .ok (.iload 4, 2) := by decide +kernel
theorem dX4_addZone_23 : decode cX4_addZone 23 = .ok (.invokestatic 44, 3) := by decide +kernel
theorem dX4_addZone_26 : decode cX4_addZone 26 = .ok (.iaload, 1) := by decide +kernel
theorem dX4_addZone_27 : decode cX4_addZone 27 = .ok (.istore 5, 2) := by decide +kernel
theorem dX4_addZone_29 : decode cX4_addZone 29 = .ok (.aload_n 0, 1) := by decide +kernel
theorem dX4_addZone_30 : decode cX4_addZone 30 = .ok (.iload 5, 2) := by decide +kernel
theorem dX4_addZone_32 : decode cX4_addZone 32 = .ok (.aload_n 1, 1) := by decide +kernel
theorem dX4_addZone_33 : decode cX4_addZone 33 = .ok (.iload 5, 2) := by decide +kernel
theorem dX4_addZone_35 : decode cX4_addZone 35 = .ok (.iload_n 3, 1) := by decide +kernel
theorem dX4_addZone_36 : decode cX4_addZone 36 = .ok (.invokevirtual 48, 3) := by decide +kernel
theorem dX4_addZone_39 : decode cX4_addZone 39 = .ok (.invokevirtual 50, 3) := by decide +kernel
theorem dX4_addZone_42 : decode cX4_addZone 42 = .ok (.iinc 4 1, 3) := by decide +kernel
theorem dX4_addZone_45 : decode cX4_addZone 45 = .ok (.goto (-36), 3) := by decide +kernel
theorem dX4_addZone_48 : decode cX4_addZone 48 = .ok (.return_, 1) := by decide +kernel
set_option maxRecDepth 20000 in
theorem ggX4_addSpot_X5_verdict : GoodIn wsX4_addSpot wsX5_verdict := goodIn_r _ [15] (by decide +kernel) (by decide +kernel)
set_option maxRecDepth 20000 in
theorem gX4_addSpot_X5_verdict_n54 : GoodIn wsX4_addSpot (wsX5_verdict) := ggX4_addSpot_X5_verdict
theorem dX4_addSpot_0 : decode cX4_addSpot 0 = .ok (.iload_n 1, 1) := by decide +kernel
theorem dX4_addSpot_1 : decode cX4_addSpot 1 = .ok (.iload_n 2, 1) := by decide +kernel
theorem dX4_addSpot_2 : decode cX4_addSpot 2 = .ok (.invokestatic 54, 3) := by decide +kernel
theorem dX4_addSpot_5 : decode cX4_addSpot 5 = .ok (.istore_n 3, 1) := by decide +kernel
theorem dX4_addSpot_6 : decode cX4_addSpot 6 = .ok (.iload_n 3, 1) := by decide +kernel
theorem dX4_addSpot_7 : decode cX4_addSpot 7 = .ok (.iconst 1, 1) := by decide +kernel
theorem dX4_addSpot_8 : decode cX4_addSpot 8 = .ok (.if_icmp .ne 16, 3) := by decide +kernel
theorem dX4_addSpot_11 : decode cX4_addSpot 11 = .ok (.aload_n 0, 1) := by decide +kernel
theorem dX4_addSpot_12 : decode cX4_addSpot 12 = .ok (.dup, 1) := by decide +kernel
theorem dX4_addSpot_13 : decode cX4_addSpot 13 = .ok (.getfield 9, 3) := by decide +kernel
theorem dX4_addSpot_16 : decode cX4_addSpot 16 = .ok (.iconst 1, 1) := by decide +kernel
theorem dX4_addSpot_17 : decode cX4_addSpot 17 = .ok (.iadd, 1) := by decide +kernel
theorem dX4_addSpot_18 : decode cX4_addSpot 18 = .ok (.putfield 9, 3) := by decide +kernel
theorem dX4_addSpot_21 : decode cX4_addSpot 21 = .ok (.goto 18, 3) := by decide +kernel
theorem dX4_addSpot_24 : decode cX4_addSpot 24 = .ok (.iload_n 3, 1) := by decide +kernel
theorem dX4_addSpot_25 : decode cX4_addSpot 25 = .ok (.iconst 2, 1) := by decide +kernel
theorem dX4_addSpot_26 : decode cX4_addSpot 26 = .ok (.if_icmp .ne 13, 3) := by decide +kernel
theorem dX4_addSpot_29 : decode cX4_addSpot 29 = .ok (.aload_n 0, 1) := by decide +kernel
theorem dX4_addSpot_30 : decode cX4_addSpot 30 = .ok (.dup, 1) := by decide +kernel
theorem dX4_addSpot_31 : decode cX4_addSpot 31 = .ok (.getfield 15, 3) := by decide +kernel
theorem dX4_addSpot_34 : decode cX4_addSpot 34 = .ok (.iconst 1, 1) := by decide +kernel
theorem dX4_addSpot_35 : decode cX4_addSpot 35 = .ok (.iadd, 1) := by decide +kernel
theorem dX4_addSpot_36 : decode cX4_addSpot 36 = .ok (.putfield 15, 3) := by decide +kernel
theorem dX4_addSpot_39 : decode cX4_addSpot 39 = .ok (.iload_n 2, 1) := by decide +kernel
theorem dX4_addSpot_40 : decode cX4_addSpot 40 = .ok (.iload_n 1, 1) := by decide +kernel
theorem dX4_addSpot_41 : decode cX4_addSpot 41 = .ok (.isub, 1) := by decide +kernel
theorem dX4_addSpot_42 : decode cX4_addSpot 42 = .ok (.invokestatic 57, 3) := by decide +kernel
theorem dX4_addSpot_45 : decode cX4_addSpot 45 = .ok (.istore 4, 2) := by decide +kernel
theorem dX4_addSpot_47 : decode cX4_addSpot 47 = .ok (.aload_n 0, 1) := by decide +kernel
theorem dX4_addSpot_48 : decode cX4_addSpot 48 = .ok (.dup, 1) := by decide +kernel
theorem dX4_addSpot_49 : decode cX4_addSpot 49 = .ok (.getfield 18, 3) := by decide +kernel
theorem dX4_addSpot_52 : decode cX4_addSpot 52 = .ok (.iload 4, 2) := by decide +kernel
theorem dX4_addSpot_54 : decode cX4_addSpot 54 = .ok (.iadd, 1) := by decide +kernel
theorem dX4_addSpot_55 : decode cX4_addSpot 55 = .ok (.putfield 18, 3) := by decide +kernel
theorem dX4_addSpot_58 : decode cX4_addSpot 58 = .ok (.aload_n 0, 1) := by decide +kernel
theorem dX4_addSpot_59 : decode cX4_addSpot 59 = .ok (.aload_n 0, 1) := by decide +kernel
theorem dX4_addSpot_60 : decode cX4_addSpot 60 = .ok (.getfield 21, 3) := by decide +kernel
theorem dX4_addSpot_63 : decode cX4_addSpot 63 = .ok (.iload 4, 2) := by decide +kernel
theorem dX4_addSpot_65 : decode cX4_addSpot 65 = .ok (.invokestatic 62, 3) := by decide +kernel
theorem dX4_addSpot_68 : decode cX4_addSpot 68 = .ok (.putfield 21, 3) := by decide +kernel
theorem dX4_addSpot_71 : decode cX4_addSpot 71 = .ok (.aload_n 0, 1) := by decide +kernel
theorem dX4_addSpot_72 : decode cX4_addSpot 72 = .ok (.dup, 1) := by decide +kernel
theorem dX4_addSpot_73 : decode cX4_addSpot 73 = .ok (.getfield 24, 3) := by decide +kernel
theorem dX4_addSpot_76 : decode cX4_addSpot 76 = .ok (.iload_n 2, 1) := by decide +kernel
theorem dX4_addSpot_77 : decode cX4_addSpot 77 = .ok (.iadd, 1) := by decide +kernel
theorem dX4_addSpot_78 : decode cX4_addSpot 78 = .ok (.putfield 24, 3) := by decide +kernel
theorem dX4_addSpot_81 : decode cX4_addSpot 81 = .ok (.return_, 1) := by decide +kernel
set_option maxRecDepth 20000 in
theorem ggX5_init_X3_init : GoodIn wsX5_init wsX3_init := goodIn_r _ [31, 32, 2, 3, 27, 33, 34, 35, 36, 37, 38, 39, 40, 41, 42, 43, 44, 75, 76, 77, 78, 79, 80, 81] (by decide +kernel) (by decide +kernel)
set_option maxRecDepth 20000 in
theorem gX5_init_X3_init : GoodIn wsX5_init (wsX3_init) := ggX5_init_X3_init
set_option maxRecDepth 20000 in
theorem ggX5_init_X0_init : GoodIn wsX5_init wsX0_init := goodIn_r _ [47, 48, 2, 3, 49, 50, 51, 52, 5, 6, 53, 30, 31, 32, 27, 33, 34, 35, 36, 37, 38, 39, 40, 41, 42, 43, 44, 91, 92, 93, 75, 76, 77, 78, 79, 80, 81] (by decide +kernel) (by decide +kernel)
set_option maxRecDepth 20000 in
theorem gX5_init_X0_init : GoodIn wsX5_init (wsX0_init) := ggX5_init_X0_init
set_option maxRecDepth 20000 in
theorem ggX5_init_X1_init : GoodIn wsX5_init wsX1_init := goodIn_r _ [55, 56, 2, 3, 57, 58, 59, 27, 60, 61, 94, 95, 96, 97] (by decide +kernel) (by decide +kernel)
set_option maxRecDepth 20000 in
theorem gX5_init_X1_init_n32 : GoodIn wsX5_init (wsX1_init) := ggX5_init_X1_init
set_option maxRecDepth 20000 in
theorem ggX5_init_X2_init : GoodIn wsX5_init wsX2_init := goodIn_r _ [63, 64, 2, 3, 27, 65, 66, 98, 99] (by decide +kernel) (by decide +kernel)
set_option maxRecDepth 20000 in
theorem gX5_init_X2_init_n42 : GoodIn wsX5_init (wsX2_init) := ggX5_init_X2_init
set_option maxRecDepth 20000 in
theorem ggX5_init_X4_init : GoodIn wsX5_init wsX4_init := goodIn_r _ [68, 69, 2, 3, 70, 71, 72, 73, 74, 100, 101, 102, 103, 104] (by decide +kernel) (by decide +kernel)
set_option maxRecDepth 20000 in
theorem gX5_init_X4_init_n49 : GoodIn wsX5_init (wsX4_init) := ggX5_init_X4_init
theorem dX5_init_0 : decode cX5_init 0 = .ok (.aload_n 0, 1) := by decide +kernel
theorem dX5_init_1 : decode cX5_init 1 = .ok (.invokespecial 3, 3) := by decide +kernel
theorem dX5_init_4 : decode cX5_init 4 = .ok (.aload_n 0, 1) := by decide +kernel
theorem dX5_init_5 : decode cX5_init 5 = .ok (.new 9, 3) := by decide +kernel
theorem dX5_init_8 : decode cX5_init 8 = .ok (.dup, 1) := by decide +kernel
theorem dX5_init_9 : decode cX5_init 9 = .ok (.invokespecial 11, 3) := by decide +kernel
theorem dX5_init_12 : decode cX5_init 12 = .ok (.putfield 12, 3) := by decide +kernel
theorem dX5_init_15 : decode cX5_init 15 = .ok (.aload_n 0, 1) := by decide +kernel
theorem dX5_init_16 : decode cX5_init 16 = .ok (.new 9, 3) := by decide +kernel
theorem dX5_init_19 : decode cX5_init 19 = .ok (.dup, 1) := by decide +kernel
theorem dX5_init_20 : decode cX5_init 20 = .ok (.invokespecial 11, 3) := by decide +kernel
theorem dX5_init_23 : decode cX5_init 23 = .ok (.putfield 16, 3) := by decide +kernel
theorem dX5_init_26 : decode cX5_init 26 = .ok (.aload_n 0, 1) := by decide +kernel
theorem dX5_init_27 : decode cX5_init 27 = .ok (.iconst 0, 1) := by decide +kernel
theorem dX5_init_28 : decode cX5_init 28 = .ok (.putfield 19, 3) := by decide +kernel
theorem dX5_init_31 : decode cX5_init 31 = .ok (.aload_n 0, 1) := by decide +kernel
theorem dX5_init_32 : decode cX5_init 32 = .ok (.new 23, 3) := by decide +kernel
theorem dX5_init_35 : decode cX5_init 35 = .ok (.dup, 1) := by decide +kernel
theorem dX5_init_36 : decode cX5_init 36 = .ok (.invokespecial 25, 3) := by decide +kernel
theorem dX5_init_39 : decode cX5_init 39 = .ok (.putfield 26, 3) := by decide +kernel
theorem dX5_init_42 : decode cX5_init 42 = .ok (.aload_n 0, 1) := by decide +kernel
theorem dX5_init_43 : decode cX5_init 43 = .ok (.new 30, 3) := by decide +kernel
theorem dX5_init_46 : decode cX5_init 46 = .ok (.dup, 1) := by decide +kernel
theorem dX5_init_47 : decode cX5_init 47 = .ok (.invokespecial 32, 3) := by decide +kernel
theorem dX5_init_50 : decode cX5_init 50 = .ok (.putfield 33, 3) := by decide +kernel
theorem dX5_init_53 : decode cX5_init 53 = .ok (.aload_n 0, 1) := by decide +kernel
theorem dX5_init_54 : decode cX5_init 54 = .ok (.new 9, 3) := by decide +kernel
theorem dX5_init_57 : decode cX5_init 57 = .ok (.dup, 1) := by decide +kernel
theorem dX5_init_58 : decode cX5_init 58 = .ok (.invokespecial 11, 3) := by decide +kernel
theorem dX5_init_61 : decode cX5_init 61 = .ok (.putfield 37, 3) := by decide +kernel
theorem dX5_init_64 : decode cX5_init 64 = .ok (.aload_n 0, 1) := by decide +kernel
theorem dX5_init_65 : decode cX5_init 65 = .ok (.new 40, 3) := by decide +kernel
theorem dX5_init_68 : decode cX5_init 68 = .ok (.dup, 1) := by decide +kernel
theorem dX5_init_69 : decode cX5_init 69 = .ok (.invokespecial 42, 3) := by decide +kernel
theorem dX5_init_72 : decode cX5_init 72 = .ok (.putfield 43, 3) := by decide +kernel
theorem dX5_init_75 : decode cX5_init 75 = .ok (.aload_n 0, 1) := by decide +kernel
theorem dX5_init_76 : decode cX5_init 76 = .ok (.new 47, 3) := by decide +kernel
theorem dX5_init_79 : decode cX5_init 79 = .ok (.dup, 1) := by decide +kernel
theorem dX5_init_80 : decode cX5_init 80 = .ok (.invokespecial 49, 3) := by decide +kernel
theorem dX5_init_83 : decode cX5_init 83 = .ok (.putfield 50, 3) := by decide +kernel
theorem dX5_init_86 : decode cX5_init 86 = .ok (.aload_n 0, 1) := by decide +kernel
theorem dX5_init_87 : decode cX5_init 87 = .ok (.sipush 288, 3) := by decide +kernel
theorem dX5_init_90 : decode cX5_init 90 = .ok (.newarray .int, 2) := by decide +kernel
theorem dX5_init_92 : decode cX5_init 92 = .ok (.putfield 54, 3) := by decide +kernel
theorem dX5_init_95 : decode cX5_init 95 = .ok (.return_, 1) := by decide +kernel
set_option maxRecDepth 20000 in
theorem ggX5_ask_X5_onScreen : GoodIn wsX5_ask wsX5_onScreen := goodIn_r _ [7] (by decide +kernel) (by decide +kernel)
set_option maxRecDepth 20000 in
theorem gX5_ask_X5_onScreen : GoodIn wsX5_ask (va_wsS RX5 58 yX5_onScreen wsX5_onScreen) := goodIn_app (goodIn_of _ (by decide +kernel)) ggX5_ask_X5_onScreen
set_option maxRecDepth 20000 in
theorem ggX5_ask_X5_spotAt : GoodIn wsX5_ask wsX5_spotAt := goodIn_r _ [10] (by decide +kernel) (by decide +kernel)
set_option maxRecDepth 20000 in
theorem gX5_ask_X5_spotAt : GoodIn wsX5_ask (va_wsS RX5 62 yX5_spotAt wsX5_spotAt) := goodIn_app (goodIn_of _ (by decide +kernel)) ggX5_ask_X5_spotAt
set_option maxRecDepth 20000 in
theorem ggX5_ask_X0_record : GoodIn wsX5_ask wsX0_record := goodIn_r _ [15, 16, 17, 18, 19, 20, 21, 22, 23, 24, 25, 26, 27, 28, 29, 30, 31, 32, 33, 34, 51, 52, 53, 44, 45, 46, 47, 48, 49, 50] (by decide +kernel) (by decide +kernel)
