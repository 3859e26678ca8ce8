theorem dX3_glow_48 : decode cX3_glow 48 = .ok (.ireturn, 1) := by decide +kernel
set_option maxRecDepth 20000 in
theorem ggX3_light_X3_glow : GoodIn wsX3_light wsX3_glow := goodIn_r _ [6, 7, 8, 9, 10, 11, 12, 13, 14, 15, 16, 17, 23, 24, 25, 26, 27, 28, 29] (by decide +kernel) (by decide +kernel)
set_option maxRecDepth 20000 in
theorem gX3_light_X3_glow : GoodIn wsX3_light (wsV RX3 66 RX3 yX3_glow wsX3_glow) := goodIn_app (goodIn_of _ (by decide +kernel)) ggX3_light_X3_glow
set_option maxRecDepth 20000 in
theorem ggX3_light_X5_lightOf : GoodIn wsX3_light wsX5_lightOf := goodIn_r _ [19, 20, 21, 13, 22] (by decide +kernel) (by decide +kernel)
set_option maxRecDepth 20000 in
theorem gX3_light_X5_lightOf_n70 : GoodIn wsX3_light (wsX5_lightOf) := ggX3_light_X5_lightOf
theorem dX3_light_0 : decode cX3_light 0 = .ok (.aload_n 0, 1) := by decide +kernel
theorem dX3_light_1 : decode cX3_light 1 = .ok (.iload_n 1, 1) := by decide +kernel
theorem dX3_light_2 : decode cX3_light 2 = .ok (.aload_n 0, 1) := by decide +kernel
theorem dX3_light_3 : decode cX3_light 3 = .ok (.getfield 15, 3) := by decide +kernel
theorem dX3_light_6 : decode cX3_light 6 = .ok (.invokevirtual 66, 3) := by decide +kernel
theorem dX3_light_9 : decode cX3_light 9 = .ok (.invokestatic 70, 3) := by decide +kernel
theorem dX3_light_12 : decode cX3_light 12 = .ok (.ireturn, 1) := by decide +kernel
theorem dX3_leakOf_0 : decode cX3_leakOf 0 = .ok (.iload_n 1, 1) := by decide +kernel
theorem dX3_leakOf_1 : decode cX3_leakOf 1 = .ok (.aload_n 0, 1) := by decide +kernel
theorem dX3_leakOf_2 : decode cX3_leakOf 2 = .ok (.getfield 22, 3) := by decide +kernel
theorem dX3_leakOf_5 : decode cX3_leakOf 5 = .ok (.iconst 5, 1) := by decide +kernel
theorem dX3_leakOf_6 : decode cX3_leakOf 6 = .ok (.iaload, 1) := by decide +kernel
theorem dX3_leakOf_7 : decode cX3_leakOf 7 = .ok (.imul, 1) := by decide +kernel
theorem dX3_leakOf_8 : decode cX3_leakOf 8 = .ok (.sipush 1000, 3) := by decide +kernel
theorem dX3_leakOf_11 : decode cX3_leakOf 11 = .ok (.idiv, 1) := by decide +kernel
theorem dX3_leakOf_12 : decode cX3_leakOf 12 = .ok (.ireturn, 1) := by decide +kernel
set_option maxRecDepth 20000 in
theorem ggX3_shown_X5_glassFor : GoodIn wsX3_shown wsX5_glassFor := goodIn_r _ [7, 8, 9, 3, 10, 11, 12, 6, 13] (by decide +kernel) (by decide +kernel)
set_option maxRecDepth 20000 in
theorem gX3_shown_X5_glassFor_n74 : GoodIn wsX3_shown (wsX5_glassFor) := ggX3_shown_X5_glassFor
set_option maxRecDepth 20000 in
theorem ggX3_shown_X3_leakOf : GoodIn wsX3_shown wsX3_leakOf := goodIn_r _ [18, 19, 20, 21, 22, 23, 24, 25, 26] (by decide +kernel) (by decide +kernel)
set_option maxRecDepth 20000 in
theorem gX3_shown_X3_leakOf : GoodIn wsX3_shown (wsV RX3 77 RX3 yX3_leakOf wsX3_leakOf) := goodIn_app (goodIn_of _ (by decide +kernel)) ggX3_shown_X3_leakOf
theorem dX3_shown_0 : decode cX3_shown 0 = .ok (.iload_n 2, 1) := by decide +kernel
theorem dX3_shown_1 : decode cX3_shown 1 = .ok (.iload_n 1, 1) := by decide +kernel
theorem dX3_shown_2 : decode cX3_shown 2 = .ok (.iload_n 2, 1) := by decide +kernel
theorem dX3_shown_3 : decode cX3_shown 3 = .ok (.invokestatic 74, 3) := by decide +kernel
theorem dX3_shown_6 : decode cX3_shown 6 = .ok (.imul, 1) := by decide +kernel
theorem dX3_shown_7 : decode cX3_shown 7 = .ok (.sipush 255, 3) := by decide +kernel
theorem dX3_shown_10 : decode cX3_shown 10 = .ok (.idiv, 1) := by decide +kernel
theorem dX3_shown_11 : decode cX3_shown 11 = .ok (.aload_n 0, 1) := by decide +kernel
theorem dX3_shown_12 : decode cX3_shown 12 = .ok (.iload_n 2, 1) := by decide +kernel
theorem dX3_shown_13 : decode cX3_shown 13 = .ok (.invokevirtual 77, 3) := by decide +kernel
theorem dX3_shown_16 : decode cX3_shown 16 = .ok (.invokestatic 50, 3) := by decide +kernel
theorem dX3_shown_19 : decode cX3_shown 19 = .ok (.ireturn, 1) := by decide +kernel
theorem dX3_power_0 : decode cX3_power 0 = .ok (.iconst 0, 1) := by decide +kernel
theorem dX3_power_1 : decode cX3_power 1 = .ok (.istore_n 1, 1) := by decide +kernel
theorem dX3_power_2 : decode cX3_power 2 = .ok (.iconst 0, 1) := by decide +kernel
theorem dX3_power_3 : decode cX3_power 3 = .ok (.istore_n 2, 1) := by decide +kernel
theorem dX3_power_4 : decode cX3_power 4 = .ok (.iload_n 2, 1) := by decide +kernel
theorem dX3_power_5 : decode cX3_power 5 = .ok (.bipush 18, 2) := by decide +kernel
theorem dX3_power_7 : decode cX3_power 7 = .ok (.if_icmp .ge 18, 3) := by decide +kernel
theorem dX3_power_10 : decode cX3_power 10 = .ok (.iload_n 1, 1) := by decide +kernel
theorem dX3_power_11 : decode cX3_power 11 = .ok (.aload_n 0, 1) := by decide +kernel
theorem dX3_power_12 : decode cX3_power 12 = .ok (.getfield 15, 3) := by decide +kernel
theorem dX3_power_15 : decode cX3_power 15 = .ok (.iload_n 2, 1) := by decide +kernel
theorem dX3_power_16 : decode cX3_power 16 = .ok (.iaload, 1) := by decide +kernel
theorem dX3_power_17 : decode cX3_power 17 = .ok (.iadd, 1) := by decide +kernel
theorem dX3_power_18 : decode cX3_power 18 = .ok (.istore_n 1, 1) := by decide +kernel
theorem dX3_power_19 : decode cX3_power 19 = .ok (.iinc 2 1, 3) := by decide +kernel
theorem dX3_power_22 : decode cX3_power 22 = .ok (.goto (-18), 3) := by decide +kernel
theorem dX3_power_25 : decode cX3_power 25 = .ok (.iload_n 1, 1) := by decide +kernel
theorem dX3_power_26 : decode cX3_power 26 = .ok (.ireturn, 1) := by decide +kernel
theorem dX3_deadZones_0 : decode cX3_deadZones 0 = .ok (.iconst 0, 1) := by decide +kernel
theorem dX3_deadZones_1 : decode cX3_deadZones 1 = .ok (.istore_n 1, 1) := by decide +kernel
theorem dX3_deadZones_2 : decode cX3_deadZones 2 = .ok (.iconst 0, 1) := by decide +kernel
theorem dX3_deadZones_3 : decode cX3_deadZones 3 = .ok (.istore_n 2, 1) := by decide +kernel
theorem dX3_deadZones_4 : decode cX3_deadZones 4 = .ok (.iload_n 2, 1) := by decide +kernel
theorem dX3_deadZones_5 : decode cX3_deadZones 5 = .ok (.bipush 18, 2) := by decide +kernel
theorem dX3_deadZones_7 : decode cX3_deadZones 7 = .ok (.if_icmp .ge 21, 3) := by decide +kernel
theorem dX3_deadZones_10 : decode cX3_deadZones 10 = .ok (.aload_n 0, 1) := by decide +kernel
theorem dX3_deadZones_11 : decode cX3_deadZones 11 = .ok (.getfield 18, 3) := by decide +kernel
theorem dX3_deadZones_14 : decode cX3_deadZones 14 = .ok (.iload_n 2, 1) := by decide +kernel
theorem dX3_deadZones_15 : decode cX3_deadZones 15 = .ok (.baload, 1) := by decide +kernel
theorem dX3_deadZones_16 : decode cX3_deadZones 16 = .ok (.ifCond .eq 6, 3) := by decide +kernel
theorem dX3_deadZones_19 : decode cX3_deadZones 19 = .ok (.iinc 1 1, 3) := by decide +kernel
theorem dX3_deadZones_22 : decode cX3_deadZones 22 = .ok (.iinc 2 1, 3) := by decide +kernel
theorem dX3_deadZones_25 : decode cX3_deadZones 25 = .ok (.goto (-21), 3) := by decide +kernel
theorem dX3_deadZones_28 : decode cX3_deadZones 28 = .ok (.iload_n 1, 1) := by decide +kernel
theorem dX3_deadZones_29 : decode cX3_deadZones 29 = .ok (.ireturn, 1) := by decide +kernel
set_option maxRecDepth 20000 in
theorem ggX3_passFrame_X3_power : GoodIn wsX3_passFrame wsX3_power := goodIn_r _ [21, 2, 22, 23, 24, 25, 26, 27, 28] (by decide +kernel) (by decide +kernel)
set_option maxRecDepth 20000 in
theorem gX3_passFrame_X3_power : GoodIn wsX3_passFrame (wsV RX3 83 RX3 yX3_power wsX3_power) := goodIn_app (goodIn_of _ (by decide +kernel)) ggX3_passFrame_X3_power
theorem dX3_passFrame_0 : decode cX3_passFrame 0 = .ok (.iconst 0, 1) := by decide +kernel
theorem dX3_passFrame_1 : decode cX3_passFrame 1 = .ok (.istore_n 2, 1) := by decide +kernel
theorem dX3_passFrame_2 : decode cX3_passFrame 2 = .ok (.iload_n 2, 1) := by decide +kernel
theorem dX3_passFrame_3 : decode cX3_passFrame 3 = .ok (.bipush 18, 2) := by decide +kernel
theorem dX3_passFrame_5 : decode cX3_passFrame 5 = .ok (.if_icmp .ge 78, 3) := by decide +kernel
theorem dX3_passFrame_8 : decode cX3_passFrame 8 = .ok (.aload_n 0, 1) := by decide +kernel
theorem dX3_passFrame_9 : decode cX3_passFrame 9 = .ok (.getfield 18, 3) := by decide +kernel
theorem dX3_passFrame_12 : decode cX3_passFrame 12 = .ok (.iload_n 2, 1) := by decide +kernel
theorem dX3_passFrame_13 : decode cX3_passFrame 13 = .ok (.baload, 1) := by decide +kernel
theorem dX3_passFrame_14 : decode cX3_passFrame 14 = .ok (.ifCond .ne 63, 3) := by decide +kernel
theorem dX3_passFrame_17 : decode cX3_passFrame 17 = .ok (.aload_n 1, 1) := by decide +kernel
theorem dX3_passFrame_18 : decode cX3_passFrame 18 = .ok (.iload_n 2, 1) := by decide +kernel
theorem dX3_passFrame_19 : decode cX3_passFrame 19 = .ok (.iaload, 1) := by decide +kernel
theorem dX3_passFrame_20 : decode cX3_passFrame 20 = .ok (.aload_n 0, 1) := by decide +kernel
theorem dX3_passFrame_21 : decode cX3_passFrame 21 = .ok (.getfield 15, 3) := by decide +kernel
theorem dX3_passFrame_24 : decode cX3_passFrame 24 = .ok (.iload_n 2, 1) := by decide +kernel
theorem dX3_passFrame_25 : decode cX3_passFrame 25 = .ok (.iaload, 1) := by decide +kernel
theorem dX3_passFrame_26 : decode cX3_passFrame 26 = .ok (.isub, 1) := by decide +kernel
theorem dX3_passFrame_27 : decode cX3_passFrame 27 = .ok (.istore_n 3, 1) := by decide +kernel
theorem dX3_passFrame_28 : decode cX3_passFrame 28 = .ok (.aload_n 0, 1) := by decide +kernel
theorem dX3_passFrame_29 : decode cX3_passFrame 29 = .ok (.getfield 22, 3) := by decide +kernel
theorem dX3_passFrame_32 : decode cX3_passFrame 32 = .ok (.bipush 7, 2) := by decide +kernel
theorem dX3_passFrame_34 : decode cX3_passFrame 34 = .ok (.iaload, 1) := by decide +kernel
theorem dX3_passFrame_35 : decode cX3_passFrame 35 = .ok (.ineg, 1) := by decide +kernel
theorem dX3_passFrame_36 : decode cX3_passFrame 36 = .ok (.aload_n 0, 1) := by decide +kernel
theorem dX3_passFrame_37 : decode cX3_passFrame 37 = .ok (.getfield 22, 3) := by decide +kernel
theorem dX3_passFrame_40 : decode cX3_passFrame 40 = .ok (.bipush 7, 2) := by decide +kernel
theorem dX3_passFrame_42 : decode cX3_passFrame 42 = .ok (.iaload, 1) := by decide +kernel
theorem dX3_passFrame_43 : decode cX3_passFrame 43 = .ok (.iload_n 3, 1) := by decide +kernel
theorem dX3_passFrame_44 : decode cX3_passFrame 44 = .ok (.invokestatic 44, 3) := by decide +kernel
theorem dX3_passFrame_47 : decode cX3_passFrame 47 = .ok (.invokestatic 50, 3) := by decide +kernel
theorem dX3_passFrame_50 : decode cX3_passFrame 50 = .ok (.istore 4, 2) := by decide +kernel
theorem dX3_passFrame_52 : decode cX3_passFrame 52 = .ok (.aload_n 0, 1) := by decide +kernel
theorem dX3_passFrame_53 : decode cX3_passFrame 53 = .ok (.getfield 15, 3) := by decide +kernel
theorem dX3_passFrame_56 : decode cX3_passFrame 56 = .ok (.iload_n 2, 1) := by decide +kernel
theorem dX3_passFrame_57 : decode cX3_passFrame 57 = .ok (.dup2, 1) := by decide +kernel
theorem dX3_passFrame_58 : decode cX3_passFrame 58 = .ok (.iaload, 1) := by decide +kernel
theorem dX3_passFrame_59 : decode cX3_passFrame 59 = .ok (.iload 4, 2) := by decide +kernel
theorem dX3_passFrame_61 : decode cX3_passFrame 61 = .ok (.iadd, 1) := by decide +kernel
theorem dX3_passFrame_62 : decode cX3_passFrame 62 = .ok (.iastore, 1) := by decide +kernel
theorem dX3_passFrame_63 : decode cX3_passFrame 63 = .ok (.aload_n 0, 1) := by decide +kernel
theorem dX3_passFrame_64 : decode cX3_passFrame 64 = .ok (.dup, 1) := by decide +kernel
theorem dX3_passFrame_65 : decode cX3_passFrame 65 = .ok (.getfield 29, 3) := by decide +kernel
theorem dX3_passFrame_68 : decode cX3_passFrame 68 = .ok (.iload 4, 2) := by decide +kernel
theorem dX3_passFrame_70 : decode cX3_passFrame 70 = .ok (.invokestatic 80, 3) := by decide +kernel
theorem dX3_passFrame_73 : decode cX3_passFrame 73 = .ok (.iadd, 1) := by decide +kernel
theorem dX3_passFrame_74 : decode cX3_passFrame 74 = .ok (.putfield 29, 3) := by decide +kernel
theorem dX3_passFrame_77 : decode cX3_passFrame 77 = .ok (.iinc 2 1, 3) := by decide +kernel
theorem dX3_passFrame_80 : decode cX3_passFrame 80 = .ok (.goto (-78), 3) := by decide +kernel
theorem dX3_passFrame_83 : decode cX3_passFrame 83 = .ok (.aload_n 0, 1) := by decide +kernel
theorem dX3_passFrame_84 : decode cX3_passFrame 84 = .ok (.dup, 1) := by decide +kernel
theorem dX3_passFrame_85 : decode cX3_passFrame 85 = .ok (.getfield 25, 3) := by decide +kernel
theorem dX3_passFrame_88 : decode cX3_passFrame 88 = .ok (.iconst 1, 1) := by decide +kernel
theorem dX3_passFrame_89 : decode cX3_passFrame 89 = .ok (.iadd, 1) := by decide +kernel
theorem dX3_passFrame_90 : decode cX3_passFrame 90 = .ok (.putfield 25, 3) := by decide +kernel
theorem dX3_passFrame_93 : decode cX3_passFrame 93 = .ok (.aload_n 0, 1) := by decide +kernel
theorem dX3_passFrame_94 : decode cX3_passFrame 94 = .ok (.dup, 1) := by decide +kernel
theorem dX3_passFrame_95 : decode cX3_passFrame 95 = .ok (.getfield 32, 3) := by decide +kernel
theorem dX3_passFrame_98 : decode cX3_passFrame 98 = .ok (.aload_n 0, 1) := by decide +kernel
theorem dX3_passFrame_99 : decode cX3_passFrame 99 = .ok (.invokevirtual 83, 3) := by decide +kernel
theorem dX3_passFrame_102 : decode cX3_passFrame 102 = .ok (.iadd, 1) := by decide +kernel
theorem dX3_passFrame_103 : decode cX3_passFrame 103 = .ok (.putfield 32, 3) := by decide +kernel
theorem dX3_passFrame_106 : decode cX3_passFrame 106 = .ok (.return_, 1) := by decide +kernel
theorem dX4_init_0 : decode cX4_init 0 = .ok (.aload_n 0, 1) := by decide +kernel
theorem dX4_init_1 : decode cX4_init 1 = .ok (.invokespecial 3, 3) := by decide +kernel
theorem dX4_init_4 : decode cX4_init 4 = .ok (.aload_n 0, 1) := by decide +kernel
theorem dX4_init_5 : decode cX4_init 5 = .ok (.iconst 0, 1) := by decide +kernel
theorem dX4_init_6 : decode cX4_init 6 = .ok (.putfield 9, 3) := by decide +kernel
theorem dX4_init_9 : decode cX4_init 9 = .ok (.aload_n 0, 1) := by decide +kernel
theorem dX4_init_10 : decode cX4_init 10 = .ok (.iconst 0, 1) := by decide +kernel
theorem dX4_init_11 : decode cX4_init 11 = .ok (.putfield 15, 3) := by decide +kernel
theorem dX4_init_14 : decode cX4_init 14 = .ok (.aload_n 0, 1) := by decide +kernel
theorem dX4_init_15 : decode cX4_init 15 = .ok (.iconst 0, 1) := by decide +kernel
theorem dX4_init_16 : decode cX4_init 16 = .ok (.putfield 18, 3) := by decide +kernel
theorem dX4_init_19 : decode cX4_init 19 = .ok (.aload_n 0, 1) := by decide +kernel
theorem dX4_init_20 : decode cX4_init 20 = .ok (.iconst 0, 1) := by decide +kernel
theorem dX4_init_21 : decode cX4_init 21 = .ok (.putfield 21, 3) := by decide +kernel
theorem dX4_init_24 : decode cX4_init 24 = .ok (.aload_n 0, 1) := by decide +kernel
theorem dX4_init_25 : decode cX4_init 25 = .ok (.iconst 0, 1) := by decide +kernel
theorem dX4_init_26 : decode cX4_init 26 = .ok (.putfield 24, 3) := by decide +kernel
theorem dX4_init_29 : decode cX4_init 29 = .ok (.return_, 1) := by decide +kernel
set_option maxRecDepth 20000 in
theorem ggX4_takeAll_X4_clear : GoodIn wsX4_takeAll wsX4_clear := goodIn_r _ [5, 6, 7, 8, 9, 10, 69, 70, 71, 72, 73] (by decide +kernel) (by decide +kernel)
set_option maxRecDepth 20000 in
theorem gX4_takeAll_X4_clear : GoodIn wsX4_takeAll (wsV RX4 27 RX4 yX4_clear wsX4_clear) := goodIn_app (goodIn_of _ (by decide +kernel)) ggX4_takeAll_X4_clear
set_option maxRecDepth 20000 in
theorem ggX4_takeAll_X4_addZone : GoodIn wsX4_takeAll wsX4_addZone := goodIn_r _ [14, 15, 16, 17, 18, 19, 20, 21, 22, 23, 24, 25, 26, 27, 28, 29, 30, 31, 32, 33, 34, 35, 36, 37, 38, 39, 40, 41, 42, 43, 44, 45, 46, 47, 48, 49, 50, 51, 52, 53, 54, 55, 56, 57, 58, 59, 60, 61, 62, 63, 4, 64, 6, 7, 65, 8, 9, 66, 10, 67, 68, 74, 75, 76, 77, 78, 79, 80, 69, 70, 71, 72, 73] (by decide +kernel) (by decide +kernel)
set_option maxRecDepth 20000 in
theorem gX4_takeAll_X4_addZone : GoodIn wsX4_takeAll (wsV RX4 30 RX4 yX4_addZone wsX4_addZone) := goodIn_app (goodIn_of _ (by decide +kernel)) ggX4_takeAll_X4_addZone
theorem dX4_takeAll_0 : decode cX4_takeAll 0 = .ok (.aload_n 0, 1) := by decide +kernel
theorem dX4_takeAll_1 : decode cX4_takeAll 1 = .ok (.invokevirtual 27, 3) := by decide +kernel
theorem dX4_takeAll_4 : decode cX4_takeAll 4 = .ok (.iconst 0, 1) := by decide +kernel
theorem dX4_takeAll_5 : decode cX4_takeAll 5 = .ok (.istore_n 2, 1) := by decide +kernel
theorem dX4_takeAll_6 : decode cX4_takeAll 6 = .ok (.iload_n 2, 1) := by decide +kernel
theorem dX4_takeAll_7 : decode cX4_takeAll 7 = .ok (.bipush 18, 2) := by decide +kernel
theorem dX4_takeAll_9 : decode cX4_takeAll 9 = .ok (.if_icmp .ge 15, 3) := by decide +kernel
theorem dX4_takeAll_12 : decode cX4_takeAll 12 = .ok (.aload_n 0, 1) := by decide +kernel
theorem dX4_takeAll_13 : decode cX4_takeAll 13 = .ok (.aload_n 1, 1) := by decide +kernel
theorem dX4_takeAll_14 : decode cX4_takeAll 14 = .ok (.iload_n 2, 1) := by decide +kernel
theorem dX4_takeAll_15 : decode cX4_takeAll 15 = .ok (.invokevirtual 30, 3) := by decide +kernel
theorem dX4_takeAll_18 : decode cX4_takeAll 18 = .ok (.iinc 2 1, 3) := by decide +kernel
theorem dX4_takeAll_21 : decode cX4_takeAll 21 = .ok (.goto (-15), 3) := by decide +kernel
theorem dX4_takeAll_24 : decode cX4_takeAll 24 = .ok (.return_, 1) := by decide +kernel
set_option maxRecDepth 20000 in
theorem ggX4_takeZone_X4_clear : GoodIn wsX4_takeZone wsX4_clear := goodIn_r _ [5, 6, 7, 8, 9, 10, 69, 70, 71, 72, 73] (by decide +kernel) (by decide +kernel)
set_option maxRecDepth 20000 in
theorem gX4_takeZone_X4_clear : GoodIn wsX4_takeZone (wsV RX4 27 RX4 yX4_clear wsX4_clear) := goodIn_app (goodIn_of _ (by decide +kernel)) ggX4_takeZone_X4_clear
set_option maxRecDepth 20000 in
theorem ggX4_takeZone_X4_addZone : GoodIn wsX4_takeZone wsX4_addZone := goodIn_r _ [14, 15, 16, 17, 18, 19, 20, 21, 22, 23, 24, 25, 26, 27, 28, 29, 30, 31, 32, 33, 34, 35, 36, 37, 38, 39, 40, 41, 42, 43, 44, 45, 46, 47, 48, 49, 50, 51, 52, 53, 54, 55, 56, 57, 58, 59, 60, 61, 62, 63, 4, 64, 6, 7, 65, 8, 9, 66, 10, 67, 68, 74, 75, 76, 77, 78, 79, 80, 69, 70, 71, 72, 73] (by decide +kernel) (by decide +kernel)
set_option maxRecDepth 20000 in
theorem gX4_takeZone_X4_addZone : GoodIn wsX4_takeZone (wsV RX4 30 RX4 yX4_addZone wsX4_addZone) := goodIn_app (goodIn_of _ (by decide +kernel)) ggX4_takeZone_X4_addZone
theorem dX4_takeZone_0 : decode cX4_takeZone 0 = .ok (.aload_n 0, 1) := by decide +kernel
theorem dX4_takeZone_1 : decode cX4_takeZone 1 = .ok (.invokevirtual 27, 3) := by decide +kernel
theorem dX4_takeZone_4 : decode cX4_takeZone 4 = .ok (.aload_n 0, 1) := by decide +kernel
theorem dX4_takeZone_5 : decode cX4_takeZone 5 = .ok (.aload_n 1, 1) := by decide +kernel
theorem dX4_takeZone_6 : decode cX4_takeZone 6 = .ok (.iload_n 2, 1) := by decide +kernel
theorem dX4_takeZone_7 : decode cX4_takeZone 7 = .ok (.invokevirtual 30, 3) := by decide +kernel
theorem dX4_takeZone_10 : decode cX4_takeZone 10 = .ok (.return_, 1) := by decide +kernel
theorem dX4_clear_0 : decode cX4_clear 0 = .ok (.aload_n 0, 1) := by decide +kernel
theorem dX4_clear_1 : decode cX4_clear 1 = .ok (.iconst 0, 1) := by decide +kernel
theorem dX4_clear_2 : decode cX4_clear 2 = .ok (.putfield 9, 3) := by decide +kernel
theorem dX4_clear_5 : decode cX4_clear 5 = .ok (.aload_n 0, 1) := by decide +kernel
theorem dX4_clear_6 : decode cX4_clear 6 = .ok (.iconst 0, 1) := by decide +kernel
theorem dX4_clear_7 : decode cX4_clear 7 = .ok (.putfield 15, 3) := by decide +kernel
theorem dX4_clear_10 : decode cX4_clear 10 = .ok (.aload_n 0, 1) := by decide +kernel
theorem dX4_clear_11 : decode cX4_clear 11 = .ok (.iconst 0, 1) := by decide +kernel
theorem dX4_clear_12 : decode cX4_clear 12 = .ok (.putfield 18, 3) := by decide +kernel
theorem dX4_clear_15 : decode cX4_clear 15 = .ok (.aload_n 0, 1) := by decide +kernel
theorem dX4_clear_16 : decode cX4_clear 16 = .ok (.iconst 0, 1) := by decide +kernel
theorem dX4_clear_17 : decode cX4_clear 17 = .ok (.putfield 21, 3) := by decide +kernel
theorem dX4_clear_20 : decode cX4_clear 20 = .ok (.aload_n 0, 1) := by decide +kernel
theorem dX4_clear_21 : decode cX4_clear 21 = .ok (.iconst 0, 1) := by decide +kernel
theorem dX4_clear_22 : decode cX4_clear 22 = .ok (.putfield 24, 3) := by decide +kernel
theorem dX4_clear_25 : decode cX4_clear 25 = .ok (.return_, 1) := by decide +kernel
set_option maxRecDepth 20000 in
theorem ggX4_addZone_X3_light : GoodIn wsX4_addZone wsX3_light := goodIn_r _ [6, 7, 8, 9, 10, 5, 11, 12, 13, 14, 15, 16, 17, 18, 19, 20, 21, 22, 23, 24, 25, 26, 27, 61, 62, 63, 64, 65, 66, 67] (by decide +kernel) (by decide +kernel)
set_option maxRecDepth 20000 in
theorem gX4_addZone_X3_light : GoodIn wsX4_addZone (wsV RX4 34 RX3 yX3_light wsX3_light) := goodIn_app (goodIn_of _ (by decide +kernel)) ggX4_addZone_X3_light
set_option maxRecDepth 20000 in
theorem ggX4_addZone_X5_spotOfZone : GoodIn wsX4_addZone wsX5_spotOfZone := goodIn_r _ [29, 30, 31, 14, 32] (by decide +kernel) (by decide +kernel)
set_option maxRecDepth 20000 in
theorem gX4_addZone_X5_spotOfZone_n44 : GoodIn wsX4_addZone (wsX5_spotOfZone) := ggX4_addZone_X5_spotOfZone
set_option maxRecDepth 20000 in
theorem ggX4_addZone_X3_shown : GoodIn wsX4_addZone wsX3_shown := goodIn_r _ [36, 37, 21, 18, 22, 38, 14, 39, 25, 26, 27, 40, 41, 42, 43, 44, 45, 5, 46, 12, 61, 62, 63, 64, 65, 66, 67] (by decide +kernel) (by decide +kernel)
set_option maxRecDepth 20000 in
theorem gX4_addZone_X3_shown : GoodIn wsX4_addZone (wsV RX4 48 RX3 yX3_shown wsX3_shown) := goodIn_app (goodIn_of _ (by decide +kernel)) ggX4_addZone_X3_shown
set_option maxRecDepth 20000 in
theorem ggX4_addZone_X4_addSpot : GoodIn wsX4_addZone wsX4_addSpot := goodIn_r _ [51, 52, 53, 54, 17, 18, 19, 55, 56, 57, 21, 22, 58, 59, 14, 60, 68, 69, 70, 71, 72] (by decide +kernel) (by decide +kernel)
set_option maxRecDepth 20000 in
theorem gX4_addZone_X4_addSpot : GoodIn wsX4_addZone (wsV RX4 50 RX4 yX4_addSpot wsX4_addSpot) := goodIn_app (goodIn_of _ (by decide +kernel)) ggX4_addZone_X4_addSpot
theorem dX4_addZone_0 : decode cX4_addZone 0 = .ok (.aload_n 1, 1) := by decide +kernel
theorem dX4_addZone_1 : decode cX4_addZone 1 = .ok (.iload_n 2, 1) := by decide +kernel
theorem dX4_addZone_2 : decode cX4_addZone 2 = .ok (.invokevirtual 34, 3) := by decide +kernel
theorem dX4_addZone_5 : decode cX4_addZone 5 = .ok (.istore_n 3, 1) := by decide +kernel
theorem dX4_addZone_6 : decode cX4_addZone 6 = .ok (.iconst 0, 1) := by decide +kernel
theorem dX4_addZone_7 : decode cX4_addZone 7 = .ok (.istore 4, 2) := by decide +kernel
theorem dX4_addZone_9 : decode cX4_addZone 9 = .ok (.iload 4, 2) := by decide +kernel
theorem dX4_addZone_11 : decode cX4_addZone 11 = .ok (.bipush 16, 2) := by decide +kernel
theorem dX4_addZone_13 : decode cX4_addZone 13 = .ok (.if_icmp .ge 35, 3) := by decide +kernel
theorem dX4_addZone_16 : decode cX4_addZone 16 = .ok (.aload_n 1, 1) := by decide +kernel
theorem dX4_addZone_17 : decode cX4_addZone 17 = .ok (.getfield 40, 3) := by decide +kernel
theorem dX4_addZone_20 : decode cX4_addZone 20 = .ok (.iload_n 2, 1) := by decide +kernel
theorem dX4_addZone_21 : decode cX4_addZone 21 = .ok (.iload 4, 2) := by decide +kernel
theorem dX4_addZone_23 : decode cX4_addZone 23 = .ok (.invokestatic 44, 3) := by decide +kernel
theorem dX4_addZone_26 : decode cX4_addZone 26 = .ok (.iaload, 1) := by decide +kernel
theorem dX4_addZone_27 : decode cX4_addZone 27 = .ok (.istore 5, 2) := by decide +kernel
theorem dX4_addZone_29 : decode cX4_addZone 29 = .ok (.aload_n 0, 1) := by decide +kernel
theorem dX4_addZone_30 : decode cX4_addZone 30 = .ok (.iload 5, 2) := by decide +kernel
theorem dX4_addZone_32 : decode cX4_addZone 32 = .ok (.aload_n 1, 1) := by decide +kernel
theorem dX4_addZone_33 : decode cX4_addZone 33 = .ok (.iload 5, 2) := by decide +kernel
theorem dX4_addZone_35 : decode cX4_addZone 35 = .ok (.iload_n 3, 1) := by decide +kernel
theorem dX4_addZone_36 : decode cX4_addZone 36 = .ok (.invokevirtual 48, 3) := by decide +kernel
theorem dX4_addZone_39 : decode cX4_addZone 39 = .ok (.invokevirtual 50, 3) := by decide +kernel
theorem dX4_addZone_42 : decode cX4_addZone 42 = .ok (.iinc 4 1, 3) := by decide +kernel
theorem dX4_addZone_45 : decode cX4_addZone 45 = .ok (.goto (-36), 3) := by decide +kernel
theorem dX4_addZone_48 : decode cX4_addZone 48 = .ok (.return_, 1) := by decide +kernel
set_option maxRecDepth 20000 in
theorem ggX4_addSpot_X5_verdict : GoodIn wsX4_addSpot wsX5_verdict := goodIn_r _ [15] (by decide +kernel) (by decide +kernel)
set_option maxRecDepth 20000 in
theorem gX4_addSpot_X5_verdict_n54 : GoodIn wsX4_addSpot (wsX5_verdict) := ggX4_addSpot_X5_verdict
theorem dX4_addSpot_0 : decode cX4_addSpot 0 = .ok (.iload_n 1, 1) := by decide +kernel
theorem dX4_addSpot_1 : decode cX4_addSpot 1 = .ok (.iload_n 2, 1) := by decide +kernel
theorem dX4_addSpot_2 : decode cX4_addSpot 2 = .ok (.invokestatic 54, 3) := by decide +kernel
theorem dX4_addSpot_5 : decode cX4_addSpot 5 = .ok (.istore_n 3, 1) := by decide +kernel
theorem dX4_addSpot_6 : decode cX4_addSpot 6 = .ok (.iload_n 3, 1) := by decide +kernel
theorem dX4_addSpot_7 : decode cX4_addSpot 7 = .ok (.iconst 1, 1) := by decide +kernel
theorem dX4_addSpot_8 : decode cX4_addSpot 8 = .ok (.if_icmp .ne 16, 3) := by decide +kernel
theorem dX4_addSpot_11 : decode cX4_addSpot 11 = .ok (.aload_n 0, 1) := by decide +kernel
theorem dX4_addSpot_12 : decode cX4_addSpot 12 = .ok (.dup, 1) := by decide +kernel
theorem dX4_addSpot_13 : decode cX4_addSpot 13 = .ok (.getfield 9, 3) := by decide +kernel
theorem dX4_addSpot_16 : decode cX4_addSpot 16 = .ok (.iconst 1, 1) := by decide +kernel
theorem dX4_addSpot_17 : decode cX4_addSpot 17 = .ok (.iadd, 1) := by decide +kernel
theorem dX4_addSpot_18 : decode cX4_addSpot 18 = .ok (.putfield 9, 3) := by decide +kernel
theorem dX4_addSpot_21 : decode cX4_addSpot 21 = .ok (.goto 18, 3) := by decide +kernel
theorem dX4_addSpot_24 : decode cX4_addSpot 24 = .ok (.iload_n 3, 1) := by decide +kernel
theorem dX4_addSpot_25 : decode cX4_addSpot 25 = .ok (.iconst 2, 1) := by decide +kernel
theorem dX4_addSpot_26 : decode cX4_addSpot 26 = .ok (.if_icmp .ne 13, 3) := by decide +kernel
theorem dX4_addSpot_29 : decode cX4_addSpot 29 = .ok (.aload_n 0, 1) := by decide +kernel
theorem dX4_addSpot_30 : decode cX4_addSpot 30 = .ok (.dup, 1) := by decide +kernel
theorem dX4_addSpot_31 : decode cX4_addSpot 31 = .ok (.getfield 15, 3) := by decide +kernel
theorem dX4_addSpot_34 : decode cX4_addSpot 34 = .ok (.iconst 1, 1) := by decide +kernel
theorem dX4_addSpot_35 : decode cX4_addSpot 35 = .ok (.iadd, 1) := by decide +kernel
theorem dX4_addSpot_36 : decode cX4_addSpot 36 = .ok (.putfield 15, 3) := by decide +kernel
theorem dX4_addSpot_39 : decode cX4_addSpot 39 = .ok (.iload_n 2, 1) := by decide +kernel
theorem dX4_addSpot_40 : decode cX4_addSpot 40 = .ok (.iload_n 1, 1) := by decide +kernel
theorem dX4_addSpot_41 : decode cX4_addSpot 41 = .ok (.isub, 1) := by decide +kernel
theorem dX4_addSpot_42 : decode cX4_addSpot 42 = .ok (.invokestatic 57, 3) := by decide +kernel
theorem dX4_addSpot_45 : decode cX4_addSpot 45 = .ok (.istore 4, 2) := by decide +kernel
theorem dX4_addSpot_47 : decode cX4_addSpot 47 = .ok (.aload_n 0, 1) := by decide +kernel
theorem dX4_addSpot_48 : decode cX4_addSpot 48 = .ok (.dup, 1) := by decide +kernel
theorem dX4_addSpot_49 : decode cX4_addSpot 49 = .ok (.getfield 18, 3) := by decide +kernel
theorem dX4_addSpot_52 : decode cX4_addSpot 52 = .ok (.iload 4, 2) := by decide +kernel
theorem dX4_addSpot_54 : decode cX4_addSpot 54 = .ok (.iadd, 1) := by decide +kernel
theorem dX4_addSpot_55 : decode cX4_addSpot 55 = .ok (.putfield 18, 3) := by decide +kernel
theorem dX4_addSpot_58 : decode cX4_addSpot 58 = .ok (.aload_n 0, 1) := by decide +kernel
theorem dX4_addSpot_59 : decode cX4_addSpot 59 = .ok (.aload_n 0, 1) := by decide +kernel
theorem dX4_addSpot_60 : decode cX4_addSpot 60 = .ok (.getfield 21, 3) := by decide +kernel
theorem dX4_addSpot_63 : decode cX4_addSpot 63 = .ok (.iload 4, 2) := by decide +kernel
theorem dX4_addSpot_65 : decode cX4_addSpot 65 = .ok (.invokestatic 62, 3) := by decide +kernel
theorem dX4_addSpot_68 : decode cX4_addSpot 68 = .ok (.putfield 21, 3) := by decide +kernel
theorem dX4_addSpot_71 : decode cX4_addSpot 71 = .ok (.aload_n 0, 1) := by decide +kernel
theorem dX4_addSpot_72 : decode cX4_addSpot 72 = .ok (.dup, 1) := by decide +kernel
theorem dX4_addSpot_73 : decode cX4_addSpot 73 = .ok (.getfield 24, 3) := by decide +kernel
theorem dX4_addSpot_76 : decode cX4_addSpot 76 = .ok (.iload_n 2, 1) := by decide +kernel
theorem dX4_addSpot_77 : decode cX4_addSpot 77 = .ok (.iadd, 1) := by decide +kernel
theorem dX4_addSpot_78 : decode cX4_addSpot 78 = .ok (.putfield 24, 3) := by decide +kernel
theorem dX4_addSpot_81 : decode cX4_addSpot 81 = .ok (.return_, 1) := by decide +kernel
set_option maxRecDepth 20000 in
theorem ggX5_init_X3_init : GoodIn wsX5_init wsX3_init := goodIn_r _ [31, 32, 2, 3, 27, 33, 34, 35, 36, 37, 38, 39, 40, 41, 42, 43, 44, 75, 76, 77, 78, 79, 80, 81] (by decide +kernel) (by decide +kernel)
set_option maxRecDepth 20000 in
theorem gX5_init_X3_init : GoodIn wsX5_init (wsX3_init) := ggX5_init_X3_init
set_option maxRecDepth 20000 in
theorem ggX5_init_X0_init : GoodIn wsX5_init wsX0_init := goodIn_r _ [47, 48, 2, 3, 49, 50, 51, 52, 5, 6, 53, 30, 31, 32, 27, 33, 34, 35, 36, 37, 38, 39, 40, 41, 42, 43, 44, 91, 92, 93, 75, 76, 77, 78, 79, 80, 81] (by decide +kernel) (by decide +kernel)
set_option maxRecDepth 20000 in
theorem gX5_init_X0_init : GoodIn wsX5_init (wsX0_init) := ggX5_init_X0_init
set_option maxRecDepth 20000 in
theorem ggX5_init_X1_init : GoodIn wsX5_init wsX1_init := goodIn_r _ [55, 56, 2, 3, 57, 58, 59, 27, 60, 61, 94, 95, 96, 97] (by decide +kernel) (by decide +kernel)
set_option maxRecDepth 20000 in
theorem gX5_init_X1_init_n32 : GoodIn wsX5_init (wsX1_init) := ggX5_init_X1_init
set_option maxRecDepth 20000 in
theorem ggX5_init_X2_init : GoodIn wsX5_init wsX2_init := goodIn_r _ [63, 64, 2, 3, 27, 65, 66, 98, 99] (by decide +kernel) (by decide +kernel)
set_option maxRecDepth 20000 in
theorem gX5_init_X2_init_n42 : GoodIn wsX5_init (wsX2_init) := ggX5_init_X2_init
set_option maxRecDepth 20000 in
theorem ggX5_init_X4_init : GoodIn wsX5_init wsX4_init := goodIn_r _ [68, 69, 2, 3, 70, 71, 72, 73, 74, 100, 101, 102, 103, 104] (by decide +kernel) (by decide +kernel)
set_option maxRecDepth 20000 in
theorem gX5_init_X4_init_n49 : GoodIn wsX5_init (wsX4_init) := ggX5_init_X4_init
theorem dX5_init_0 : decode cX5_init 0 = .ok (.aload_n 0, 1) := by decide +kernel
theorem dX5_init_1 : decode cX5_init 1 = .ok (.invokespecial 3, 3) := by decide +kernel
theorem dX5_init_4 : decode cX5_init 4 = .ok (.aload_n 0, 1) := by decide +kernel
theorem dX5_init_5 : decode cX5_init 5 = .ok (.new 9, 3) := by decide +kernel
theorem dX5_init_8 : decode cX5_init 8 = .ok (.dup, 1) := by decide +kernel
theorem dX5_init_9 : decode cX5_init 9 = .ok (.invokespecial 11, 3) := by decide +kernel
theorem dX5_init_12 : decode cX5_init 12 = .ok (.putfield 12, 3) := by decide +kernel
theorem dX5_init_15 : decode cX5_init 15 = .ok (.aload_n 0, 1) := by decide +kernel
theorem dX5_init_16 : decode cX5_init 16 = .ok (.new 9, 3) := by decide +kernel
theorem dX5_init_19 : decode cX5_init 19 = .ok (.dup, 1) := by decide +kernel
theorem dX5_init_20 : decode cX5_init 20 = .ok (.invokespecial 11, 3) := by decide +kernel
theorem dX5_init_23 : decode cX5_init 23 = .ok (.putfield 16, 3) := by decide +kernel
theorem dX5_init_26 : decode cX5_init 26 = .ok (.aload_n 0, 1) := by decide +kernel
theorem dX5_init_27 : decode cX5_init 27 = .ok (.iconst 0, 1) := by decide +kernel
theorem dX5_init_28 : decode cX5_init 28 = .ok (.putfield 19, 3) := by decide +kernel
theorem dX5_init_31 : decode cX5_init 31 = .ok (.aload_n 0, 1) := by decide +kernel
theorem dX5_init_32 : decode cX5_init 32 = .ok (.new 23, 3) := by decide +kernel
theorem dX5_init_35 : decode cX5_init 35 = .ok (.dup, 1) := by decide +kernel
theorem dX5_init_36 : decode cX5_init 36 = .ok (.invokespecial 25, 3) := by decide +kernel
theorem dX5_init_39 : decode cX5_init 39 = .ok (.putfield 26, 3) := by decide +kernel
theorem dX5_init_42 : decode cX5_init 42 = .ok (.aload_n 0, 1) := by decide +kernel
theorem dX5_init_43 : decode cX5_init 43 = .ok (.new 30, 3) := by decide +kernel
theorem dX5_init_46 : decode cX5_init 46 = .ok (.dup, 1) := by decide +kernel
theorem dX5_init_47 : decode cX5_init 47 = .ok (.invokespecial 32, 3) := by decide +kernel
theorem dX5_init_50 : decode cX5_init 50 = .ok (.putfield 33, 3) := by decide +kernel
theorem dX5_init_53 : decode cX5_init 53 = .ok (.aload_n 0, 1) := by decide +kernel
theorem dX5_init_54 : decode cX5_init 54 = .ok (.new 9, 3) := by decide +kernel
theorem dX5_init_57 : decode cX5_init 57 = .ok (.dup, 1) := by decide +kernel
theorem dX5_init_58 : decode cX5_init 58 = .ok (.invokespecial 11, 3) := by decide +kernel
theorem dX5_init_61 : decode cX5_init 61 = .ok (.putfield 37, 3) := by decide +kernel
theorem dX5_init_64 : decode cX5_init 64 = .ok (.aload_n 0, 1) := by decide +kernel
theorem dX5_init_65 : decode cX5_init 65 = .ok (.new 40, 3) := by decide +kernel
theorem dX5_init_68 : decode cX5_init 68 = .ok (.dup, 1) := by decide +kernel
theorem dX5_init_69 : decode cX5_init 69 = .ok (.invokespecial 42, 3) := by decide +kernel
theorem dX5_init_72 : decode cX5_init 72 = .ok (.putfield 43, 3) := by decide +kernel
theorem dX5_init_75 : decode cX5_init 75 = .ok (.aload_n 0, 1) := by decide +kernel
theorem dX5_init_76 : decode cX5_init 76 = .ok (.new 47, 3) := by decide +kernel
theorem dX5_init_79 : decode cX5_init 79 = .ok (.dup, 1) := by decide +kernel
theorem dX5_init_80 : decode cX5_init 80 = .ok (.invokespecial 49, 3) := by decide +kernel
theorem dX5_init_83 : decode cX5_init 83 = .ok (.putfield 50, 3) := by decide +kernel
theorem dX5_init_86 : decode cX5_init 86 = .ok (.aload_n 0, 1) := by decide +kernel
theorem dX5_init_87 : decode cX5_init 87 = .ok (.sipush 288, 3) := by decide +kernel
theorem dX5_init_90 : decode cX5_init 90 = .ok (.newarray .int, 2) := by decide +kernel
theorem dX5_init_92 : decode cX5_init 92 = .ok (.putfield 54, 3) := by decide +kernel
theorem dX5_init_95 : decode cX5_init 95 = .ok (.return_, 1) := by decide +kernel
set_option maxRecDepth 20000 in
theorem ggX5_ask_X5_onScreen : GoodIn wsX5_ask wsX5_onScreen := goodIn_r _ [7] (by decide +kernel) (by decide +kernel)
set_option maxRecDepth 20000 in
theorem gX5_ask_X5_onScreen : GoodIn wsX5_ask (va_wsS RX5 58 yX5_onScreen wsX5_onScreen) := goodIn_app (goodIn_of _ (by decide +kernel)) ggX5_ask_X5_onScreen
set_option maxRecDepth 20000 in
theorem ggX5_ask_X5_spotAt : GoodIn wsX5_ask wsX5_spotAt := goodIn_r _ [10] (by decide +kernel) (by decide +kernel)
set_option maxRecDepth 20000 in
theorem gX5_ask_X5_spotAt : GoodIn wsX5_ask (va_wsS RX5 62 yX5_spotAt wsX5_spotAt) := goodIn_app (goodIn_of _ (by decide +kernel)) ggX5_ask_X5_spotAt
set_option maxRecDepth 20000 in
theorem ggX5_ask_X0_record : GoodIn wsX5_ask wsX0_record := goodIn_r _ [15, 16, 17, 18, 19, 20, 21, 22, 23, 24, 25, 26, 27, 28, 29, 30, 31, 32, 33, 34, 51, 52, 53, 44, 45, 46, 47, 48, 49, 50] (by decide +kernel) (by decide +kernel)
set_option maxRecDepth 20000 in
theorem gX5_ask_X0_record : GoodIn wsX5_ask (wsV RX5 69 RX0 yX0_record wsX0_record) := goodIn_app (goodIn_of _ (by decide +kernel)) ggX5_ask_X0_record
theorem dX5_ask_0 : decode cX5_ask 0 = .ok (.iload_n 1, 1) := by decide +kernel
theorem dX5_ask_1 : decode cX5_ask 1 = .ok (.iload_n 2, 1) := by decide +kernel
theorem dX5_ask_2 : decode cX5_ask 2 = .ok (.invokestatic 58, 3) := by decide +kernel
theorem dX5_ask_5 : decode cX5_ask 5 = .ok (.ifCond .ne 5, 3) := by decide +kernel
theorem dX5_ask_8 : decode cX5_ask 8 = .ok (.iconst (-1), 1) := by decide +kernel
theorem dX5_ask_9 : decode cX5_ask 9 = .ok (.ireturn, 1) := by decide +kernel
theorem dX5_ask_10 : decode cX5_ask 10 = .ok (.iload_n 3, 1) := by decide +kernel
theorem dX5_ask_11 : decode cX5_ask 11 = .ok (.ifCond .lt 10, 3) := by decide +kernel
theorem dX5_ask_14 : decode cX5_ask 14 = .ok (.iload_n 3, 1) := by decide +kernel
theorem dX5_ask_15 : decode cX5_ask 15 = .ok (.sipush 255, 3) := by decide +kernel
theorem dX5_ask_18 : decode cX5_ask 18 = .ok (.if_icmp .le 6, 3) := by decide +kernel
theorem dX5_ask_21 : decode cX5_ask 21 = .ok (.bipush (-2), 2) := by decide +kernel
theorem dX5_ask_23 : decode cX5_ask 23 = .ok (.ireturn, 1) := by decide +kernel
theorem dX5_ask_24 : decode cX5_ask 24 = .ok (.iload_n 1, 1) := by decide +kernel
theorem dX5_ask_25 : decode cX5_ask 25 = .ok (.iload_n 2, 1) := by decide +kernel
theorem dX5_ask_26 : decode cX5_ask 26 = .ok (.invokestatic 62, 3) := by decide +kernel
theorem dX5_ask_29 : decode cX5_ask 29 = .ok (.istore 4, 2) := by decide +kernel
theorem dX5_ask_31 : decode cX5_ask 31 = .ok (.aload_n 0, 1) := by decide +kernel
theorem dX5_ask_32 : decode cX5_ask 32 = .ok (.getfield 12, 3) := by decide +kernel
theorem dX5_ask_35 : decode cX5_ask 35 = .ok (.getfield 66, 3) := by decide +kernel
theorem dX5_ask_38 : decode cX5_ask 38 = .ok (.iload 4, 2) := by decide +kernel
theorem dX5_ask_40 : decode cX5_ask 40 = .ok (.iaload, 1) := by decide +kernel
theorem dX5_ask_41 : decode cX5_ask 41 = .ok (.istore 5, 2) := by decide +kernel
theorem dX5_ask_43 : decode cX5_ask 43 = .ok (.iload 5, 2) := by decide +kernel
theorem dX5_ask_45 : decode cX5_ask 45 = .ok (.iload_n 3, 1) := by decide +kernel
theorem dX5_ask_46 : decode cX5_ask 46 = .ok (.if_icmp .ne 6, 3) := by decide +kernel
theorem dX5_ask_49 : decode cX5_ask 49 = .ok (.bipush (-5), 2) := by decide +kernel
theorem dX5_ask_51 : decode cX5_ask 51 = .ok (.ireturn, 1) := by decide +kernel
theorem dX5_ask_52 : decode cX5_ask 52 = .ok (.aload_n 0, 1) := by decide +kernel
theorem dX5_ask_53 : decode cX5_ask 53 = .ok (.getfield 26, 3) := by decide +kernel
theorem dX5_ask_56 : decode cX5_ask 56 = .ok (.aload_n 0, 1) := by decide +kernel
theorem dX5_ask_57 : decode cX5_ask 57 = .ok (.getfield 12, 3) := by decide +kernel
theorem dX5_ask_60 : decode cX5_ask 60 = .ok (.invokevirtual 69, 3) := by decide +kernel
theorem dX5_ask_63 : decode cX5_ask 63 = .ok (.aload_n 0, 1) := by decide +kernel
theorem dX5_ask_64 : decode cX5_ask 64 = .ok (.getfield 12, 3) := by decide +kernel
theorem dX5_ask_67 : decode cX5_ask 67 = .ok (.getfield 66, 3) := by decide +kernel
theorem dX5_ask_70 : decode cX5_ask 70 = .ok (.iload 4, 2) := by decide +kernel
theorem dX5_ask_72 : decode cX5_ask 72 = .ok (.iload_n 3, 1) := by decide +kernel
theorem dX5_ask_73 : decode cX5_ask 73 = .ok (.iastore, 1) := by decide +kernel
theorem dX5_ask_74 : decode cX5_ask 74 = .ok (.iload 5, 2) := by decide +kernel
theorem dX5_ask_76 : decode cX5_ask 76 = .ok (.ireturn, 1) := by decide +kernel
set_option maxRecDepth 20000 in
theorem ggX5_askAll_X1_read : GoodIn wsX5_askAll wsX1_read := goodIn_r _ [8, 9, 10, 11, 12, 13, 14, 15, 7, 16, 17, 18, 19, 20, 21, 22, 89, 90, 91, 92] (by decide +kernel) (by decide +kernel)
set_option maxRecDepth 20000 in
theorem gX5_askAll_X1_read : GoodIn wsX5_askAll (wsV RX5 73 RX1 yX1_read wsX1_read) := goodIn_app (goodIn_of _ (by decide +kernel)) ggX5_askAll_X1_read
set_option maxRecDepth 20000 in
theorem ggX5_askAll_X0_record : GoodIn wsX5_askAll wsX0_record := goodIn_r _ [27, 28, 29, 30, 31, 32, 33, 34, 35, 36, 37, 38, 39, 40, 41, 42, 43, 44, 45, 46, 93, 94, 95, 96, 97, 98, 99, 100, 101, 102] (by decide +kernel) (by decide +kernel)
set_option maxRecDepth 20000 in
theorem gX5_askAll_X0_record : GoodIn wsX5_askAll (wsV RX5 69 RX0 yX0_record wsX0_record) := goodIn_app (goodIn_of _ (by decide +kernel)) ggX5_askAll_X0_record
set_option maxRecDepth 20000 in
theorem ggX5_askAll_X5_rememberPicture : GoodIn wsX5_askAll wsX5_rememberPicture := goodIn_r _ [51, 3, 52, 53, 54, 38, 39, 40, 80, 81, 82, 83, 84, 85, 86, 87, 88, 96, 97, 98, 99, 100, 101, 102] (by decide +kernel) (by decide +kernel)
set_option maxRecDepth 20000 in
theorem gX5_askAll_X5_rememberPicture : GoodIn wsX5_askAll (wsV RX5 77 RX5 yX5_rememberPicture wsX5_rememberPicture) := goodIn_app (goodIn_of _ (by decide +kernel)) ggX5_askAll_X5_rememberPicture
set_option maxRecDepth 20000 in
theorem ggX5_askAll_X1_parts : GoodIn wsX5_askAll wsX1_parts := goodIn_r _ [58, 9, 89, 90, 91, 92] (by decide +kernel) (by decide +kernel)
set_option maxRecDepth 20000 in
theorem gX5_askAll_X1_parts : GoodIn wsX5_askAll (wsV RX5 80 RX1 yX1_parts wsX1_parts) := goodIn_app (goodIn_of _ (by decide +kernel)) ggX5_askAll_X1_parts
set_option maxRecDepth 20000 in
theorem ggX5_askAll_X1_number : GoodIn wsX5_askAll wsX1_number := goodIn_r _ [62, 17, 89, 90, 91, 92] (by decide +kernel) (by decide +kernel)
set_option maxRecDepth 20000 in
theorem gX5_askAll_X1_number : GoodIn wsX5_askAll (wsV RX5 83 RX1 yX1_number wsX1_number) := goodIn_app (goodIn_of _ (by decide +kernel)) ggX5_askAll_X1_number
set_option maxRecDepth 20000 in
theorem ggX5_askAll_X3_paint : GoodIn wsX5_askAll wsX3_paint := goodIn_r _ [66, 67, 68, 69, 70, 71, 72, 73, 36, 74, 50, 75, 96, 97, 98, 99, 100, 101, 102] (by decide +kernel) (by decide +kernel)
set_option maxRecDepth 20000 in
theorem gX5_askAll_X3_paint : GoodIn wsX5_askAll (wsV RX5 86 RX3 yX3_paint wsX3_paint) := goodIn_app (goodIn_of _ (by decide +kernel)) ggX5_askAll_X3_paint
set_option maxRecDepth 20000 in
theorem ggX5_askAll_X5_changedSpots : GoodIn wsX5_askAll wsX5_changedSpots := goodIn_r _ [79, 3, 52, 53, 80, 81, 82, 83, 84, 85, 86, 87, 88, 96, 97, 98, 99, 100, 101, 102] (by decide +kernel) (by decide +kernel)
set_option maxRecDepth 20000 in
theorem gX5_askAll_X5_changedSpots : GoodIn wsX5_askAll (wsV RX5 90 RX5 yX5_changedSpots wsX5_changedSpots) := goodIn_app (goodIn_of _ (by decide +kernel)) ggX5_askAll_X5_changedSpots
theorem dX5_askAll_0 : decode cX5_askAll 0 = .ok (.aload_n 0, 1) := by decide +kernel
theorem dX5_askAll_1 : decode cX5_askAll 1 = .ok (.getfield 33, 3) := by decide +kernel
theorem dX5_askAll_4 : decode cX5_askAll 4 = .ok (.invokevirtual 73, 3) := by decide +kernel
theorem dX5_askAll_7 : decode cX5_askAll 7 = .ok (.istore_n 1, 1) := by decide +kernel
theorem dX5_askAll_8 : decode cX5_askAll 8 = .ok (.iload_n 1, 1) := by decide +kernel
theorem dX5_askAll_9 : decode cX5_askAll 9 = .ok (.bipush (-5), 2) := by decide +kernel
theorem dX5_askAll_11 : decode cX5_askAll 11 = .ok (.if_icmp .eq 8, 3) := by decide +kernel
theorem dX5_askAll_14 : decode cX5_askAll 14 = .ok (.bipush (-100), 2) := by decide +kernel
theorem dX5_askAll_16 : decode cX5_askAll 16 = .ok (.iload_n 1, 1) := by decide +kernel
theorem dX5_askAll_17 : decode cX5_askAll 17 = .ok (.isub, 1) := by decide +kernel
theorem dX5_askAll_18 : decode cX5_askAll 18 = .ok (.ireturn, 1) := by decide +kernel
theorem dX5_askAll_19 : decode cX5_askAll 19 = .ok (.aload_n 0, 1) := by decide +kernel
theorem dX5_askAll_20 : decode cX5_askAll 20 = .ok (.getfield 26, 3) := by decide +kernel
theorem dX5_askAll_23 : decode cX5_askAll 23 = .ok (.aload_n 0, 1) := by decide +kernel
theorem dX5_askAll_24 : decode cX5_askAll 24 = .ok (.getfield 12, 3) := by decide +kernel
theorem dX5_askAll_27 : decode cX5_askAll 27 = .ok (.invokevirtual 69, 3) := by decide +kernel
theorem dX5_askAll_30 : decode cX5_askAll 30 = .ok (.aload_n 0, 1) := by decide +kernel
theorem dX5_askAll_31 : decode cX5_askAll 31 = .ok (.invokevirtual 77, 3) := by decide +kernel
theorem dX5_askAll_34 : decode cX5_askAll 34 = .ok (.iconst 0, 1) := by decide +kernel
theorem dX5_askAll_35 : decode cX5_askAll 35 = .ok (.istore_n 2, 1) := by decide +kernel
theorem dX5_askAll_36 : decode cX5_askAll 36 = .ok (.iload_n 2, 1) := by decide +kernel
theorem dX5_askAll_37 : decode cX5_askAll 37 = .ok (.aload_n 0, 1) := by decide +kernel
theorem dX5_askAll_38 : decode cX5_askAll 38 = .ok (.getfield 33, 3) := by decide +kernel
theorem dX5_askAll_41 : decode cX5_askAll 41 = .ok (.invokevirtual 80, 3) := by decide +kernel
theorem dX5_askAll_44 : decode cX5_askAll 44 = .ok (.if_icmp .ge 61, 3) := by decide +kernel
theorem dX5_askAll_47 : decode cX5_askAll 47 = .ok (.aload_n 0, 1) := by decide +kernel
theorem dX5_askAll_48 : decode cX5_askAll 48 = .ok (.getfield 12, 3) := by decide +kernel
theorem dX5_askAll_51 : decode cX5_askAll 51 = .ok (.aload_n 0, 1) := by decide +kernel
theorem dX5_askAll_52 : decode cX5_askAll 52 = .ok (.getfield 33, 3) := by decide +kernel
theorem dX5_askAll_55 : decode cX5_askAll 55 = .ok (.iload_n 2, 1) := by decide +kernel
theorem dX5_askAll_56 : decode cX5_askAll 56 = .ok (.iconst 0, 1) := by decide +kernel
theorem dX5_askAll_57 : decode cX5_askAll 57 = .ok (.invokevirtual 83, 3) := by decide +kernel
theorem dX5_askAll_60 : decode cX5_askAll 60 = .ok (.aload_n 0, 1) := by decide +kernel
theorem dX5_askAll_61 : decode cX5_askAll 61 = .ok (.getfield 33, 3) := by decide +kernel
theorem dX5_askAll_64 : decode cX5_askAll 64 = .ok (.iload_n 2, 1) := by decide +kernel
theorem dX5_askAll_65 : decode cX5_askAll 65 = .ok (.iconst 1, 1) := by decide +kernel
theorem dX5_askAll_66 : decode cX5_askAll 66 = .ok (.invokevirtual 83, 3) := by decide +kernel
theorem dX5_askAll_69 : decode cX5_askAll 69 = .ok (.aload_n 0, 1) := by decide +kernel
theorem dX5_askAll_70 : decode cX5_askAll 70 = .ok (.getfield 33, 3) := by decide +kernel
theorem dX5_askAll_73 : decode cX5_askAll 73 = .ok (.iload_n 2, 1) := by decide +kernel
theorem dX5_askAll_74 : decode cX5_askAll 74 = .ok (.iconst 2, 1) := by decide +kernel
theorem dX5_askAll_75 : decode cX5_askAll 75 = .ok (.invokevirtual 83, 3) := by decide +kernel
theorem dX5_askAll_78 : decode cX5_askAll 78 = .ok (.aload_n 0, 1) := by decide +kernel
theorem dX5_askAll_79 : decode cX5_askAll 79 = .ok (.getfield 33, 3) := by decide +kernel
theorem dX5_askAll_82 : decode cX5_askAll 82 = .ok (.iload_n 2, 1) := by decide +kernel
theorem dX5_askAll_83 : decode cX5_askAll 83 = .ok (.iconst 3, 1) := by decide +kernel
theorem dX5_askAll_84 : decode cX5_askAll 84 = .ok (.invokevirtual 83, 3) := by decide +kernel
theorem dX5_askAll_87 : decode cX5_askAll 87 = .ok (.aload_n 0, 1) := by decide +kernel
theorem dX5_askAll_88 : decode cX5_askAll 88 = .ok (.getfield 33, 3) := by decide +kernel
theorem dX5_askAll_91 : decode cX5_askAll 91 = .ok (.iload_n 2, 1) := by decide +kernel
theorem dX5_askAll_92 : decode cX5_askAll 92 = .ok (.iconst 4, 1) := by decide +kernel
theorem dX5_askAll_93 : decode cX5_askAll 93 = .ok (.invokevirtual 83, 3) := by decide +kernel
theorem dX5_askAll_96 : decode cX5_askAll 96 = .ok (.invokevirtual 86, 3) := by decide +kernel
theorem dX5_askAll_99 : decode cX5_askAll 99 = .ok (.iinc 2 1, 3) := by decide +kernel
theorem dX5_askAll_102 : decode cX5_askAll 102 = .ok (.goto (-66), 3) := by decide +kernel
theorem dX5_askAll_105 : decode cX5_askAll 105 = .ok (.aload_n 0, 1) := by decide +kernel
theorem dX5_askAll_106 : decode cX5_askAll 106 = .ok (.invokevirtual 90, 3) := by decide +kernel
theorem dX5_askAll_109 : decode cX5_askAll 109 = .ok (.ireturn, 1) := by decide +kernel
set_option maxRecDepth 20000 in
theorem ggX5_move_X0_record : GoodIn wsX5_move wsX0_record := goodIn_r _ [10, 11, 12, 13, 14, 15, 16, 17, 18, 19, 20, 21, 22, 23, 24, 25, 26, 27, 28, 29, 58, 59, 60, 61, 62, 63, 64, 65, 66, 67] (by decide +kernel) (by decide +kernel)
set_option maxRecDepth 20000 in
theorem gX5_move_X0_record : GoodIn wsX5_move (wsV RX5 69 RX0 yX0_record wsX0_record) := goodIn_app (goodIn_of _ (by decide +kernel)) ggX5_move_X0_record
set_option maxRecDepth 20000 in
theorem ggX5_move_X5_rememberPicture : GoodIn wsX5_move wsX5_rememberPicture := goodIn_r _ [34, 2, 35, 3, 36, 21, 22, 23, 49, 50, 51, 52, 53, 54, 55, 56, 57, 61, 62, 63, 64, 65, 66, 67] (by decide +kernel) (by decide +kernel)
set_option maxRecDepth 20000 in
theorem gX5_move_X5_rememberPicture : GoodIn wsX5_move (wsV RX5 77 RX5 yX5_rememberPicture wsX5_rememberPicture) := goodIn_app (goodIn_of _ (by decide +kernel)) ggX5_move_X5_rememberPicture
set_option maxRecDepth 20000 in
theorem ggX5_move_X3_takeShifted : GoodIn wsX5_move wsX3_takeShifted := goodIn_r _ [40, 19, 41, 33, 42, 43, 44, 61, 62, 63, 64, 65, 66, 67] (by decide +kernel) (by decide +kernel)
set_option maxRecDepth 20000 in
theorem gX5_move_X3_takeShifted : GoodIn wsX5_move (wsV RX5 99 RX3 yX3_takeShifted wsX3_takeShifted) := goodIn_app (goodIn_of _ (by decide +kernel)) ggX5_move_X3_takeShifted
set_option maxRecDepth 20000 in
theorem ggX5_move_X5_changedSpots : GoodIn wsX5_move wsX5_changedSpots := goodIn_r _ [48, 2, 35, 3, 49, 50, 51, 52, 53, 54, 55, 56, 57, 61, 62, 63, 64, 65, 66, 67] (by decide +kernel) (by decide +kernel)
set_option maxRecDepth 20000 in
theorem gX5_move_X5_changedSpots : GoodIn wsX5_move (wsV RX5 90 RX5 yX5_changedSpots wsX5_changedSpots) := goodIn_app (goodIn_of _ (by decide +kernel)) ggX5_move_X5_changedSpots
theorem dX5_move_0 : decode cX5_move 0 = .ok (.iload_n 1, 1) := by decide +kernel
theorem dX5_move_1 : decode cX5_move 1 = .ok (.ifCond .lt 8, 3) := by decide +kernel
theorem dX5_move_4 : decode cX5_move 4 = .ok (.iload_n 1, 1) := by decide +kernel
theorem dX5_move_5 : decode cX5_move 5 = .ok (.iconst 4, 1) := by decide +kernel
theorem dX5_move_6 : decode cX5_move 6 = .ok (.if_icmp .lt 6, 3) := by decide +kernel
theorem dX5_move_9 : decode cX5_move 9 = .ok (.bipush (-2), 2) := by decide +kernel
theorem dX5_move_11 : decode cX5_move 11 = .ok (.ireturn, 1) := by decide +kernel
theorem dX5_move_12 : decode cX5_move 12 = .ok (.aload_n 0, 1) := by decide +kernel
theorem dX5_move_13 : decode cX5_move 13 = .ok (.getfield 26, 3) := by decide +kernel
theorem dX5_move_16 : decode cX5_move 16 = .ok (.aload_n 0, 1) := by decide +kernel
theorem dX5_move_17 : decode cX5_move 17 = .ok (.getfield 12, 3) := by decide +kernel
theorem dX5_move_20 : decode cX5_move 20 = .ok (.invokevirtual 69, 3) := by decide +kernel
theorem dX5_move_23 : decode cX5_move 23 = .ok (.aload_n 0, 1) := by decide +kernel
theorem dX5_move_24 : decode cX5_move 24 = .ok (.invokevirtual 77, 3) := by decide +kernel
theorem dX5_move_27 : decode cX5_move 27 = .ok (.aload_n 0, 1) := by decide +kernel
theorem dX5_move_28 : decode cX5_move 28 = .ok (.getfield 12, 3) := by decide +kernel
theorem dX5_move_31 : decode cX5_move 31 = .ok (.aload_n 0, 1) := by decide +kernel
theorem dX5_move_32 : decode cX5_move 32 = .ok (.getfield 54, 3) := by decide +kernel
theorem dX5_move_35 : decode cX5_move 35 = .ok (.getstatic 93, 3) := by decide +kernel
theorem dX5_move_38 : decode cX5_move 38 = .ok (.iload_n 1, 1) := by decide +kernel
theorem dX5_move_39 : decode cX5_move 39 = .ok (.iaload, 1) := by decide +kernel
theorem dX5_move_40 : decode cX5_move 40 = .ok (.getstatic 96, 3) := by decide +kernel
theorem dX5_move_43 : decode cX5_move 43 = .ok (.iload_n 1, 1) := by decide +kernel
theorem dX5_move_44 : decode cX5_move 44 = .ok (.iaload, 1) := by decide +kernel
theorem dX5_move_45 : decode cX5_move 45 = .ok (.invokevirtual 99, 3) := by decide +kernel
theorem dX5_move_48 : decode cX5_move 48 = .ok (.aload_n 0, 1) := by decide +kernel
theorem dX5_move_49 : decode cX5_move 49 = .ok (.invokevirtual 90, 3) := by decide +kernel
theorem dX5_move_52 : decode cX5_move 52 = .ok (.ireturn, 1) := by decide +kernel
set_option maxRecDepth 20000 in
theorem ggX5_kill_X5_isZone : GoodIn wsX5_kill wsX5_isZone := goodIn_r _ [8] (by decide +kernel) (by decide +kernel)
set_option maxRecDepth 20000 in
theorem gX5_kill_X5_isZone : GoodIn wsX5_kill (va_wsS RX5 103 yX5_isZone wsX5_isZone) := goodIn_app (goodIn_of _ (by decide +kernel)) ggX5_kill_X5_isZone
set_option maxRecDepth 20000 in
theorem ggX5_kill_X0_record : GoodIn wsX5_kill wsX0_record := goodIn_r _ [13, 14, 15, 16, 17, 18, 19, 20, 21, 22, 23, 24, 25, 26, 27, 28, 29, 30, 31, 32, 49, 50, 51, 42, 43, 44, 45, 46, 47, 48] (by decide +kernel) (by decide +kernel)
set_option maxRecDepth 20000 in
theorem gX5_kill_X0_record : GoodIn wsX5_kill (wsV RX5 69 RX0 yX0_record wsX0_record) := goodIn_app (goodIn_of _ (by decide +kernel)) ggX5_kill_X0_record
theorem dX5_kill_0 : decode cX5_kill 0 = .ok (.iload_n 1, 1) := by decide +kernel
theorem dX5_kill_1 : decode cX5_kill 1 = .ok (.invokestatic 103, 3) := by decide +kernel
theorem dX5_kill_4 : decode cX5_kill 4 = .ok (.ifCond .ne 5, 3) := by decide +kernel
theorem dX5_kill_7 : decode cX5_kill 7 = .ok (.iconst (-1), 1) := by decide +kernel
theorem dX5_kill_8 : decode cX5_kill 8 = .ok (.ireturn, 1) := by decide +kernel
theorem dX5_kill_9 : decode cX5_kill 9 = .ok (.aload_n 0, 1) := by decide +kernel
theorem dX5_kill_10 : decode cX5_kill 10 = .ok (.getfield 12, 3) := by decide +kernel
theorem dX5_kill_13 : decode cX5_kill 13 = .ok (.getfield 107, 3) := by decide +kernel
theorem dX5_kill_16 : decode cX5_kill 16 = .ok (.iload_n 1, 1) := by decide +kernel
theorem dX5_kill_17 : decode cX5_kill 17 = .ok (.baload, 1) := by decide +kernel
theorem dX5_kill_18 : decode cX5_kill 18 = .ok (.iload_n 2, 1) := by decide +kernel
theorem dX5_kill_19 : decode cX5_kill 19 = .ok (.if_icmp .ne 6, 3) := by decide +kernel
theorem dX5_kill_22 : decode cX5_kill 22 = .ok (.bipush (-5), 2) := by decide +kernel
theorem dX5_kill_24 : decode cX5_kill 24 = .ok (.ireturn, 1) := by decide +kernel
theorem dX5_kill_25 : decode cX5_kill 25 = .ok (.aload_n 0, 1) := by decide +kernel
theorem dX5_kill_26 : decode cX5_kill 26 = .ok (.getfield 26, 3) := by decide +kernel
theorem dX5_kill_29 : decode cX5_kill 29 = .ok (.aload_n 0, 1) := by decide +kernel
theorem dX5_kill_30 : decode cX5_kill 30 = .ok (.getfield 12, 3) := by decide +kernel
theorem dX5_kill_33 : decode cX5_kill 33 = .ok (.invokevirtual 69, 3) := by decide +kernel
theorem dX5_kill_36 : decode cX5_kill 36 = .ok (.aload_n 0, 1) := by decide +kernel
theorem dX5_kill_37 : decode cX5_kill 37 = .ok (.getfield 12, 3) := by decide +kernel
theorem dX5_kill_40 : decode cX5_kill 40 = .ok (.getfield 111, 3) := by decide +kernel
theorem dX5_kill_43 : decode cX5_kill 43 = .ok (.iload_n 1, 1) := by decide +kernel
theorem dX5_kill_44 : decode cX5_kill 44 = .ok (.iaload, 1) := by decide +kernel
theorem dX5_kill_45 : decode cX5_kill 45 = .ok (.istore_n 3, 1) := by decide +kernel
theorem dX5_kill_46 : decode cX5_kill 46 = .ok (.aload_n 0, 1) := by decide +kernel
theorem dX5_kill_47 : decode cX5_kill 47 = .ok (.getfield 12, 3) := by decide +kernel
theorem dX5_kill_50 : decode cX5_kill 50 = .ok (.getfield 107, 3) := by decide +kernel
theorem dX5_kill_53 : decode cX5_kill 53 = .ok (.iload_n 1, 1) := by decide +kernel
theorem dX5_kill_54 : decode cX5_kill 54 = .ok (.iload_n 2, 1) := by decide +kernel
theorem dX5_kill_55 : decode cX5_kill 55 = .ok (.bastore, 1) := by decide +kernel
theorem dX5_kill_56 : decode cX5_kill 56 = .ok (.aload_n 0, 1) := by decide +kernel
theorem dX5_kill_57 : decode cX5_kill 57 = .ok (.getfield 12, 3) := by decide +kernel
theorem dX5_kill_60 : decode cX5_kill 60 = .ok (.getfield 111, 3) := by decide +kernel
theorem dX5_kill_63 : decode cX5_kill 63 = .ok (.iload_n 1, 1) := by decide +kernel
theorem dX5_kill_64 : decode cX5_kill 64 = .ok (.iconst 0, 1) := by decide +kernel
theorem dX5_kill_65 : decode cX5_kill 65 = .ok (.iastore, 1) := by decide +kernel
theorem dX5_kill_66 : decode cX5_kill 66 = .ok (.iload_n 3, 1) := by decide +kernel
theorem dX5_kill_67 : decode cX5_kill 67 = .ok (.ireturn, 1) := by decide +kernel
set_option maxRecDepth 20000 in
theorem ggX5_pass_X0_record : GoodIn wsX5_pass wsX0_record := goodIn_r _ [9, 10, 11, 12, 13, 14, 15, 16, 17, 18, 19, 20, 21, 22, 23, 24, 25, 26, 27, 28, 132, 133, 134, 135, 136, 137, 138, 139, 140, 141] (by decide +kernel) (by decide +kernel)
set_option maxRecDepth 20000 in
theorem gX5_pass_X0_record : GoodIn wsX5_pass (wsV RX5 69 RX0 yX0_record wsX0_record) := goodIn_app (goodIn_of _ (by decide +kernel)) ggX5_pass_X0_record
set_option maxRecDepth 20000 in
theorem ggX5_pass_X2_make : GoodIn wsX5_pass wsX2_make := goodIn_r _ [33, 34, 35, 36, 37, 38, 39, 40, 16, 41, 18, 42, 43, 44, 45, 46, 47, 48, 49, 50, 51, 52, 53, 54, 32, 55, 56, 57, 58, 59, 60, 61, 62, 63, 64, 65, 66, 67, 68, 69, 70, 71, 72, 73, 74, 75, 24, 76, 77, 78, 79, 80, 81, 82, 83, 84, 85, 86, 87, 88, 89, 90, 91, 92, 93, 94, 95, 96, 97, 98, 99, 100, 101, 102, 103, 104, 105, 106, 107, 108, 109, 130, 131, 135, 136, 137, 138, 139, 140, 141] (by decide +kernel) (by decide +kernel)
set_option maxRecDepth 20000 in
theorem gX5_pass_X2_make : GoodIn wsX5_pass (wsV RX5 114 RX2 yX2_make wsX2_make) := goodIn_app (goodIn_of _ (by decide +kernel)) ggX5_pass_X2_make
set_option maxRecDepth 20000 in
theorem ggX5_pass_X3_passFrame : GoodIn wsX5_pass wsX3_passFrame := goodIn_r _ [113, 25, 23, 24, 114, 57, 44, 58, 42, 43, 45, 27, 115, 79, 80, 26, 28, 116, 117, 118, 16, 119, 135, 136, 137, 138, 139, 140, 141] (by decide +kernel) (by decide +kernel)
set_option maxRecDepth 20000 in
theorem gX5_pass_X3_passFrame : GoodIn wsX5_pass (wsV RX5 118 RX3 yX3_passFrame wsX3_passFrame) := goodIn_app (goodIn_of _ (by decide +kernel)) ggX5_pass_X3_passFrame
set_option maxRecDepth 20000 in
theorem ggX5_pass_X3_power : GoodIn wsX5_pass wsX3_power := goodIn_r _ [119, 23, 135, 136, 137, 138, 139, 140, 141] (by decide +kernel) (by decide +kernel)
set_option maxRecDepth 20000 in
theorem gX5_pass_X3_power : GoodIn wsX5_pass (wsV RX5 122 RX3 yX3_power wsX3_power) := goodIn_app (goodIn_of _ (by decide +kernel)) ggX5_pass_X3_power
theorem dX5_pass_0 : decode cX5_pass 0 = .ok (.iload_n 1, 1) := by decide +kernel
theorem dX5_pass_1 : decode cX5_pass 1 = .ok (.iconst 1, 1) := by decide +kernel
theorem dX5_pass_2 : decode cX5_pass 2 = .ok (.if_icmp .lt 9, 3) := by decide +kernel
theorem dX5_pass_5 : decode cX5_pass 5 = .ok (.iload_n 1, 1) := by decide +kernel
theorem dX5_pass_6 : decode cX5_pass 6 = .ok (.bipush 99, 2) := by decide +kernel
theorem dX5_pass_8 : decode cX5_pass 8 = .ok (.if_icmp .le 6, 3) := by decide +kernel
theorem dX5_pass_11 : decode cX5_pass 11 = .ok (.bipush (-2), 2) := by decide +kernel
theorem dX5_pass_13 : decode cX5_pass 13 = .ok (.ireturn, 1) := by decide +kernel
theorem dX5_pass_14 : decode cX5_pass 14 = .ok (.aload_n 0, 1) := by decide +kernel
theorem dX5_pass_15 : decode cX5_pass 15 = .ok (.getfield 26, 3) := by decide +kernel
theorem dX5_pass_18 : decode cX5_pass 18 = .ok (.aload_n 0, 1) := by decide +kernel
theorem dX5_pass_19 : decode cX5_pass 19 = .ok (.getfield 12, 3) := by decide +kernel
theorem dX5_pass_22 : decode cX5_pass 22 = .ok (.invokevirtual 69, 3) := by decide +kernel
theorem dX5_pass_25 : decode cX5_pass 25 = .ok (.aload_n 0, 1) := by decide +kernel
theorem dX5_pass_26 : decode cX5_pass 26 = .ok (.getfield 43, 3) := by decide +kernel
theorem dX5_pass_29 : decode cX5_pass 29 = .ok (.aload_n 0, 1) := by decide +kernel
theorem dX5_pass_30 : decode cX5_pass 30 = .ok (.getfield 12, 3) := by decide +kernel
theorem dX5_pass_33 : decode cX5_pass 33 = .ok (.invokevirtual 114, 3) := by decide +kernel
theorem dX5_pass_36 : decode cX5_pass 36 = .ok (.iconst 0, 1) := by decide +kernel
theorem dX5_pass_37 : decode cX5_pass 37 = .ok (.istore_n 2, 1) := by decide +kernel
theorem dX5_pass_38 : decode cX5_pass 38 = .ok (.iload_n 2, 1) := by decide +kernel
theorem dX5_pass_39 : decode cX5_pass 39 = .ok (.iload_n 1, 1) := by decide +kernel
theorem dX5_pass_40 : decode cX5_pass 40 = .ok (.if_icmp .ge 23, 3) := by decide +kernel
theorem dX5_pass_43 : decode cX5_pass 43 = .ok (.aload_n 0, 1) := by decide +kernel
theorem dX5_pass_44 : decode cX5_pass 44 = .ok (.getfield 12, 3) := by decide +kernel
theorem dX5_pass_47 : decode cX5_pass 47 = .ok (.aload_n 0, 1) := by decide +kernel
theorem dX5_pass_48 : decode cX5_pass 48 = .ok (.getfield 43, 3) := by decide +kernel
theorem dX5_pass_51 : decode cX5_pass 51 = .ok (.getfield 117, 3) := by decide +kernel
theorem dX5_pass_54 : decode cX5_pass 54 = .ok (.invokevirtual 118, 3) := by decide +kernel
theorem dX5_pass_57 : decode cX5_pass 57 = .ok (.iinc 2 1, 3) := by decide +kernel
theorem dX5_pass_60 : decode cX5_pass 60 = .ok (.goto (-22), 3) := by decide +kernel
theorem dX5_pass_63 : decode cX5_pass 63 = .ok (.aload_n 0, 1) := by decide +kernel
theorem dX5_pass_64 : decode cX5_pass 64 = .ok (.getfield 12, 3) := by decide +kernel
theorem dX5_pass_67 : decode cX5_pass 67 = .ok (.invokevirtual 122, 3) := by decide +kernel
theorem dX5_pass_70 : decode cX5_pass 70 = .ok (.ireturn, 1) := by decide +kernel
set_option maxRecDepth 20000 in
theorem ggX5_set_X0_record : GoodIn wsX5_set wsX0_record := goodIn_r _ [10, 11, 12, 13, 14, 15, 16, 17, 18, 19, 20, 21, 22, 23, 24, 25, 26, 27, 28, 29, 46, 47, 48, 39, 40, 41, 42, 43, 44, 45] (by decide +kernel) (by decide +kernel)
set_option maxRecDepth 20000 in
theorem gX5_set_X0_record : GoodIn wsX5_set (wsV RX5 69 RX0 yX0_record wsX0_record) := goodIn_app (goodIn_of _ (by decide +kernel)) ggX5_set_X0_record
theorem dX5_set_0 : decode cX5_set 0 = .ok (.iload_n 1, 1) := by decide +kernel
theorem dX5_set_1 : decode cX5_set 1 = .ok (.ifCond .lt 9, 3) := by decide +kernel
theorem dX5_set_4 : decode cX5_set 4 = .ok (.iload_n 1, 1) := by decide +kernel
theorem dX5_set_5 : decode cX5_set 5 = .ok (.bipush 8, 2) := by decide +kernel
theorem dX5_set_7 : decode cX5_set 7 = .ok (.if_icmp .lt 6, 3) := by decide +kernel
theorem dX5_set_10 : decode cX5_set 10 = .ok (.bipush (-2), 2) := by decide +kernel
theorem dX5_set_12 : decode cX5_set 12 = .ok (.ireturn, 1) := by decide +kernel
theorem dX5_set_13 : decode cX5_set 13 = .ok (.iload_n 2, 1) := by decide +kernel
theorem dX5_set_14 : decode cX5_set 14 = .ok (.getstatic 125, 3) := by decide +kernel
theorem dX5_set_17 : decode cX5_set 17 = .ok (.iload_n 1, 1) := by decide +kernel
theorem dX5_set_18 : decode cX5_set 18 = .ok (.iaload, 1) := by decide +kernel
theorem dX5_set_19 : decode cX5_set 19 = .ok (.if_icmp .lt 12, 3) := by decide +kernel
theorem dX5_set_22 : decode cX5_set 22 = .ok (.iload_n 2, 1) := by decide +kernel
theorem dX5_set_23 : decode cX5_set 23 = .ok (.getstatic 128, 3) := by decide +kernel
theorem dX5_set_26 : decode cX5_set 26 = .ok (.iload_n 1, 1) := by decide +kernel
theorem dX5_set_27 : decode cX5_set 27 = .ok (.iaload, 1) := by decide +kernel
theorem dX5_set_28 : decode cX5_set 28 = .ok (.if_icmp .le 6, 3) := by decide +kernel
theorem dX5_set_31 : decode cX5_set 31 = .ok (.bipush (-2), 2) := by decide +kernel
theorem dX5_set_33 : decode cX5_set 33 = .ok (.ireturn, 1) := by decide +kernel
theorem dX5_set_34 : decode cX5_set 34 = .ok (.aload_n 0, 1) := by decide +kernel
theorem dX5_set_35 : decode cX5_set 35 = .ok (.getfield 12, 3) := by decide +kernel
theorem dX5_set_38 : decode cX5_set 38 = .ok (.getfield 131, 3) := by decide +kernel
theorem dX5_set_41 : decode cX5_set 41 = .ok (.iload_n 1, 1) := by decide +kernel
theorem dX5_set_42 : decode cX5_set 42 = .ok (.iaload, 1) := by decide +kernel
theorem dX5_set_43 : decode cX5_set 43 = .ok (.istore_n 3, 1) := by decide +kernel
theorem dX5_set_44 : decode cX5_set 44 = .ok (.iload_n 3, 1) := by decide +kernel
theorem dX5_set_45 : decode cX5_set 45 = .ok (.iload_n 2, 1) := by decide +kernel
theorem dX5_set_46 : decode cX5_set 46 = .ok (.if_icmp .ne 6, 3) := by decide +kernel
theorem dX5_set_49 : decode cX5_set 49 = .ok (.bipush (-5), 2) := by decide +kernel
theorem dX5_set_51 : decode cX5_set 51 = .ok (.ireturn, 1) := by decide +kernel
theorem dX5_set_52 : decode cX5_set 52 = .ok (.aload_n 0, 1) := by decide +kernel
theorem dX5_set_53 : decode cX5_set 53 = .ok (.getfield 26, 3) := by decide +kernel
theorem dX5_set_56 : decode cX5_set 56 = .ok (.aload_n 0, 1) := by decide +kernel
theorem dX5_set_57 : decode cX5_set 57 = .ok (.getfield 12, 3) := by decide +kernel
theorem dX5_set_60 : decode cX5_set 60 = .ok (.invokevirtual 69, 3) := by decide +kernel
theorem dX5_set_63 : decode cX5_set 63 = .ok (.aload_n 0, 1) := by decide +kernel
theorem dX5_set_64 : decode cX5_set 64 = .ok (.getfield 12, 3) := by decide +kernel
theorem dX5_set_67 : decode cX5_set 67 = .ok (.getfield 131, 3) := by decide +kernel
theorem dX5_set_70 : decode cX5_set 70 = .ok (.iload_n 1, 1) := by decide +kernel
theorem dX5_set_71 : decode cX5_set 71 = .ok (.iload_n 2, 1) := by decide +kernel
theorem dX5_set_72 : decode cX5_set 72 = .ok (.iastore, 1) := by decide +kernel
theorem dX5_set_73 : decode cX5_set 73 = .ok (.iload_n 3, 1) := by decide +kernel
theorem dX5_set_74 : decode cX5_set 74 = .ok (.ireturn, 1) := by decide +kernel
set_option maxRecDepth 20000 in
theorem ggX5_type_X1_append : GoodIn wsX5_type wsX1_append := goodIn_r _ [7, 8, 9, 19, 20, 21, 22] (by decide +kernel) (by decide +kernel)
set_option maxRecDepth 20000 in
theorem gX5_type_X1_append : GoodIn wsX5_type (wsV RX5 134 RX1 yX1_append wsX1_append) := goodIn_app (goodIn_of _ (by decide +kernel)) ggX5_type_X1_append
theorem dX5_type_0 : decode cX5_type 0 = .ok (.aload_n 0, 1) := by decide +kernel
theorem dX5_type_1 : decode cX5_type 1 = .ok (.getfield 33, 3) := by decide +kernel
theorem dX5_type_4 : decode cX5_type 4 = .ok (.iload_n 1, 1) := by decide +kernel
theorem dX5_type_5 : decode cX5_type 5 = .ok (.invokevirtual 134, 3) := by decide +kernel
theorem dX5_type_8 : decode cX5_type 8 = .ok (.ifCond .eq 13, 3) := by decide +kernel
theorem dX5_type_11 : decode cX5_type 11 = .ok (.aload_n 0, 1) := by decide +kernel
theorem dX5_type_12 : decode cX5_type 12 = .ok (.getfield 33, 3) := by decide +kernel
theorem dX5_type_15 : decode cX5_type 15 = .ok (.getfield 138, 3) := by decide +kernel
theorem dX5_type_18 : decode cX5_type 18 = .ok (.goto 5, 3) := by decide +kernel
theorem dX5_type_21 : decode cX5_type 21 = .ok (.bipush (-3), 2) := by decide +kernel
theorem dX5_type_23 : decode cX5_type 23 = .ok (.ireturn, 1) := by decide +kernel
theorem dX5_clearText_0 : decode cX5_clearText 0 = .ok (.aload_n 0, 1) := by decide +kernel
theorem dX5_clearText_1 : decode cX5_clearText 1 = .ok (.getfield 33, 3) := by decide +kernel
theorem dX5_clearText_4 : decode cX5_clearText 4 = .ok (.getfield 138, 3) := by decide +kernel
theorem dX5_clearText_7 : decode cX5_clearText 7 = .ok (.istore_n 1, 1) := by decide +kernel
theorem dX5_clearText_8 : decode cX5_clearText 8 = .ok (.aload_n 0, 1) := by decide +kernel
theorem dX5_clearText_9 : decode cX5_clearText 9 = .ok (.getfield 33, 3) := by decide +kernel
theorem dX5_clearText_12 : decode cX5_clearText 12 = .ok (.iconst 0, 1) := by decide +kernel
theorem dX5_clearText_13 : decode cX5_clearText 13 = .ok (.putfield 138, 3) := by decide +kernel
theorem dX5_clearText_16 : decode cX5_clearText 16 = .ok (.iload_n 1, 1) := by decide +kernel
theorem dX5_clearText_17 : decode cX5_clearText 17 = .ok (.ireturn, 1) := by decide +kernel
set_option maxRecDepth 20000 in
theorem ggX5_fault_X1_read : GoodIn wsX5_fault wsX1_read := goodIn_r _ [6, 7, 8, 9, 10, 11, 12, 13, 5, 14, 15, 16, 17, 18, 19, 20, 30, 31, 32, 33] (by decide +kernel) (by decide +kernel)
set_option maxRecDepth 20000 in
theorem gX5_fault_X1_read : GoodIn wsX5_fault (wsV RX5 73 RX1 yX1_read wsX1_read) := goodIn_app (goodIn_of _ (by decide +kernel)) ggX5_fault_X1_read
theorem dX5_fault_0 : decode cX5_fault 0 = .ok (.aload_n 0, 1) := by decide +kernel
theorem dX5_fault_1 : decode cX5_fault 1 = .ok (.getfield 33, 3) := by decide +kernel
theorem dX5_fault_4 : decode cX5_fault 4 = .ok (.invokevirtual 73, 3) := by decide +kernel
theorem dX5_fault_7 : decode cX5_fault 7 = .ok (.ireturn, 1) := by decide +kernel
set_option maxRecDepth 20000 in
theorem ggX5_keep_X3_copyFrom : GoodIn wsX5_keep wsX3_copyFrom := goodIn_r _ [9, 10, 11, 12, 13, 14, 15, 16, 17, 18, 19, 20, 30, 31, 32, 33, 34, 35, 36] (by decide +kernel) (by decide +kernel)
set_option maxRecDepth 20000 in
theorem gX5_keep_X3_copyFrom : GoodIn wsX5_keep (wsV RX5 149 RX3 yX3_copyFrom wsX3_copyFrom) := goodIn_app (goodIn_of _ (by decide +kernel)) ggX5_keep_X3_copyFrom
theorem dX5_keep_0 : decode cX5_keep 0 = .ok (.aload_n 0, 1) := by decide +kernel
theorem dX5_keep_1 : decode cX5_keep 1 = .ok (.getfield 16, 3) := by decide +kernel
theorem dX5_keep_4 : decode cX5_keep 4 = .ok (.aload_n 0, 1) := by decide +kernel
theorem dX5_keep_5 : decode cX5_keep 5 = .ok (.getfield 12, 3) := by decide +kernel
theorem dX5_keep_8 : decode cX5_keep 8 = .ok (.invokevirtual 149, 3) := by decide +kernel
theorem dX5_keep_11 : decode cX5_keep 11 = .ok (.aload_n 0, 1) := by decide +kernel
theorem dX5_keep_12 : decode cX5_keep 12 = .ok (.iconst 1, 1) := by decide +kernel
theorem dX5_keep_13 : decode cX5_keep 13 = .ok (.putfield 19, 3) := by decide +kernel
theorem dX5_keep_16 : decode cX5_keep 16 = .ok (.aload_n 0, 1) := by decide +kernel
theorem dX5_keep_17 : decode cX5_keep 17 = .ok (.getfield 12, 3) := by decide +kernel
theorem dX5_keep_20 : decode cX5_keep 20 = .ok (.getfield 152, 3) := by decide +kernel
theorem dX5_keep_23 : decode cX5_keep 23 = .ok (.ireturn, 1) := by decide +kernel
set_option maxRecDepth 20000 in
theorem ggX5_restore_X0_record : GoodIn wsX5_restore wsX0_record := goodIn_r _ [10, 11, 12, 13, 14, 15, 16, 17, 18, 19, 20, 21, 22, 23, 24, 25, 26, 27, 28, 29, 47, 48, 49, 40, 41, 42, 43, 44, 45, 46] (by decide +kernel) (by decide +kernel)
set_option maxRecDepth 20000 in
theorem gX5_restore_X0_record : GoodIn wsX5_restore (wsV RX5 69 RX0 yX0_record wsX0_record) := goodIn_app (goodIn_of _ (by decide +kernel)) ggX5_restore_X0_record
set_option maxRecDepth 20000 in
theorem ggX5_restore_X3_copyFrom : GoodIn wsX5_restore wsX3_copyFrom := goodIn_r _ [18, 19, 20, 21, 22, 23, 24, 25, 26, 27, 28, 29, 40, 41, 42, 43, 44, 45, 46] (by decide +kernel) (by decide +kernel)
set_option maxRecDepth 20000 in
theorem gX5_restore_X3_copyFrom : GoodIn wsX5_restore (wsV RX5 149 RX3 yX3_copyFrom wsX3_copyFrom) := goodIn_app (goodIn_of _ (by decide +kernel)) ggX5_restore_X3_copyFrom
theorem dX5_restore_0 : decode cX5_restore 0 = .ok (.aload_n 0, 1) := by decide +kernel
theorem dX5_restore_1 : decode cX5_restore 1 = .ok (.getfield 19, 3) := by decide +kernel
theorem dX5_restore_4 : decode cX5_restore 4 = .ok (.ifCond .ne 6, 3) := by decide +kernel
theorem dX5_restore_7 : decode cX5_restore 7 = .ok (.bipush (-5), 2) := by decide +kernel
theorem dX5_restore_9 : decode cX5_restore 9 = .ok (.ireturn, 1) := by decide +kernel
theorem dX5_restore_10 : decode cX5_restore 10 = .ok (.aload_n 0, 1) := by decide +kernel
theorem dX5_restore_11 : decode cX5_restore 11 = .ok (.getfield 26, 3) := by decide +kernel
theorem dX5_restore_14 : decode cX5_restore 14 = .ok (.aload_n 0, 1) := by decide +kernel
theorem dX5_restore_15 : decode cX5_restore 15 = .ok (.getfield 12, 3) := by decide +kernel
theorem dX5_restore_18 : decode cX5_restore 18 = .ok (.invokevirtual 69, 3) := by decide +kernel
theorem dX5_restore_21 : decode cX5_restore 21 = .ok (.aload_n 0, 1) := by decide +kernel
theorem dX5_restore_22 : decode cX5_restore 22 = .ok (.getfield 12, 3) := by decide +kernel
theorem dX5_restore_25 : decode cX5_restore 25 = .ok (.aload_n 0, 1) := by decide +kernel
theorem dX5_restore_26 : decode cX5_restore 26 = .ok (.getfield 16, 3) := by decide +kernel
theorem dX5_restore_29 : decode cX5_restore 29 = .ok (.invokevirtual 149, 3) := by decide +kernel
theorem dX5_restore_32 : decode cX5_restore 32 = .ok (.aload_n 0, 1) := by decide +kernel
theorem dX5_restore_33 : decode cX5_restore 33 = .ok (.getfield 12, 3) := by decide +kernel
theorem dX5_restore_36 : decode cX5_restore 36 = .ok (.getfield 152, 3) := by decide +kernel
theorem dX5_restore_39 : decode cX5_restore 39 = .ok (.ireturn, 1) := by decide +kernel
set_option maxRecDepth 20000 in
theorem ggX5_spot_X5_onScreen : GoodIn wsX5_spot wsX5_onScreen := goodIn_r _ [6] (by decide +kernel) (by decide +kernel)
set_option maxRecDepth 20000 in
theorem gX5_spot_X5_onScreen : GoodIn wsX5_spot (va_wsS RX5 58 yX5_onScreen wsX5_onScreen) := goodIn_app (goodIn_of _ (by decide +kernel)) ggX5_spot_X5_onScreen
set_option maxRecDepth 20000 in
theorem ggX5_spot_X5_spotAt : GoodIn wsX5_spot wsX5_spotAt := goodIn_r _ [9] (by decide +kernel) (by decide +kernel)
set_option maxRecDepth 20000 in
theorem gX5_spot_X5_spotAt : GoodIn wsX5_spot (va_wsS RX5 62 yX5_spotAt wsX5_spotAt) := goodIn_app (goodIn_of _ (by decide +kernel)) ggX5_spot_X5_spotAt
set_option maxRecDepth 20000 in
theorem ggX5_spot_X3_light : GoodIn wsX5_spot wsX3_light := goodIn_r _ [14, 15, 16, 17, 18, 13, 19, 20, 21, 5, 22, 23, 24, 25, 26, 27, 28, 29, 30, 31, 32, 33, 34, 62, 63, 64, 65, 66, 67, 68] (by decide +kernel) (by decide +kernel)
set_option maxRecDepth 20000 in
theorem gX5_spot_X3_light : GoodIn wsX5_spot (wsV RX5 155 RX3 yX3_light wsX3_light) := goodIn_app (goodIn_of _ (by decide +kernel)) ggX5_spot_X3_light
set_option maxRecDepth 20000 in
theorem ggX5_spot_X5_glassFor : GoodIn wsX5_spot wsX5_glassFor := goodIn_r _ [37, 32, 33, 25, 34, 38, 39, 5, 40] (by decide +kernel) (by decide +kernel)
set_option maxRecDepth 20000 in
theorem gX5_spot_X5_glassFor : GoodIn wsX5_spot (va_wsS RX5 159 yX5_glassFor wsX5_glassFor) := goodIn_app (goodIn_of _ (by decide +kernel)) ggX5_spot_X5_glassFor
set_option maxRecDepth 20000 in
theorem ggX5_spot_X3_shown : GoodIn wsX5_spot wsX3_shown := goodIn_r _ [44, 45, 28, 25, 29, 36, 5, 37, 32, 33, 34, 38, 39, 40, 46, 47, 48, 13, 49, 20, 62, 63, 64, 65, 66, 67, 68] (by decide +kernel) (by decide +kernel)
set_option maxRecDepth 20000 in
theorem gX5_spot_X3_shown : GoodIn wsX5_spot (wsV RX5 162 RX3 yX3_shown wsX3_shown) := goodIn_app (goodIn_of _ (by decide +kernel)) ggX5_spot_X3_shown
set_option maxRecDepth 20000 in
theorem ggX5_spot_X5_verdict : GoodIn wsX5_spot wsX5_verdict := goodIn_r _ [52] (by decide +kernel) (by decide +kernel)
set_option maxRecDepth 20000 in
theorem gX5_spot_X5_verdict : GoodIn wsX5_spot (va_wsS RX5 165 yX5_verdict wsX5_verdict) := goodIn_app (goodIn_of _ (by decide +kernel)) ggX5_spot_X5_verdict
theorem dX5_spot_0 : decode cX5_spot 0 = .ok (.iload_n 1, 1) := by decide +kernel
theorem dX5_spot_1 : decode cX5_spot 1 = .ok (.iload_n 2, 1) := by decide +kernel
theorem dX5_spot_2 : decode cX5_spot 2 = .ok (.invokestatic 58, 3) := by decide +kernel
theorem dX5_spot_5 : decode cX5_spot 5 = .ok (.ifCond .ne 5, 3) := by decide +kernel
theorem dX5_spot_8 : decode cX5_spot 8 = .ok (.iconst (-1), 1) := by decide +kernel
theorem dX5_spot_9 : decode cX5_spot 9 = .ok (.ireturn, 1) := by decide +kernel
theorem dX5_spot_10 : decode cX5_spot 10 = .ok (.iload_n 3, 1) := by decide +kernel
theorem dX5_spot_11 : decode cX5_spot 11 = .ok (.ifCond .lt 8, 3) := by decide +kernel
theorem dX5_spot_14 : decode cX5_spot 14 = .ok (.iload_n 3, 1) := by decide +kernel
theorem dX5_spot_15 : decode cX5_spot 15 = .ok (.iconst 4, 1) := by decide +kernel
theorem dX5_spot_16 : decode cX5_spot 16 = .ok (.if_icmp .le 6, 3) := by decide +kernel
theorem dX5_spot_19 : decode cX5_spot 19 = .ok (.bipush (-2), 2) := by decide +kernel
theorem dX5_spot_21 : decode cX5_spot 21 = .ok (.ireturn, 1) := by decide +kernel
theorem dX5_spot_22 : decode cX5_spot 22 = .ok (.aload_n 0, 1) := by decide +kernel
theorem dX5_spot_23 : decode cX5_spot 23 = .ok (.getfield 12, 3) := by decide +kernel
theorem dX5_spot_26 : decode cX5_spot 26 = .ok (.getfield 66, 3) := by decide +kernel
theorem dX5_spot_29 : decode cX5_spot 29 = .ok (.iload_n 1, 1) := by decide +kernel
theorem dX5_spot_30 : decode cX5_spot 30 = .ok (.iload_n 2, 1) := by decide +kernel
theorem dX5_spot_31 : decode cX5_spot 31 = .ok (.invokestatic 62, 3) := by decide +kernel
theorem dX5_spot_34 : decode cX5_spot 34 = .ok (.iaload, 1) := by decide +kernel
theorem dX5_spot_35 : decode cX5_spot 35 = .ok (.istore 4, 2) := by decide +kernel
theorem dX5_spot_37 : decode cX5_spot 37 = .ok (.aload_n 0, 1) := by decide +kernel
theorem dX5_spot_38 : decode cX5_spot 38 = .ok (.getfield 12, 3) := by decide +kernel
theorem dX5_spot_41 : decode cX5_spot 41 = .ok (.bipush 6, 2) := by decide +kernel
theorem dX5_spot_43 : decode cX5_spot 43 = .ok (.iload_n 2, 1) := by decide +kernel
theorem dX5_spot_44 : decode cX5_spot 44 = .ok (.iconst 4, 1) := by decide +kernel
theorem dX5_spot_45 : decode cX5_spot 45 = .ok (.idiv, 1) := by decide +kernel
theorem dX5_spot_46 : decode cX5_spot 46 = .ok (.imul, 1) := by decide +kernel
theorem dX5_spot_47 : decode cX5_spot 47 = .ok (.iload_n 1, 1) := by decide +kernel
theorem dX5_spot_48 : decode cX5_spot 48 = .ok (.iconst 4, 1) := by decide +kernel
theorem dX5_spot_49 : decode cX5_spot 49 = .ok (.idiv, 1) := by decide +kernel
theorem dX5_spot_50 : decode cX5_spot 50 = .ok (.iadd, 1) := by decide +kernel
theorem dX5_spot_51 : decode cX5_spot 51 = .ok (.invokevirtual 155, 3) := by decide +kernel
theorem dX5_spot_54 : decode cX5_spot 54 = .ok (.istore 5, 2) := by decide +kernel
theorem dX5_spot_56 : decode cX5_spot 56 = .ok (.iload_n 3, 1) := by decide +kernel
theorem dX5_spot_57 : decode cX5_spot 57 = .ok (.tableswitch 57 0 3 #[31, 34, 37, 45], 31) := by decide +kernel
theorem dX5_spot_88 : decode cX5_spot 88 = .ok (.iload 4, 2) := by decide +kernel
theorem dX5_spot_90 : decode cX5_spot 90 = .ok (.ireturn, 1) := by decide +kernel
theorem dX5_spot_91 : decode cX5_spot 91 = .ok (.iload 5, 2) := by decide +kernel
theorem dX5_spot_93 : decode cX5_spot 93 = .ok (.ireturn, 1) := by decide +kernel
theorem dX5_spot_94 : decode cX5_spot 94 = .ok (.iload 4, 2) := by decide +kernel
theorem dX5_spot_96 : decode cX5_spot 96 = .ok (.iload 5, 2) := by decide +kernel
theorem dX5_spot_98 : decode cX5_spot 98 = .ok (.invokestatic 159, 3) := by decide +kernel
theorem dX5_spot_101 : decode cX5_spot 101 = .ok (.ireturn, 1) := by decide +kernel
theorem dX5_spot_102 : decode cX5_spot 102 = .ok (.aload_n 0, 1) := by decide +kernel
theorem dX5_spot_103 : decode cX5_spot 103 = .ok (.getfield 12, 3) := by decide +kernel
theorem dX5_spot_106 : decode cX5_spot 106 = .ok (.iload 4, 2) := by decide +kernel
theorem dX5_spot_108 : decode cX5_spot 108 = .ok (.iload 5, 2) := by decide +kernel
theorem dX5_spot_110 : decode cX5_spot 110 = .ok (.invokevirtual 162, 3) := by decide +kernel
theorem dX5_spot_113 : decode cX5_spot 113 = .ok (.ireturn, 1) := by decide +kernel
theorem dX5_spot_114 : decode cX5_spot 114 = .ok (.iload 4, 2) := by decide +kernel
theorem dX5_spot_116 : decode cX5_spot 116 = .ok (.aload_n 0, 1) := by decide +kernel
theorem dX5_spot_117 : decode cX5_spot 117 = .ok (.getfield 12, 3) := by decide +kernel
theorem dX5_spot_120 : decode cX5_spot 120 = .ok (.iload 4, 2) := by decide +kernel
theorem dX5_spot_122 : decode cX5_spot 122 = .ok (.iload 5, 2) := by decide +kernel
theorem dX5_spot_124 : decode cX5_spot 124 = .ok (.invokevirtual 162, 3) := by decide +kernel
theorem dX5_spot_127 : decode cX5_spot 127 = .ok (.invokestatic 165, 3) := by decide +kernel
theorem dX5_spot_130 : decode cX5_spot 130 = .ok (.ireturn, 1) := by decide +kernel
set_option maxRecDepth 20000 in
theorem ggX5_zone_X5_isZone : GoodIn wsX5_zone wsX5_isZone := goodIn_r _ [12] (by decide +kernel) (by decide +kernel)
set_option maxRecDepth 20000 in
theorem gX5_zone_X5_isZone : GoodIn wsX5_zone (va_wsS RX5 103 yX5_isZone wsX5_isZone) := goodIn_app (goodIn_of _ (by decide +kernel)) ggX5_zone_X5_isZone
set_option maxRecDepth 20000 in
theorem ggX5_zone_X2_make : GoodIn wsX5_zone wsX2_make := goodIn_r _ [17, 18, 19, 20, 21, 22, 23, 24, 25, 26, 27, 28, 29, 30, 31, 32, 11, 33, 34, 35, 36, 37, 38, 39, 16, 40, 41, 42, 43, 44, 45, 46, 47, 48, 49, 50, 51, 52, 53, 54, 55, 56, 57, 58, 59, 60, 61, 62, 63, 64, 65, 66, 67, 68, 69, 70, 71, 72, 73, 74, 75, 76, 77, 78, 79, 80, 81, 82, 83, 84, 85, 86, 87, 88, 89, 90, 91, 92, 93, 94, 95, 157, 158, 150, 151, 152, 153, 154, 155, 156] (by decide +kernel) (by decide +kernel)
set_option maxRecDepth 20000 in
theorem gX5_zone_X2_make : GoodIn wsX5_zone (wsV RX5 114 RX2 yX2_make wsX2_make) := goodIn_app (goodIn_of _ (by decide +kernel)) ggX5_zone_X2_make
set_option maxRecDepth 20000 in
theorem ggX5_zone_X3_light : GoodIn wsX5_zone wsX3_light := goodIn_r _ [99, 100, 101, 58, 59, 25, 60, 61, 62, 11, 63, 64, 65, 30, 66, 67, 29, 31, 68, 69, 70, 42, 43, 150, 151, 152, 153, 154, 155, 156] (by decide +kernel) (by decide +kernel)
set_option maxRecDepth 20000 in
theorem gX5_zone_X3_light : GoodIn wsX5_zone (wsV RX5 155 RX3 yX3_light wsX3_light) := goodIn_app (goodIn_of _ (by decide +kernel)) ggX5_zone_X3_light
set_option maxRecDepth 20000 in
theorem ggX5_zone_X3_peak : GoodIn wsX5_zone wsX3_peak := goodIn_r _ [26, 27, 28, 29, 30, 31, 32, 11, 33, 34, 35, 36, 150, 151, 152, 153, 154, 155, 156] (by decide +kernel) (by decide +kernel)
set_option maxRecDepth 20000 in
theorem gX5_zone_X3_peak : GoodIn wsX5_zone (wsV RX5 168 RX3 yX3_peak wsX3_peak) := goodIn_app (goodIn_of _ (by decide +kernel)) ggX5_zone_X3_peak
set_option maxRecDepth 20000 in
theorem ggX5_zone_X3_mean : GoodIn wsX5_zone wsX3_mean := goodIn_r _ [51, 27, 32, 11, 33, 34, 35, 36, 150, 151, 152, 153, 154, 155, 156] (by decide +kernel) (by decide +kernel)
set_option maxRecDepth 20000 in
theorem gX5_zone_X3_mean : GoodIn wsX5_zone (wsV RX5 171 RX3 yX3_mean wsX3_mean) := goodIn_app (goodIn_of _ (by decide +kernel)) ggX5_zone_X3_mean
set_option maxRecDepth 20000 in
theorem ggX5_zone_X3_leakOf : GoodIn wsX5_zone wsX3_leakOf := goodIn_r _ [95, 61, 150, 151, 152, 153, 154, 155, 156] (by decide +kernel) (by decide +kernel)
set_option maxRecDepth 20000 in
theorem gX5_zone_X3_leakOf : GoodIn wsX5_zone (wsV RX5 174 RX3 yX3_leakOf wsX3_leakOf) := goodIn_app (goodIn_of _ (by decide +kernel)) ggX5_zone_X3_leakOf
set_option maxRecDepth 20000 in
theorem ggX5_zone_X4_takeZone : GoodIn wsX5_zone wsX4_takeZone := goodIn_r _ [109, 110, 111, 112, 108, 113, 114, 115, 116, 117, 118, 119, 120, 121, 122, 123, 124, 97, 98, 25, 99, 100, 101, 58, 59, 60, 61, 62, 11, 63, 64, 65, 30, 66, 67, 29, 31, 68, 69, 70, 42, 43, 32, 33, 34, 35, 36, 125, 126, 127, 128, 28, 129, 130, 131, 78, 79, 132, 93, 94, 95, 133, 134, 135, 136, 137, 138, 139, 140, 159, 160, 161, 162, 163, 150, 151, 152, 153, 154, 155, 156] (by decide +kernel) (by decide +kernel)
set_option maxRecDepth 20000 in
theorem gX5_zone_X4_takeZone : GoodIn wsX5_zone (wsV RX5 177 RX4 yX4_takeZone wsX4_takeZone) := goodIn_app (goodIn_of _ (by decide +kernel)) ggX5_zone_X4_takeZone
theorem dX5_zone_0 : decode cX5_zone 0 = .ok (.iload_n 1, 1) := by decide +kernel
theorem dX5_zone_1 : decode cX5_zone 1 = .ok (.invokestatic 103, 3) := by decide +kernel
theorem dX5_zone_4 : decode cX5_zone 4 = .ok (.ifCond .ne 5, 3) := by decide +kernel
theorem dX5_zone_7 : decode cX5_zone 7 = .ok (.iconst (-1), 1) := by decide +kernel
theorem dX5_zone_8 : decode cX5_zone 8 = .ok (.ireturn, 1) := by decide +kernel
theorem dX5_zone_9 : decode cX5_zone 9 = .ok (.iload_n 2, 1) := by decide +kernel
theorem dX5_zone_10 : decode cX5_zone 10 = .ok (.tableswitch 182 0 8 #[50, 60, 81, 90, 108, 117, 126, 142, 162], 50) := by decide +kernel
theorem dX5_zone_60 : decode cX5_zone 60 = .ok (.aload_n 0, 1) := by decide +kernel
theorem dX5_zone_61 : decode cX5_zone 61 = .ok (.getfield 12, 3) := by decide +kernel
theorem dX5_zone_64 : decode cX5_zone 64 = .ok (.getfield 111, 3) := by decide +kernel
