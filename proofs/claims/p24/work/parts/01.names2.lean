theorem dX3_copyFrom_89 : decode cX3_copyFrom 89 = .ok (.aload_n 1, 1) := by decide +kernel
theorem dX3_copyFrom_90 : decode cX3_copyFrom 90 = .ok (.getfield 32, 3) := by decide +kernel
theorem dX3_copyFrom_93 : decode cX3_copyFrom 93 = .ok (.putfield 32, 3) := by decide +kernel
theorem dX3_copyFrom_96 : decode cX3_copyFrom 96 = .ok (.return_, 1) := by decide +kernel
set_option maxRecDepth 20000 in
theorem ggX3_paint_X5_spotAt : GoodIn wsX3_paint wsX5_spotAt := goodIn_r _ [11] (by decide +kernel) (by decide +kernel)
set_option maxRecDepth 20000 in
theorem gX3_paint_X5_spotAt_n53 : GoodIn wsX3_paint (wsX5_spotAt) := ggX3_paint_X5_spotAt
theorem dX3_paint_0 : decode cX3_paint 0 = .ok (.bipush 24, 2) := by decide +kernel
theorem dX3_paint_2 : decode cX3_paint 2 = .ok (.iload_n 1, 1) := by decide +kernel
theorem dX3_paint_3 : decode cX3_paint 3 = .ok (.iload_n 3, 1) := by decide +kernel
theorem dX3_paint_4 : decode cX3_paint 4 = .ok (.iadd, 1) := by decide +kernel
theorem dX3_paint_5 : decode cX3_paint 5 = .ok (.invokestatic 44, 3) := by decide +kernel
theorem dX3_paint_8 : decode cX3_paint 8 = .ok (.istore 6, 2) := by decide +kernel
theorem dX3_paint_10 : decode cX3_paint 10 = .ok (.bipush 12, 2) := by decide +kernel
theorem dX3_paint_12 : decode cX3_paint 12 = .ok (.iload_n 2, 1) := by decide +kernel
theorem dX3_paint_13 : decode cX3_paint 13 = .ok (.iload 4, 2) := by decide +kernel
theorem dX3_paint_15 : decode cX3_paint 15 = .ok (.iadd, 1) := by decide +kernel
theorem dX3_paint_16 : decode cX3_paint 16 = .ok (.invokestatic 44, 3) := by decide +kernel
theorem dX3_paint_19 : decode cX3_paint 19 = .ok (.istore 7, 2) := by decide +kernel
theorem dX3_paint_21 : decode cX3_paint 21 = .ok (.iconst 0, 1) := by decide +kernel
theorem dX3_paint_22 : decode cX3_paint 22 = .ok (.iload_n 2, 1) := by decide +kernel
theorem dX3_paint_23 : decode cX3_paint 23 = .ok (.invokestatic 50, 3) := by decide +kernel
theorem dX3_paint_26 : decode cX3_paint 26 = .ok (.istore 8, 2) := by decide +kernel
theorem dX3_paint_28 : decode cX3_paint 28 = .ok (.iload 8, 2) := by decide +kernel
theorem dX3_paint_30 : decode cX3_paint 30 = .ok (.iload 7, 2) := by decide +kernel
theorem dX3_paint_32 : decode cX3_paint 32 = .ok (.if_icmp .ge 43, 3) := by decide +kernel
theorem dX3_paint_35 : decode cX3_paint 35 = .ok (.iconst 0, 1) := by decide +kernel
theorem dX3_paint_36 : decode cX3_paint 36 = .ok (.iload_n 1, 1) := by decide +kernel
theorem dX3_paint_37 : decode cX3_paint 37 = .ok (.invokestatic 50, 3) := by decide +kernel
theorem dX3_paint_40 : decode cX3_paint 40 = .ok (.istore 9, 2) := by decide +kernel
theorem dX3_paint_42 : decode cX3_paint 42 = .ok (.iload 9, 2) := by decide +kernel
theorem dX3_paint_44 : decode cX3_paint 44 = .ok (.iload 6, 2) := by decide +kernel
theorem dX3_paint_46 : decode cX3_paint 46 = .ok (.if_icmp .ge 23, 3) := by decide +kernel
theorem dX3_paint_49 : decode cX3_paint 49 = .ok (.aload_n 0, 1) := by decide +kernel
theorem dX3_paint_50 : decode cX3_paint 50 = .ok (.getfield 9, 3) := by decide +kernel
theorem dX3_paint_53 : decode cX3_paint 53 = .ok (.iload 9, 2) := by decide +kernel
theorem dX3_paint_55 : decode cX3_paint 55 = .ok (.iload 8, 2) := by decide +kernel
theorem dX3_paint_57 : decode cX3_paint 57 = .ok (.invokestatic 53, 3) := by decide +kernel
theorem dX3_paint_60 : decode cX3_paint 60 = .ok (.iload 5, 2) := by decide +kernel
theorem dX3_paint_62 : decode cX3_paint 62 = .ok (.iastore, 1) := by decide +kernel
theorem dX3_paint_63 : decode cX3_paint 63 = .ok (.iinc 9 1, 3) := by decide +kernel
theorem dX3_paint_66 : decode cX3_paint 66 = .ok (.goto (-24), 3) := by decide +kernel
theorem dX3_paint_69 : decode cX3_paint 69 = .ok (.iinc 8 1, 3) := by decide +kernel
theorem dX3_paint_72 : decode cX3_paint 72 = .ok (.goto (-44), 3) := by decide +kernel
theorem dX3_paint_75 : decode cX3_paint 75 = .ok (.return_, 1) := by decide +kernel
set_option maxRecDepth 20000 in
theorem ggX3_takeShifted_X5_onScreen : GoodIn wsX3_takeShifted wsX5_onScreen := goodIn_r _ [4] (by decide +kernel) (by decide +kernel)
set_option maxRecDepth 20000 in
theorem gX3_takeShifted_X5_onScreen_n56 : GoodIn wsX3_takeShifted (wsX5_onScreen) := ggX3_takeShifted_X5_onScreen
set_option maxRecDepth 20000 in
theorem ggX3_takeShifted_X5_spotAt : GoodIn wsX3_takeShifted wsX5_spotAt := goodIn_r _ [6] (by decide +kernel) (by decide +kernel)
set_option maxRecDepth 20000 in
theorem gX3_takeShifted_X5_spotAt_n53 : GoodIn wsX3_takeShifted (wsX5_spotAt) := ggX3_takeShifted_X5_spotAt
theorem dX3_takeShifted_0 : decode cX3_takeShifted 0 = .ok (.iconst 0, 1) := by decide +kernel
theorem dX3_takeShifted_1 : decode cX3_takeShifted 1 = .ok (.istore 4, 2) := by decide +kernel
theorem dX3_takeShifted_3 : decode cX3_takeShifted 3 = .ok (.iload 4, 2) := by decide +kernel
theorem dX3_takeShifted_5 : decode cX3_takeShifted 5 = .ok (.bipush 12, 2) := by decide +kernel
theorem dX3_takeShifted_7 : decode cX3_takeShifted 7 = .ok (.if_icmp .ge 72, 3) := by decide +kernel
theorem dX3_takeShifted_10 : decode cX3_takeShifted 10 = .ok (.iconst 0, 1) := by decide +kernel
theorem dX3_takeShifted_11 : decode cX3_takeShifted 11 = .ok (.istore 5, 2) := by decide +kernel
theorem dX3_takeShifted_13 : decode cX3_takeShifted 13 = .ok (.iload 5, 2) := by decide +kernel
theorem dX3_takeShifted_15 : decode cX3_takeShifted 15 = .ok (.bipush 24, 2) := by decide +kernel
theorem dX3_takeShifted_17 : decode cX3_takeShifted 17 = .ok (.if_icmp .ge 56, 3) := by decide +kernel
theorem dX3_takeShifted_20 : decode cX3_takeShifted 20 = .ok (.iload 5, 2) := by decide +kernel
theorem dX3_takeShifted_22 : decode cX3_takeShifted 22 = .ok (.iload_n 2, 1) := by decide +kernel
theorem dX3_takeShifted_23 : decode cX3_takeShifted 23 = .ok (.iadd, 1) := by decide +kernel
theorem dX3_takeShifted_24 : decode cX3_takeShifted 24 = .ok (.iload 4, 2) := by decide +kernel
theorem dX3_takeShifted_26 : decode cX3_takeShifted 26 = .ok (.iload_n 3, 1) := by decide +kernel
theorem dX3_takeShifted_27 : decode cX3_takeShifted 27 = .ok (.iadd, 1) := by decide +kernel
theorem dX3_takeShifted_28 : decode cX3_takeShifted 28 = .ok (.invokestatic 56, 3) := by decide +kernel
theorem dX3_takeShifted_31 : decode cX3_takeShifted 31 = .ok (.istore 6, 2) := by decide +kernel
theorem dX3_takeShifted_33 : decode cX3_takeShifted 33 = .ok (.aload_n 0, 1) := by decide +kernel
theorem dX3_takeShifted_34 : decode cX3_takeShifted 34 = .ok (.getfield 9, 3) := by decide +kernel
theorem dX3_takeShifted_37 : decode cX3_takeShifted 37 = .ok (.iload 5, 2) := by decide +kernel
theorem dX3_takeShifted_39 : decode cX3_takeShifted 39 = .ok (.iload 4, 2) := by decide +kernel
theorem dX3_takeShifted_41 : decode cX3_takeShifted 41 = .ok (.invokestatic 53, 3) := by decide +kernel
theorem dX3_takeShifted_44 : decode cX3_takeShifted 44 = .ok (.iload 6, 2) := by decide +kernel
theorem dX3_takeShifted_46 : decode cX3_takeShifted 46 = .ok (.ifCond .eq 19, 3) := by decide +kernel
theorem dX3_takeShifted_49 : decode cX3_takeShifted 49 = .ok (.aload_n 1, 1) := by decide +kernel
theorem dX3_takeShifted_50 : decode cX3_takeShifted 50 = .ok (.iload 5, 2) := by decide +kernel
theorem dX3_takeShifted_52 : decode cX3_takeShifted 52 = .ok (.iload_n 2, 1) := by decide +kernel
theorem dX3_takeShifted_53 : decode cX3_takeShifted 53 = .ok (.iadd, 1) := by decide +kernel
theorem dX3_takeShifted_54 : decode cX3_takeShifted 54 = .ok (.iload 4, 2) := by decide +kernel
theorem dX3_takeShifted_56 : decode cX3_takeShifted 56 = .ok (.iload_n 3, 1) := by decide +kernel
theorem dX3_takeShifted_57 : decode cX3_takeShifted 57 = .ok (.iadd, 1) := by decide +kernel
theorem dX3_takeShifted_58 : decode cX3_takeShifted 58 = .ok (.invokestatic 53, 3) := by decide +kernel
theorem dX3_takeShifted_61 : decode cX3_takeShifted 61 = .ok (.iaload, 1) := by decide +kernel
theorem dX3_takeShifted_62 : decode cX3_takeShifted 62 = .ok (.goto 4, 3) := by decide +kernel
theorem dX3_takeShifted_65 : decode cX3_takeShifted 65 = .ok (.iconst 0, 1) := by decide +kernel
theorem dX3_takeShifted_66 : decode cX3_takeShifted 66 = .ok (.iastore, 1) := by decide +kernel
theorem dX3_takeShifted_67 : decode cX3_takeShifted 67 = .ok (.iinc 5 1, 3) := by decide +kernel
theorem dX3_takeShifted_70 : decode cX3_takeShifted 70 = .ok (.goto (-57), 3) := by decide +kernel
theorem dX3_takeShifted_73 : decode cX3_takeShifted 73 = .ok (.iinc 4 1, 3) := by decide +kernel
theorem dX3_takeShifted_76 : decode cX3_takeShifted 76 = .ok (.goto (-73), 3) := by decide +kernel
theorem dX3_takeShifted_79 : decode cX3_takeShifted 79 = .ok (.return_, 1) := by decide +kernel
set_option maxRecDepth 20000 in
theorem ggX3_peak_X5_spotOfZone : GoodIn wsX3_peak wsX5_spotOfZone := goodIn_r _ [8, 9, 10, 7, 11] (by decide +kernel) (by decide +kernel)
set_option maxRecDepth 20000 in
theorem gX3_peak_X5_spotOfZone_n60 : GoodIn wsX3_peak (wsX5_spotOfZone) := ggX3_peak_X5_spotOfZone
theorem dX3_peak_0 : decode cX3_peak 0 = .ok (.iconst 0, 1) := by decide +kernel
theorem dX3_peak_1 : decode cX3_peak 1 = .ok (.istore_n 2, 1) := by decide +kernel
theorem dX3_peak_2 : decode cX3_peak 2 = .ok (.iconst 0, 1) := by decide +kernel
theorem dX3_peak_3 : decode cX3_peak 3 = .ok (.istore_n 3, 1) := by decide +kernel
theorem dX3_peak_4 : decode cX3_peak 4 = .ok (.iload_n 3, 1) := by decide +kernel
theorem dX3_peak_5 : decode cX3_peak 5 = .ok (.bipush 16, 2) := by decide +kernel
theorem dX3_peak_7 : decode cX3_peak 7 = .ok (.if_icmp .ge 24, 3) := by decide +kernel
theorem dX3_peak_10 : decode cX3_peak 10 = .ok (.iload_n 2, 1) := by decide +kernel
theorem dX3_peak_11 : decode cX3_peak 11 = .ok (.aload_n 0, 1) := by decide +kernel
theorem dX3_peak_12 : decode cX3_peak 12 = .ok (.getfield 9, 3) := by decide +kernel
theorem dX3_peak_15 : decode cX3_peak 15 = .ok (.iload_n 1, 1) := by decide +kernel
theorem dX3_peak_16 : decode cX3_peak 16 = .ok (.iload_n 3, 1) := by decide +kernel
theorem dX3_peak_17 : decode cX3_peak 17 = .ok (.invokestatic 60, 3) := by decide +kernel
theorem dX3_peak_20 : decode cX3_peak 20 = .ok (.iaload, 1) := by decide +kernel
theorem dX3_peak_21 : decode cX3_peak 21 = .ok (.invokestatic 50, 3) := by decide +kernel
theorem dX3_peak_24 : decode cX3_peak 24 = .ok (.istore_n 2, 1) := by decide +kernel
theorem dX3_peak_25 : decode cX3_peak 25 = .ok (.iinc 3 1, 3) := by decide +kernel
theorem dX3_peak_28 : decode cX3_peak 28 = .ok (.goto (-24), 3) := by decide +kernel
theorem dX3_peak_31 : decode cX3_peak 31 = .ok (.iload_n 2, 1) := by decide +kernel
theorem dX3_peak_32 : decode cX3_peak 32 = .ok (.ireturn, 1) := by decide +kernel
set_option maxRecDepth 20000 in
theorem ggX3_mean_X5_spotOfZone : GoodIn wsX3_mean wsX5_spotOfZone := goodIn_r _ [4, 5, 6, 3, 7] (by decide +kernel) (by decide +kernel)
set_option maxRecDepth 20000 in
theorem gX3_mean_X5_spotOfZone_n60 : GoodIn wsX3_mean (wsX5_spotOfZone) := ggX3_mean_X5_spotOfZone
theorem dX3_mean_0 : decode cX3_mean 0 = .ok (.iconst 0, 1) := by decide +kernel
theorem dX3_mean_1 : decode cX3_mean 1 = .ok (.istore_n 2, 1) := by decide +kernel
theorem dX3_mean_2 : decode cX3_mean 2 = .ok (.iconst 0, 1) := by decide +kernel
theorem dX3_mean_3 : decode cX3_mean 3 = .ok (.istore_n 3, 1) := by decide +kernel
theorem dX3_mean_4 : decode cX3_mean 4 = .ok (.iload_n 3, 1) := by decide +kernel
theorem dX3_mean_5 : decode cX3_mean 5 = .ok (.bipush 16, 2) := by decide +kernel
theorem dX3_mean_7 : decode cX3_mean 7 = .ok (.if_icmp .ge 22, 3) := by decide +kernel
theorem dX3_mean_10 : decode cX3_mean 10 = .ok (.iload_n 2, 1) := by decide +kernel
theorem dX3_mean_11 : decode cX3_mean 11 = .ok (.aload_n 0, 1) := by decide +kernel
theorem dX3_mean_12 : decode cX3_mean 12 = .ok (.getfield 9, 3) := by decide +kernel
theorem dX3_mean_15 : decode cX3_mean 15 = .ok (.iload_n 1, 1) := by decide +kernel
theorem dX3_mean_16 : decode cX3_mean 16 = .ok (.iload_n 3, 1) := by decide +kernel
theorem dX3_mean_17 : decode cX3_mean 17 = .ok (.invokestatic 60, 3) := by decide +kernel
theorem dX3_mean_20 : decode cX3_mean 20 = .ok (.iaload, 1) := by decide +kernel
theorem dX3_mean_21 : decode cX3_mean 21 = .ok (.iadd, 1) := by decide +kernel
theorem dX3_mean_22 : decode cX3_mean 22 = .ok (.istore_n 2, 1) := by decide +kernel
theorem dX3_mean_23 : decode cX3_mean 23 = .ok (.iinc 3 1, 3) := by decide +kernel
theorem dX3_mean_26 : decode cX3_mean 26 = .ok (.goto (-22), 3) := by decide +kernel
theorem dX3_mean_29 : decode cX3_mean 29 = .ok (.iload_n 2, 1) := by decide +kernel
theorem dX3_mean_30 : decode cX3_mean 30 = .ok (.bipush 16, 2) := by decide +kernel
theorem dX3_mean_32 : decode cX3_mean 32 = .ok (.idiv, 1) := by decide +kernel
theorem dX3_mean_33 : decode cX3_mean 33 = .ok (.ireturn, 1) := by decide +kernel
set_option maxRecDepth 20000 in
theorem ggX3_asksBlack_X5_spotOfZone : GoodIn wsX3_asksBlack wsX5_spotOfZone := goodIn_r _ [4, 5, 6, 3, 7] (by decide +kernel) (by decide +kernel)
set_option maxRecDepth 20000 in
theorem gX3_asksBlack_X5_spotOfZone_n60 : GoodIn wsX3_asksBlack (wsX5_spotOfZone) := ggX3_asksBlack_X5_spotOfZone
theorem dX3_asksBlack_0 : decode cX3_asksBlack 0 = .ok (.iconst 0, 1) := by decide +kernel
theorem dX3_asksBlack_1 : decode cX3_asksBlack 1 = .ok (.istore_n 2, 1) := by decide +kernel
theorem dX3_asksBlack_2 : decode cX3_asksBlack 2 = .ok (.iload_n 2, 1) := by decide +kernel
theorem dX3_asksBlack_3 : decode cX3_asksBlack 3 = .ok (.bipush 16, 2) := by decide +kernel
theorem dX3_asksBlack_5 : decode cX3_asksBlack 5 = .ok (.if_icmp .ge 24, 3) := by decide +kernel
theorem dX3_asksBlack_8 : decode cX3_asksBlack 8 = .ok (.aload_n 0, 1) := by decide +kernel
theorem dX3_asksBlack_9 : decode cX3_asksBlack 9 = .ok (.getfield 9, 3) := by decide +kernel
theorem dX3_asksBlack_12 : decode cX3_asksBlack 12 = .ok (.iload_n 1, 1) := by decide +kernel
theorem dX3_asksBlack_13 : decode cX3_asksBlack 13 = .ok (.iload_n 2, 1) := by decide +kernel
theorem dX3_asksBlack_14 : decode cX3_asksBlack 14 = .ok (.invokestatic 60, 3) := by decide +kernel
theorem dX3_asksBlack_17 : decode cX3_asksBlack 17 = .ok (.iaload, 1) := by decide +kernel
theorem dX3_asksBlack_18 : decode cX3_asksBlack 18 = .ok (.ifCond .ne 5, 3) := by decide +kernel
theorem dX3_asksBlack_21 : decode cX3_asksBlack 21 = .ok (.iconst 1, 1) := by decide +kernel
theorem dX3_asksBlack_22 : decode cX3_asksBlack 22 = .ok (.ireturn, 1) := by decide +kernel
theorem dX3_asksBlack_23 : decode cX3_asksBlack 23 = .ok (.iinc 2 1, 3) := by decide +kernel
theorem dX3_asksBlack_26 : decode cX3_asksBlack 26 = .ok (.goto (-24), 3) := by decide +kernel
theorem dX3_asksBlack_29 : decode cX3_asksBlack 29 = .ok (.iconst 0, 1) := by decide +kernel
theorem dX3_asksBlack_30 : decode cX3_asksBlack 30 = .ok (.ireturn, 1) := by decide +kernel
set_option maxRecDepth 20000 in
theorem ggX3_glow_X5_zonesApart : GoodIn wsX3_glow wsX5_zonesApart := goodIn_r _ [4, 5, 6, 7, 8, 9, 10, 11] (by decide +kernel) (by decide +kernel)
set_option maxRecDepth 20000 in
theorem gX3_glow_X5_zonesApart_n63 : GoodIn wsX3_glow (wsX5_zonesApart) := ggX3_glow_X5_zonesApart
theorem dX3_glow_0 : decode cX3_glow 0 = .ok (.iconst 0, 1) := by decide +kernel
theorem dX3_glow_1 : decode cX3_glow 1 = .ok (.istore_n 3, 1) := by decide +kernel
theorem dX3_glow_2 : decode cX3_glow 2 = .ok (.iconst 0, 1) := by decide +kernel
theorem dX3_glow_3 : decode cX3_glow 3 = .ok (.istore 4, 2) := by decide +kernel
theorem dX3_glow_5 : decode cX3_glow 5 = .ok (.iload 4, 2) := by decide +kernel
theorem dX3_glow_7 : decode cX3_glow 7 = .ok (.bipush 18, 2) := by decide +kernel
theorem dX3_glow_9 : decode cX3_glow 9 = .ok (.if_icmp .ge 38, 3) := by decide +kernel
theorem dX3_glow_12 : decode cX3_glow 12 = .ok (.iload_n 1, 1) := by decide +kernel
theorem dX3_glow_13 : decode cX3_glow 13 = .ok (.iload 4, 2) := by decide +kernel
theorem dX3_glow_15 : decode cX3_glow 15 = .ok (.invokestatic 63, 3) := by decide +kernel
theorem dX3_glow_18 : decode cX3_glow 18 = .ok (.istore 5, 2) := by decide +kernel
theorem dX3_glow_20 : decode cX3_glow 20 = .ok (.iload 5, 2) := by decide +kernel
theorem dX3_glow_22 : decode cX3_glow 22 = .ok (.iconst 3, 1) := by decide +kernel
theorem dX3_glow_23 : decode cX3_glow 23 = .ok (.if_icmp .ge 18, 3) := by decide +kernel
theorem dX3_glow_26 : decode cX3_glow 26 = .ok (.iload_n 3, 1) := by decide +kernel
theorem dX3_glow_27 : decode cX3_glow 27 = .ok (.aload_n 2, 1) := by decide +kernel
theorem dX3_glow_28 : decode cX3_glow 28 = .ok (.iload 4, 2) := by decide +kernel
theorem dX3_glow_30 : decode cX3_glow 30 = .ok (.iaload, 1) := by decide +kernel
theorem dX3_glow_31 : decode cX3_glow 31 = .ok (.aload_n 0, 1) := by decide +kernel
theorem dX3_glow_32 : decode cX3_glow 32 = .ok (.getfield 22, 3) := by decide +kernel
theorem dX3_glow_35 : decode cX3_glow 35 = .ok (.iload 5, 2) := by decide +kernel
theorem dX3_glow_37 : decode cX3_glow 37 = .ok (.iaload, 1) := by decide +kernel
theorem dX3_glow_38 : decode cX3_glow 38 = .ok (.imul, 1) := by decide +kernel
theorem dX3_glow_39 : decode cX3_glow 39 = .ok (.iadd, 1) := by decide +kernel
theorem dX3_glow_40 : decode cX3_glow 40 = .ok (.istore_n 3, 1) := by decide +kernel
theorem dX3_glow_41 : decode cX3_glow 41 = .ok (.iinc 4 1, 3) := by decide +kernel
theorem dX3_glow_44 : decode cX3_glow 44 = .ok (.goto (-39), 3) := by decide +kernel
theorem dX3_glow_47 : decode cX3_glow 47 = .ok (.iload_n 3, 1) := by decide +kernel
theorem dX3_glow_48 : decode cX3_glow 48 = .ok (.ireturn, 1) := by decide +kernel
set_option maxRecDepth 20000 in
theorem ggX3_light_X3_glow : GoodIn wsX3_light wsX3_glow := goodIn_r _ [6, 7, 8, 9, 10, 11, 12, 13, 14, 15, 16, 17, 23, 24, 25, 26, 27, 28, 29] (by decide +kernel) (by decide +kernel)
set_option maxRecDepth 20000 in
theorem gX3_light_X3_glow : GoodIn wsX3_light (wsV RX3 66 RX3 yX3_glow wsX3_glow) := goodIn_app (goodIn_of _ (by decide +kernel)) ggX3_light_X3_glow
set_option maxRecDepth 20000 in
theorem ggX3_light_X5_lightOf : GoodIn wsX3_light wsX5_lightOf := goodIn_r _ [19, 20, 21, 13, 22] (by decide +kernel) (by decide +kernel)
set_option maxRecDepth 20000 in
theorem gX3_light_X5_lightOf_n70 : GoodIn wsX3_light (wsX5_lightOf) := ggX3_light_X5_lightOf
theorem dX3_light_0 : decode cX3_light 0 = .ok (.aload_n 0, 1) := by decide +kernel
theorem dX3_light_1 : decode cX3_light 1 = .ok (.iload_n 1, 1) := by decide +kernel
theorem dX3_light_2 : decode cX3_light 2 = .ok (.aload_n 0, 1) := by decide +kernel
theorem dX3_light_3 : decode cX3_light 3 = .ok (.getfield 15, 3) := by decide +kernel
theorem dX3_light_6 : decode cX3_light 6 = .ok (.invokevirtual 66, 3) := by decide +kernel
theorem dX3_light_9 : decode cX3_light 9 = .ok (.invokestatic 70, 3) := by decide +kernel
theorem dX3_light_12 : decode cX3_light 12 = .ok (.ireturn, 1) := by decide +kernel
theorem dX3_leakOf_0 : decode cX3_leakOf 0 = .ok (.iload_n 1, 1) := by decide +kernel
theorem dX3_leakOf_1 : decode cX3_leakOf 1 = .ok (.aload_n 0, 1) := by decide +kernel
theorem dX3_leakOf_2 : decode cX3_leakOf 2 = .ok (.getfield 22, 3) := by decide +kernel
theorem dX3_leakOf_5 : decode cX3_leakOf 5 = .ok (.iconst 5, 1) := by decide +kernel
theorem dX3_leakOf_6 : decode cX3_leakOf 6 = .ok (.iaload, 1) := by decide +kernel
theorem dX3_leakOf_7 : decode cX3_leakOf 7 = .ok (.imul, 1) := by decide +kernel
theorem dX3_leakOf_8 : decode cX3_leakOf 8 = .ok (.sipush 1000, 3) := by decide +kernel
theorem dX3_leakOf_11 : decode cX3_leakOf 11 = .ok (.idiv, 1) := by decide +kernel
theorem dX3_leakOf_12 : decode cX3_leakOf 12 = .ok (.ireturn, 1) := by decide +kernel
set_option maxRecDepth 20000 in
theorem ggX3_shown_X5_glassFor : GoodIn wsX3_shown wsX5_glassFor := goodIn_r _ [7, 8, 9, 3, 10, 11, 12, 6, 13] (by decide +kernel) (by decide +kernel)
set_option maxRecDepth 20000 in
theorem gX3_shown_X5_glassFor_n74 : GoodIn wsX3_shown (wsX5_glassFor) := ggX3_shown_X5_glassFor
set_option maxRecDepth 20000 in
theorem ggX3_shown_X3_leakOf : GoodIn wsX3_shown wsX3_leakOf := goodIn_r _ [18, 19, 20, 21, 22, 23, 24, 25, 26] (by decide +kernel) (by decide +kernel)
set_option maxRecDepth 20000 in
theorem gX3_shown_X3_leakOf : GoodIn wsX3_shown (wsV RX3 77 RX3 yX3_leakOf wsX3_leakOf) := goodIn_app (goodIn_of _ (by decide +kernel)) ggX3_shown_X3_leakOf
theorem dX3_shown_0 : decode cX3_shown 0 = .ok (.iload_n 2, 1) := by decide +kernel
theorem dX3_shown_1 : decode cX3_shown 1 = .ok (.iload_n 1, 1) := by decide +kernel
theorem dX3_shown_2 : decode cX3_shown 2 = .ok (.iload_n 2, 1) := by decide +kernel
theorem dX3_shown_3 : decode cX3_shown 3 = .ok (.invokestatic 74, 3) := by decide +kernel
theorem dX3_shown_6 : decode cX3_shown 6 = .ok (.imul, 1) := by decide +kernel
theorem dX3_shown_7 : decode cX3_shown 7 = .ok (.sipush 255, 3) := by decide +kernel
theorem dX3_shown_10 : decode cX3_shown 10 = .ok (.idiv, 1) := by decide +kernel
theorem dX3_shown_11 : decode cX3_shown 11 = .ok (.aload_n 0, 1) := by decide +kernel
theorem dX3_shown_12 : decode cX3_shown 12 = .ok (.iload_n 2, 1) := by decide +kernel
theorem dX3_shown_13 : decode cX3_shown 13 = .ok (.invokevirtual 77, 3) := by decide +kernel
theorem dX3_shown_16 : decode cX3_shown 16 = .ok (.invokestatic 50, 3) := by decide +kernel
theorem dX3_shown_19 : decode cX3_shown 19 = .ok (.ireturn, 1) := by decide +kernel
theorem dX3_power_0 : decode cX3_power 0 = .ok (.iconst 0, 1) := by decide +kernel
theorem dX3_power_1 : decode cX3_power 1 = .ok (.istore_n 1, 1) := by decide +kernel
theorem dX3_power_2 : decode cX3_power 2 = .ok (.iconst 0, 1) := by decide +kernel
theorem dX3_power_3 : decode cX3_power 3 = .ok (.istore_n 2, 1) := by decide +kernel
theorem dX3_power_4 : decode cX3_power 4 = .ok (.iload_n 2, 1) := by decide +kernel
theorem dX3_power_5 : decode cX3_power 5 = .ok (.bipush 18, 2) := by decide +kernel
theorem dX3_power_7 : decode cX3_power 7 = .ok (.if_icmp .ge 18, 3) := by decide +kernel
theorem dX3_power_10 : decode cX3_power 10 = .ok (.iload_n 1, 1) := by decide +kernel
theorem dX3_power_11 : decode cX3_power 11 = .ok (.aload_n 0, 1) := by decide +kernel
theorem dX3_power_12 : decode cX3_power 12 = .ok (.getfield 15, 3) := by decide +kernel
theorem dX3_power_15 : decode cX3_power 15 = .ok (.iload_n 2, 1) := by decide +kernel
theorem dX3_power_16 : decode cX3_power 16 = .ok (.iaload, 1) := by decide +kernel
theorem dX3_power_17 : decode cX3_power 17 = .ok (.iadd, 1) := by decide +kernel
theorem dX3_power_18 : decode cX3_power 18 = .ok (.istore_n 1, 1) := by decide +kernel
theorem dX3_power_19 : decode cX3_power 19 = .ok (.iinc 2 1, 3) := by decide +kernel
theorem dX3_power_22 : decode cX3_power 22 = .ok (.goto (-18), 3) := by decide +kernel
theorem dX3_power_25 : decode cX3_power 25 = .ok (.iload_n 1, 1) := by decide +kernel
theorem dX3_power_26 : decode cX3_power 26 = .ok (.ireturn, 1) := by decide +kernel
theorem dX3_deadZones_0 : decode cX3_deadZones 0 = .ok (.iconst 0, 1) := by decide +kernel
theorem dX3_deadZones_1 : decode cX3_deadZones 1 = .ok (.istore_n 1, 1) := by decide +kernel
theorem dX3_deadZones_2 : decode cX3_deadZones 2 = .ok (.iconst 0, 1) := by decide +kernel
theorem dX3_deadZones_3 : decode cX3_deadZones 3 = .ok (.istore_n 2, 1) := by decide +kernel
theorem dX3_deadZones_4 : decode cX3_deadZones 4 = .ok (.iload_n 2, 1) := by decide +kernel
theorem dX3_deadZones_5 : decode cX3_deadZones 5 = .ok (.bipush 18, 2) := by decide +kernel
theorem dX3_deadZones_7 : decode cX3_deadZones 7 = .ok (.if_icmp .ge 21, 3) := by decide +kernel
theorem dX3_deadZones_10 : decode cX3_deadZones 10 = .ok (.aload_n 0, 1) := by decide +kernel
theorem dX3_deadZones_11 : decode cX3_deadZones 11 = .ok (.getfield 18, 3) := by decide +kernel
theorem dX3_deadZones_14 : decode cX3_deadZones 14 = .ok (.iload_n 2, 1) := by decide +kernel
theorem dX3_deadZones_15 : decode cX3_deadZones 15 = .ok (.baload, 1) := by decide +kernel
theorem dX3_deadZones_16 : decode cX3_deadZones 16 = .ok (.ifCond .eq 6, 3) := by decide +kernel
theorem dX3_deadZones_19 : decode cX3_deadZones 19 = .ok (.iinc 1 1, 3) := by decide +kernel
theorem dX3_deadZones_22 : decode cX3_deadZones 22 = .ok (.iinc 2 1, 3) := by decide +kernel
theorem dX3_deadZones_25 : decode cX3_deadZones 25 = .ok (.goto (-21), 3) := by decide +kernel
theorem dX3_deadZones_28 : decode cX3_deadZones 28 = .ok (.iload_n 1, 1) := by decide +kernel
theorem dX3_deadZones_29 : decode cX3_deadZones 29 = .ok (.ireturn, 1) := by decide +kernel
set_option maxRecDepth 20000 in
theorem ggX3_passFrame_X3_power : GoodIn wsX3_passFrame wsX3_power := goodIn_r _ [21, 2, 22, 23, 24, 25, 26, 27, 28] (by decide +kernel) (by decide +kernel)
set_option maxRecDepth 20000 in
theorem gX3_passFrame_X3_power : GoodIn wsX3_passFrame (wsV RX3 83 RX3 yX3_power wsX3_power) := goodIn_app (goodIn_of _ (by decide +kernel)) ggX3_passFrame_X3_power
theorem dX3_passFrame_0 : decode cX3_passFrame 0 = .ok (.iconst 0, 1) := by decide +kernel
theorem dX3_passFrame_1 : decode cX3_passFrame 1 = .ok (.istore_n 2, 1) := by decide +kernel
theorem dX3_passFrame_2 : decode cX3_passFrame 2 = .ok (.iload_n 2, 1) := by decide +kernel
theorem dX3_passFrame_3 : decode cX3_passFrame 3 = .ok (.bipush 18, 2) := by decide +kernel
theorem dX3_passFrame_5 : decode cX3_passFrame 5 = .ok (.if_icmp .ge 78, 3) := by decide +kernel
theorem dX3_passFrame_8 : decode cX3_passFrame 8 = .ok (.aload_n 0, 1) := by decide +kernel
theorem dX3_passFrame_9 : decode cX3_passFrame 9 = .ok (.getfield 18, 3) := by decide +kernel
theorem dX3_passFrame_12 : decode cX3_passFrame 12 = .ok (.iload_n 2, 1) := by decide +kernel
theorem dX3_passFrame_13 : decode cX3_passFrame 13 = .ok (.baload, 1) := by decide +kernel
theorem dX3_passFrame_14 : decode cX3_passFrame 14 = .ok (.ifCond .ne 63, 3) := by decide +kernel
theorem dX3_passFrame_17 : decode cX3_passFrame 17 = .ok (.aload_n 1, 1) := by decide +kernel
theorem dX3_passFrame_18 : decode cX3_passFrame 18 = .ok (.iload_n 2, 1) := by decide +kernel
theorem dX3_passFrame_19 : decode cX3_passFrame 19 = .ok (.iaload, 1) := by decide +kernel
theorem dX3_passFrame_20 : decode cX3_passFrame 20 = .ok (.aload_n 0, 1) := by decide +kernel
theorem dX3_passFrame_21 : decode cX3_passFrame 21 = .ok (.getfield 15, 3) := by decide +kernel
theorem dX3_passFrame_24 : decode cX3_passFrame 24 = .ok (.iload_n 2, 1) := by decide +kernel
theorem dX3_passFrame_25 : decode cX3_passFrame 25 = .ok (.iaload, 1) := by decide +kernel
theorem dX3_passFrame_26 : decode cX3_passFrame 26 = .ok (.isub, 1) := by decide +kernel
theorem dX3_passFrame_27 : decode cX3_passFrame 27 = .ok (.istore_n 3, 1) := by decide +kernel
theorem dX3_passFrame_28 : decode cX3_passFrame 28 = .ok (.aload_n 0, 1) := by decide +kernel
theorem dX3_passFrame_29 : decode cX3_passFrame 29 = .ok (.getfield 22, 3) := by decide +kernel
theorem dX3_passFrame_32 : decode cX3_passFrame 32 = .ok (.bipush 7, 2) := by decide +kernel
theorem dX3_passFrame_34 : decode cX3_passFrame 34 = .ok (.iaload, 1) := by decide +kernel
theorem dX3_passFrame_35 : decode cX3_passFrame 35 = .ok (.ineg, 1) := by decide +kernel
theorem dX3_passFrame_36 : decode cX3_passFrame 36 = .ok (.aload_n 0, 1) := by decide +kernel
theorem dX3_passFrame_37 : decode cX3_passFrame 37 = .ok (.getfield 22, 3) := by decide +kernel
theorem dX3_passFrame_40 : decode cX3_passFrame 40 = .ok (.bipush 7, 2) := by decide +kernel
theorem dX3_passFrame_42 : decode cX3_passFrame 42 = .ok (.iaload, 1) := by decide +kernel
theorem dX3_passFrame_43 : decode cX3_passFrame 43 = .ok (.iload_n 3, 1) := by decide +kernel
theorem dX3_passFrame_44 : decode cX3_passFrame 44 = .ok (.invokestatic 44, 3) := by decide +kernel
theorem dX3_passFrame_47 : decode cX3_passFrame 47 = .ok (.invokestatic 50, 3) := by decide +kernel
theorem dX3_passFrame_50 : decode cX3_passFrame 50 = .ok (.istore 4, 2) := by decide +kernel
theorem dX3_passFrame_52 : decode cX3_passFrame 52 = .ok (.aload_n 0, 1) := by decide +kernel
theorem dX3_passFrame_53 : decode cX3_passFrame 53 = .ok (.getfield 15, 3) := by decide +kernel
theorem dX3_passFrame_56 : decode cX3_passFrame 56 = .ok (.iload_n 2, 1) := by decide +kernel
theorem dX3_passFrame_57 : decode cX3_passFrame 57 = .ok (.dup2, 1) := by decide +kernel
theorem dX3_passFrame_58 : decode cX3_passFrame 58 = .ok (.iaload, 1) := by decide +kernel
theorem dX3_passFrame_59 : decode cX3_passFrame 59 = .ok (.iload 4, 2) := by decide +kernel
theorem dX3_passFrame_61 : decode cX3_passFrame 61 = .ok (.iadd, 1) := by decide +kernel
theorem dX3_passFrame_62 : decode cX3_passFrame 62 = .ok (.iastore, 1) := by decide +kernel
theorem dX3_passFrame_63 : decode cX3_passFrame 63 = .ok (.aload_n 0, 1) := by decide +kernel
theorem dX3_passFrame_64 : decode cX3_passFrame 64 = .ok (.dup, 1) := by decide +kernel
theorem dX3_passFrame_65 : decode cX3_passFrame 65 = .ok (.getfield 29, 3) := by decide +kernel
theorem dX3_passFrame_68 : decode cX3_passFrame 68 = .ok (.iload 4, 2) := by decide +kernel
theorem dX3_passFrame_70 : decode cX3_passFrame 70 = .ok (.invokestatic 80, 3) := by decide +kernel
theorem dX3_passFrame_73 : decode cX3_passFrame 73 = .ok (.iadd, 1) := by decide +kernel
theorem dX3_passFrame_74 : decode cX3_passFrame 74 = .ok (.putfield 29, 3) := by decide +kernel
theorem dX3_passFrame_77 : decode cX3_passFrame 77 = .ok (.iinc 2 1, 3) := by decide +kernel
theorem dX3_passFrame_80 : decode cX3_passFrame 80 = .ok (.goto (-78), 3) := by decide +kernel
theorem dX3_passFrame_83 : decode cX3_passFrame 83 = .ok (.aload_n 0, 1) := by decide +kernel
theorem dX3_passFrame_84 : decode cX3_passFrame 84 = .ok (.dup, 1) := by decide +kernel
theorem dX3_passFrame_85 : decode cX3_passFrame 85 = .ok (.getfield 25, 3) := by decide +kernel
theorem dX3_passFrame_88 : decode cX3_passFrame 88 = .ok (.iconst 1, 1) := by decide +kernel
theorem dX3_passFrame_89 : decode cX3_passFrame 89 = .ok (.iadd, 1) := by decide +kernel
theorem dX3_passFrame_90 : decode cX3_passFrame 90 = .ok (.putfield 25, 3) := by decide +kernel
theorem dX3_passFrame_93 : decode cX3_passFrame 93 = .ok (.aload_n 0, 1) := by decide +kernel
theorem dX3_passFrame_94 : decode cX3_passFrame 94 = .ok (.dup, 1) := by decide +kernel
theorem dX3_passFrame_95 : decode cX3_passFrame 95 = .ok (.getfield 32, 3) := by decide +kernel
theorem dX3_passFrame_98 : decode cX3_passFrame 98 = .ok (.aload_n 0, 1) := by decide +kernel
theorem dX3_passFrame_99 : decode cX3_passFrame 99 = .ok (.invokevirtual 83, 3) := by decide +kernel
theorem dX3_passFrame_102 : decode cX3_passFrame 102 = .ok (.iadd, 1) := by decide +kernel
theorem dX3_passFrame_103 : decode cX3_passFrame 103 = .ok (.putfield 32, 3) := by decide +kernel
theorem dX3_passFrame_106 : decode cX3_passFrame 106 = .ok (.return_, 1) := by decide +kernel
theorem dX4_init_0 : decode cX4_init 0 = .ok (.aload_n 0, 1) := by decide +kernel
theorem dX4_init_1 : decode cX4_init 1 = .ok (.invokespecial 3, 3) := by decide +kernel
theorem dX4_init_4 : decode cX4_init 4 = .ok (.aload_n 0, 1) := by decide +kernel
theorem dX4_init_5 : decode cX4_init 5 = .ok (.iconst 0, 1) := by decide +kernel
theorem dX4_init_6 : decode cX4_init 6 = .ok (.putfield 9, 3) := by decide +kernel
theorem dX4_init_9 : decode cX4_init 9 = .ok (.aload_n 0, 1) := by decide +kernel
theorem dX4_init_10 : decode cX4_init 10 = .ok (.iconst 0, 1) := by decide +kernel
theorem dX4_init_11 : decode cX4_init 11 = .ok (.putfield 15, 3) := by decide +kernel
theorem dX4_init_14 : decode cX4_init 14 = .ok (.aload_n 0, 1) := by decide +kernel
theorem dX4_init_15 : decode cX4_init 15 = .ok (.iconst 0, 1) := by decide +kernel
theorem dX4_init_16 : decode cX4_init 16 = .ok (.putfield 18, 3) := by decide +kernel
theorem dX4_init_19 : decode cX4_init 19 = .ok (.aload_n 0, 1) := by decide +kernel
theorem dX4_init_20 : decode cX4_init 20 = .ok (.iconst 0, 1) := by decide +kernel
theorem dX4_init_21 : decode cX4_init 21 = .ok (.putfield 21, 3) := by decide +kernel
theorem dX4_init_24 : decode cX4_init 24 = .ok (.aload_n 0, 1) := by decide +kernel
theorem dX4_init_25 : decode cX4_init 25 = .ok (.iconst 0, 1) := by decide +kernel
theorem dX4_init_26 : decode cX4_init 26 = .ok (.putfield 24, 3) := by decide +kernel
theorem dX4_init_29 : decode cX4_init 29 = .ok (.return_, 1) := by decide +kernel
set_option maxRecDepth 20000 in
theorem ggX4_takeAll_X4_clear : GoodIn wsX4_takeAll wsX4_clear := goodIn_r _ [5, 6, 7, 8, 9, 10, 69, 70, 71, 72, 73] (by decide +kernel) (by decide +kernel)
set_option maxRecDepth 20000 in
theorem gX4_takeAll_X4_clear : GoodIn wsX4_takeAll (wsV RX4 27 RX4 yX4_clear wsX4_clear) := goodIn_app (goodIn_of _ (by decide +kernel)) ggX4_takeAll_X4_clear
set_option maxRecDepth 20000 in
theorem ggX4_takeAll_X4_addZone : GoodIn wsX4_takeAll wsX4_addZone := goodIn_r _ [14, 15, 16, 17, 18, 19, 20, 21, 22, 23, 24, 25, 26, 27, 28, 29, 30, 31, 32, 33, 34, 35, 36, 37, 38, 39, 40, 41, 42, 43, 44, 45, 46, 47, 48, 49, 50, 51, 52, 53, 54, 55, 56, 57, 58, 59, 60, 61, 62, 63, 4, 64, 6, 7, 65, 8, 9, 66, 10, 67, 68, 74, 75, 76, 77, 78, 79, 80, 69, 70, 71, 72, 73] (by decide +kernel) (by decide +kernel)
set_option maxRecDepth 20000 in
theorem gX4_takeAll_X4_addZone : GoodIn wsX4_takeAll (wsV RX4 30 RX4 yX4_addZone wsX4_addZone) := goodIn_app (goodIn_of _ (by decide +kernel)) ggX4_takeAll_X4_addZone
theorem dX4_takeAll_0 : decode cX4_takeAll 0 = .ok (.aload_n 0, 1) := by decide +kernel
theorem dX4_takeAll_1 : decode cX4_takeAll 1 = .ok (.invokevirtual 27, 3) := by decide +kernel
theorem dX4_takeAll_4 : decode cX4_takeAll 4 = .ok (.iconst 0, 1) := by decide +kernel
theorem dX4_takeAll_5 : decode cX4_takeAll 5 = .ok (.istore_n 2, 1) := by decide +kernel
theorem dX4_takeAll_6 : decode cX4_takeAll 6 = .ok (.iload_n 2, 1) := by decide +kernel
theorem dX4_takeAll_7 : decode cX4_takeAll 7 = .ok (.bipush 18, 2) := by decide +kernel
theorem dX4_takeAll_9 : decode cX4_takeAll 9 = .ok (.if_icmp .ge 15, 3) := by decide +kernel
theorem dX4_takeAll_12 : decode cX4_takeAll 12 = .ok (.aload_n 0, 1) := by decide +kernel
theorem dX4_takeAll_13 : decode cX4_takeAll 13 = .ok (.aload_n 1, 1) := by decide +kernel
theorem dX4_takeAll_14 : decode cX4_takeAll 14 = .ok (.iload_n 2, 1) := by decide +kernel
theorem dX4_takeAll_15 : decode cX4_takeAll 15 = .ok (.invokevirtual 30, 3) := by decide +kernel
theorem dX4_takeAll_18 : decode cX4_takeAll 18 = .ok (.iinc 2 1, 3) := by decide +kernel
theorem dX4_takeAll_21 : decode cX4_takeAll 21 = .ok (.goto (-15), 3) := by decide +kernel
theorem dX4_takeAll_24 : decode cX4_takeAll 24 = .ok (.return_, 1) := by decide +kernel
set_option maxRecDepth 20000 in
theorem ggX4_takeZone_X4_clear : GoodIn wsX4_takeZone wsX4_clear := goodIn_r _ [5, 6, 7, 8, 9, 10, 69, 70, 71, 72, 73] (by decide +kernel) (by decide +kernel)
set_option maxRecDepth 20000 in
theorem gX4_takeZone_X4_clear : GoodIn wsX4_takeZone (wsV RX4 27 RX4 yX4_clear wsX4_clear) := goodIn_app (goodIn_of _ (by decide +kernel)) ggX4_takeZone_X4_clear
set_option maxRecDepth 20000 in
theorem ggX4_takeZone_X4_addZone : GoodIn wsX4_takeZone wsX4_addZone := goodIn_r _ [14, 15, 16, 17, 18, 19, 20, 21, 22, 23, 24, 25, 26, 27, 28, 29, 30, 31, 32, 33, 34, 35, 36, 37, 38, 39, 40, 41, 42, 43, 44, 45, 46, 47, 48, 49, 50, 51, 52, 53, 54, 55, 56, 57, 58, 59, 60, 61, 62, 63, 4, 64, 6, 7, 65, 8, 9, 66, 10, 67, 68, 74, 75, 76, 77, 78, 79, 80, 69, 70, 71, 72, 73] (by decide +kernel) (by decide +kernel)
set_option maxRecDepth 20000 in
theorem gX4_takeZone_X4_addZone : GoodIn wsX4_takeZone (wsV RX4 30 RX4 yX4_addZone wsX4_addZone) := goodIn_app (goodIn_of _ (by decide +kernel)) ggX4_takeZone_X4_addZone
theorem dX4_takeZone_0 : decode cX4_takeZone 0 = .ok (.aload_n 0, 1) := by decide +kernel
theorem dX4_takeZone_1 : decode cX4_takeZone 1 = .ok (.invokevirtual 27, 3) := by decide +kernel
theorem dX4_takeZone_4 : decode cX4_takeZone 4 = .ok (.aload_n 0, 1) := by decide +kernel
theorem dX4_takeZone_5 : decode cX4_takeZone 5 = .ok (.aload_n 1, 1) := by decide +kernel
theorem dX4_takeZone_6 : decode cX4_takeZone 6 = .ok (.iload_n 2, 1) := by decide +kernel
theorem dX4_takeZone_7 : decode cX4_takeZone 7 = .ok (.invokevirtual 30, 3) := by decide +kernel
theorem dX4_takeZone_10 : decode cX4_takeZone 10 = .ok (.return_, 1) := by decide +kernel
theorem dX4_clear_0 : decode cX4_clear 0 = .ok (.aload_n 0, 1) := by decide +kernel
theorem dX4_clear_1 : decode cX4_clear 1 = .ok (.iconst 0, 1) := by decide +kernel
theorem dX4_clear_2 : decode cX4_clear 2 = .ok (.putfield 9, 3) := by decide +kernel
theorem dX4_clear_5 : decode cX4_clear 5 = .ok (.aload_n 0, 1) := by decide +kernel
theorem dX4_clear_6 : decode cX4_clear 6 = .ok (.iconst 0, 1) := by decide +kernel
theorem dX4_clear_7 : decode cX4_clear 7 = .ok (.putfield 15, 3) := by decide +kernel
theorem dX4_clear_10 : decode cX4_clear 10 = .ok (.aload_n 0, 1) := by decide +kernel
theorem dX4_clear_11 : decode cX4_clear 11 = .ok (.iconst 0, 1) := by decide +kernel
theorem dX4_clear_12 : decode cX4_clear 12 = .ok (.putfield 18, 3) := by decide +kernel
theorem dX4_clear_15 : decode cX4_clear 15 = .ok (.aload_n 0, 1) := by decide +kernel
theorem dX4_clear_16 : decode cX4_clear 16 = .ok (.iconst 0, 1) := by decide +kernel
theorem dX4_clear_17 : decode cX4_clear 17 = .ok (.putfield 21, 3) := by decide +kernel
theorem dX4_clear_20 : decode cX4_clear 20 = .ok (.aload_n 0, 1) := by decide +kernel
theorem dX4_clear_21 : decode cX4_clear 21 = .ok (.iconst 0, 1) := by decide +kernel
theorem dX4_clear_22 : decode cX4_clear 22 = .ok (.putfield 24, 3) := by decide +kernel
theorem dX4_clear_25 : decode cX4_clear 25 = .ok (.return_, 1) := by decide +kernel
set_option maxRecDepth 20000 in
theorem ggX4_addZone_X3_light : GoodIn wsX4_addZone wsX3_light := goodIn_r _ [6, 7, 8, 9, 10, 5, 11, 12, 13, 14, 15, 16, 17, 18, 19, 20, 21, 22, 23, 24, 25, 26, 27, 61, 62, 63, 64, 65, 66, 67] (by decide +kernel) (by decide +kernel)
set_option maxRecDepth 20000 in
theorem gX4_addZone_X3_light : GoodIn wsX4_addZone (wsV RX4 34 RX3 yX3_light wsX3_light) := goodIn_app (goodIn_of _ (by decide +kernel)) ggX4_addZone_X3_light
set_option maxRecDepth 20000 in
theorem ggX4_addZone_X5_spotOfZone : GoodIn wsX4_addZone wsX5_spotOfZone := goodIn_r _ [29, 30, 31, 14, 32] (by decide +kernel) (by decide +kernel)
set_option maxRecDepth 20000 in
theorem gX4_addZone_X5_spotOfZone_n44 : GoodIn wsX4_addZone (wsX5_spotOfZone) := ggX4_addZone_X5_spotOfZone
set_option maxRecDepth 20000 in
theorem ggX4_addZone_X3_shown : GoodIn wsX4_addZone wsX3_shown := goodIn_r _ [36, 37, 21, 18, 22, 38, 14, 39, 25, 26, 27, 40, 41, 42, 43, 44, 45, 5, 46, 12, 61, 62, 63, 64, 65, 66, 67] (by decide +kernel) (by decide +kernel)
set_option maxRecDepth 20000 in
theorem gX4_addZone_X3_shown : GoodIn wsX4_addZone (wsV RX4 48 RX3 yX3_shown wsX3_shown) := goodIn_app (goodIn_of _ (by decide +kernel)) ggX4_addZone_X3_shown
set_option maxRecDepth 20000 in
theorem ggX4_addZone_X4_addSpot : GoodIn wsX4_addZone wsX4_addSpot := goodIn_r _ [51, 52, 53, 54, 17, 18, 19, 55, 56, 57, 21, 22, 58, 59, 14, 60, 68, 69, 70, 71, 72] (by decide +kernel) (by decide +kernel)
set_option maxRecDepth 20000 in
theorem gX4_addZone_X4_addSpot : GoodIn wsX4_addZone (wsV RX4 50 RX4 yX4_addSpot wsX4_addSpot) := goodIn_app (goodIn_of _ (by decide +kernel)) ggX4_addZone_X4_addSpot
theorem dX4_addZone_0 : decode cX4_addZone 0 = .ok (.aload_n 1, 1) := by decide +kernel
theorem dX4_addZone_1 : decode cX4_addZone 1 = .ok (.iload_n 2, 1) := by decide +kernel
theorem dX4_addZone_2 : decode cX4_addZone 2 = .ok (.invokevirtual 34, 3) := by decide +kernel
theorem dX4_addZone_5 : decode cX4_addZone 5 = .ok (.istore_n 3, 1) := by decide +kernel
theorem dX4_addZone_6 : decode cX4_addZone 6 = .ok (.iconst 0, 1) := by decide +kernel
theorem dX4_addZone_7 : decode cX4_addZone 7 = .ok (.istore 4, 2) := by decide +kernel
theorem dX4_addZone_9 : decode cX4_addZone 9 = .ok (.iload 4, 2) := by decide +kernel
theorem dX4_addZone_11 : decode cX4_addZone 11 = .ok (.bipush 16, 2) := by decide +kernel
theorem dX4_addZone_13 : decode cX4_addZone 13 = .ok (.if_icmp .ge 35, 3) := by decide +kernel
theorem dX4_addZone_16 : decode cX4_addZone 16 = .ok (.aload_n 1, 1) := by decide +kernel
theorem dX4_addZone_17 : decode cX4_addZone 17 = .ok (.getfield 40, 3) := by decide +kernel
theorem dX4_addZone_20 : decode cX4_addZone 20 = .ok (.iload_n 2, 1) := by decide +kernel
theorem dX4_addZone_21 : decode cX4_addZone 21 = .ok (.iload 4, 2) := by decide +kernel
theorem dX4_addZone_23 : decode cX4_addZone 23 = .ok (.invokestatic 44, 3) := by decide +kernel
theorem dX4_addZone_26 : decode cX4_addZone 26 = .ok (.iaload, 1) := by decide +kernel
theorem dX4_addZone_27 : decode cX4_addZone 27 = .ok (.istore 5, 2) := by decide +kernel
theorem dX4_addZone_29 : decode cX4_addZone 29 = .ok (.aload_n 0, 1) := by decide +kernel
theorem dX4_addZone_30 : decode cX4_addZone 30 = .ok (.iload 5, 2) := by decide +kernel
theorem dX4_addZone_32 : decode cX4_addZone 32 = .ok (.aload_n 1, 1) := by decide +kernel
theorem dX4_addZone_33 : decode cX4_addZone 33 = .ok (.iload 5, 2) := by decide +kernel
theorem dX4_addZone_35 : decode cX4_addZone 35 = .ok (.iload_n 3, 1) := by decide +kernel
theorem dX4_addZone_36 : decode cX4_addZone 36 = .ok (.invokevirtual 48, 3) := by decide +kernel
theorem dX4_addZone_39 : decode cX4_addZone 39 = .ok (.invokevirtual 50, 3) := by decide +kernel
theorem dX4_addZone_42 : decode cX4_addZone 42 = .ok (.iinc 4 1, 3) := by decide +kernel
theorem dX4_addZone_45 : decode cX4_addZone 45 = .ok (.goto (-36), 3) := by decide +kernel
theorem dX4_addZone_48 : decode cX4_addZone 48 = .ok (.return_, 1) := by decide +kernel
set_option maxRecDepth 20000 in
theorem ggX4_addSpot_X5_verdict : GoodIn wsX4_addSpot wsX5_verdict := goodIn_r _ [15] (by decide +kernel) (by decide +kernel)
set_option maxRecDepth 20000 in
theorem gX4_addSpot_X5_verdict_n54 : GoodIn wsX4_addSpot (wsX5_verdict) := ggX4_addSpot_X5_verdict
theorem dX4_addSpot_0 : decode cX4_addSpot 0 = .ok (.iload_n 1, 1) := by decide +kernel
theorem dX4_addSpot_1 : decode cX4_addSpot 1 = .ok (.iload_n 2, 1) := by decide +kernel
theorem dX4_addSpot_2 : decode cX4_addSpot 2 = .ok (.invokestatic 54, 3) := by decide +kernel
theorem dX4_addSpot_5 : decode cX4_addSpot 5 = .ok (.istore_n 3, 1) := by decide +kernel
theorem dX4_addSpot_6 : decode cX4_addSpot 6 = .ok (.iload_n 3, 1) := by decide +kernel
theorem dX4_addSpot_7 : decode cX4_addSpot 7 = .ok (.iconst 1, 1) := by decide +kernel
theorem dX4_addSpot_8 : decode cX4_addSpot 8 = .ok (.if_icmp .ne 16, 3) := by decide +kernel
theorem dX4_addSpot_11 : decode cX4_addSpot 11 = .ok (.aload_n 0, 1) := by decide +kernel
theorem dX4_addSpot_12 : decode cX4_addSpot 12 = .ok (.dup, 1) := by decide +kernel
theorem dX4_addSpot_13 : decode cX4_addSpot 13 = .ok (.getfield 9, 3) := by decide +kernel
theorem dX4_addSpot_16 : decode cX4_addSpot 16 = .ok (.iconst 1, 1) := by decide +kernel
theorem dX4_addSpot_17 : decode cX4_addSpot 17 = .ok (.iadd, 1) := by decide +kernel
theorem dX4_addSpot_18 : decode cX4_addSpot 18 = .ok (.putfield 9, 3) := by decide +kernel
theorem dX4_addSpot_21 : decode cX4_addSpot 21 = .ok (.goto 18, 3) := by decide +kernel
theorem dX4_addSpot_24 : decode cX4_addSpot 24 = .ok (.iload_n 3, 1) := by decide +kernel
theorem dX4_addSpot_25 : decode cX4_addSpot 25 = .ok (.iconst 2, 1) := by decide +kernel
theorem dX4_addSpot_26 : decode cX4_addSpot 26 = .ok (.if_icmp .ne 13, 3) := by decide +kernel
theorem dX4_addSpot_29 : decode cX4_addSpot 29 = .ok (.aload_n 0, 1) := by decide +kernel
theorem dX4_addSpot_30 : decode cX4_addSpot 30 = .ok (.dup, 1) := by decide +kernel
theorem dX4_addSpot_31 : decode cX4_addSpot 31 = .ok (.getfield 15, 3) := by decide +kernel
theorem dX4_addSpot_34 : decode cX4_addSpot 34 = .ok (.iconst 1, 1) := by decide +kernel
theorem dX4_addSpot_35 : decode cX4_addSpot 35 = .ok (.iadd, 1) := by decide +kernel
theorem dX4_addSpot_36 : decode cX4_addSpot 36 = .ok (.putfield 15, 3) := by decide +kernel
theorem dX4_addSpot_39 : decode cX4_addSpot 39 = .ok (.iload_n 2, 1) := by decide +kernel
theorem dX4_addSpot_40 : decode cX4_addSpot 40 = .ok (.iload_n 1, 1) := by decide +kernel
theorem dX4_addSpot_41 : decode cX4_addSpot 41 = .ok (.isub, 1) := by decide +kernel
theorem dX4_addSpot_42 : decode cX4_addSpot 42 = .ok (.invokestatic 57, 3) := by decide +kernel
theorem dX4_addSpot_45 : decode cX4_addSpot 45 = .ok (.istore 4, 2) := by decide +kernel
theorem dX4_addSpot_47 : decode cX4_addSpot 47 = .ok (.aload_n 0, 1) := by decide +kernel
theorem dX4_addSpot_48 : decode cX4_addSpot 48 = .ok (.dup, 1) := by decide +kernel
theorem dX4_addSpot_49 : decode cX4_addSpot 49 = .ok (.getfield 18, 3) := by decide +kernel
theorem dX4_addSpot_52 : decode cX4_addSpot 52 = .ok (.iload 4, 2) := by decide +kernel
theorem dX4_addSpot_54 : decode cX4_addSpot 54 = .ok (.iadd, 1) := by decide +kernel
theorem dX4_addSpot_55 : decode cX4_addSpot 55 = .ok (.putfield 18, 3) := by decide +kernel
theorem dX4_addSpot_58 : decode cX4_addSpot 58 = .ok (.aload_n 0, 1) := by decide +kernel
theorem dX4_addSpot_59 : decode cX4_addSpot 59 = .ok (.aload_n 0, 1) := by decide +kernel
theorem dX4_addSpot_60 : decode cX4_addSpot 60 = .ok (.getfield 21, 3) := by decide +kernel
theorem dX4_addSpot_63 : decode cX4_addSpot 63 = .ok (.iload 4, 2) := by decide +kernel
theorem dX4_addSpot_65 : decode cX4_addSpot 65 = .ok (.invokestatic 62, 3) := by decide +kernel
theorem dX4_addSpot_68 : decode cX4_addSpot 68 = .ok (.putfield 21, 3) := by decide +kernel
theorem dX4_addSpot_71 : decode cX4_addSpot 71 = .ok (.aload_n 0, 1) := by decide +kernel
theorem dX4_addSpot_72 : decode cX4_addSpot 72 = .ok (.dup, 1) := by decide +kernel
theorem dX4_addSpot_73 : decode cX4_addSpot 73 = .ok (.getfield 24, 3) := by decide +kernel
theorem dX4_addSpot_76 : decode cX4_addSpot 76 = .ok (.iload_n 2, 1) := by decide +kernel
theorem dX4_addSpot_77 : decode cX4_addSpot 77 = .ok (.iadd, 1) := by decide +kernel
theorem dX4_addSpot_78 : decode cX4_addSpot 78 = .ok (.putfield 24, 3) := by decide +kernel
theorem dX4_addSpot_81 : decode cX4_addSpot 81 = .ok (.return_, 1) := by decide +kernel
set_option maxRecDepth 20000 in
theorem ggX5_init_X3_init : GoodIn wsX5_init wsX3_init := goodIn_r _ [31, 32, 2, 3, 27, 33, 34, 35, 36, 37, 38, 39, 40, 41, 42, 43, 44, 75, 76, 77, 78, 79, 80, 81] (by decide +kernel) (by decide +kernel)
set_option maxRecDepth 20000 in
theorem gX5_init_X3_init : GoodIn wsX5_init (wsX3_init) := ggX5_init_X3_init
set_option maxRecDepth 20000 in
theorem ggX5_init_X0_init : GoodIn wsX5_init wsX0_init := goodIn_r _ [47, 48, 2, 3, 49, 50, 51, 52, 5, 6, 53, 30, 31, 32, 27, 33, 34, 35, 36, 37, 38, 39, 40, 41, 42, 43, 44, 91, 92, 93, 75, 76, 77, 78, 79, 80, 81] (by decide +kernel) (by decide +kernel)
set_option maxRecDepth 20000 in
theorem gX5_init_X0_init : GoodIn wsX5_init (wsX0_init) := ggX5_init_X0_init
set_option maxRecDepth 20000 in
theorem ggX5_init_X1_init : GoodIn wsX5_init wsX1_init := goodIn_r _ [55, 56, 2, 3, 57, 58, 59, 27, 60, 61, 94, 95, 96, 97] (by decide +kernel) (by decide +kernel)
set_option maxRecDepth 20000 in
theorem gX5_init_X1_init_n32 : GoodIn wsX5_init (wsX1_init) := ggX5_init_X1_init
set_option maxRecDepth 20000 in
theorem ggX5_init_X2_init : GoodIn wsX5_init wsX2_init := goodIn_r _ [63, 64, 2, 3, 27, 65, 66, 98, 99] (by decide +kernel) (by decide +kernel)
set_option maxRecDepth 20000 in
theorem gX5_init_X2_init_n42 : GoodIn wsX5_init (wsX2_init) := ggX5_init_X2_init
set_option maxRecDepth 20000 in
theorem ggX5_init_X4_init : GoodIn wsX5_init wsX4_init := goodIn_r _ [68, 69, 2, 3, 70, 71, 72, 73, 74, 100, 101, 102, 103, 104] (by decide +kernel) (by decide +kernel)
set_option maxRecDepth 20000 in
theorem gX5_init_X4_init_n49 : GoodIn wsX5_init (wsX4_init) := ggX5_init_X4_init
theorem dX5_init_0 : decode cX5_init 0 = .ok (.aload_n 0, 1) := by decide +kernel
theorem dX5_init_1 : decode cX5_init 1 = .ok (.invokespecial 3, 3) := by decide +kernel
theorem dX5_init_4 : decode cX5_init 4 = .ok (.aload_n 0, 1) := by decide +kernel
theorem dX5_init_5 : decode cX5_init 5 = .ok (.new 9, 3) := by decide +kernel
theorem dX5_init_8 : decode cX5_init 8 = .ok (.dup, 1) := by decide +kernel
theorem dX5_init_9 : decode cX5_init 9 = .ok (.invokespecial 11, 3) := by decide +kernel
theorem dX5_init_12 : decode cX5_init 12 = .ok (.putfield 12, 3) := by decide +kernel
theorem dX5_init_15 : decode cX5_init 15 = .ok (.aload_n 0, 1) := by decide +kernel
theorem dX5_init_16 : decode cX5_init 16 = .ok (.new 9, 3) := by decide +kernel
theorem dX5_init_19 : decode cX5_init 19 = .ok (.dup, 1) := by decide +kernel
theorem dX5_init_20 : decode cX5_init 20 = .ok (.invokespecial 11, 3) := by decide +kernel
theorem dX5_init_23 : decode cX5_init 23 = .ok (.putfield 16, 3) := by decide +kernel
theorem dX5_init_26 : decode cX5_init 26 = .ok (.aload_n 0, 1) := by decide +kernel
theorem dX5_init_27 : decode cX5_init 27 = .ok (.iconst 0, 1) := by decide +kernel
theorem dX5_init_28 : decode cX5_init 28 = .ok (.putfield 19, 3) := by decide +kernel
theorem dX5_init_31 : decode cX5_init 31 = .ok (.aload_n 0, 1) := by decide +kernel
theorem dX5_init_32 : decode cX5_init 32 = .ok (.new 23, 3) := by decide +kernel
theorem dX5_init_35 : decode cX5_init 35 = .ok (.dup, 1) := by decide +kernel
theorem dX5_init_36 : decode cX5_init 36 = .ok (.invokespecial 25, 3) := by decide +kernel
theorem dX5_init_39 : decode cX5_init 39 = .ok (.putfield 26, 3) := by decide +kernel
theorem dX5_init_42 : decode cX5_init 42 = .ok (.aload_n 0, 1) := by decide +kernel
theorem dX5_init_43 : decode cX5_init 43 = .ok (.new 30, 3) := by decide +kernel
theorem dX5_init_46 : decode cX5_init 46 = .ok (.dup, 1) := by decide +kernel
theorem dX5_init_47 : decode cX5_init 47 = .ok (.invokespecial 32, 3) := by decide +kernel
theorem dX5_init_50 : decode cX5_init 50 = .ok (.putfield 33, 3) := by decide +kernel
theorem dX5_init_53 : decode cX5_init 53 = .ok (.aload_n 0, 1) := by decide +kernel
theorem dX5_init_54 : decode cX5_init 54 = .ok (.new 9, 3) := by decide +kernel
theorem dX5_init_57 : decode cX5_init 57 = .ok (.dup, 1) := by decide +kernel
theorem dX5_init_58 : decode cX5_init 58 = .ok (.invokespecial 11, 3) := by decide +kernel
theorem dX5_init_61 : decode cX5_init 61 = .ok (.putfield 37, 3) := by decide +kernel
theorem dX5_init_64 : decode cX5_init 64 = .ok (.aload_n 0, 1) := by decide +kernel
theorem dX5_init_65 : decode cX5_init 65 = .ok (.new 40, 3) := by decide +kernel
theorem dX5_init_68 : decode cX5_init 68 = .ok (.dup, 1) := by decide +kernel
theorem dX5_init_69 : decode cX5_init 69 = .ok (.invokespecial 42, 3) := by decide +kernel
theorem dX5_init_72 : decode cX5_init 72 = .ok (.putfield 43, 3) := by decide +kernel
theorem dX5_init_75 : decode cX5_init 75 = .ok (.aload_n 0, 1) := by decide +kernel
theorem dX5_init_76 : decode cX5_init 76 = .ok (.new 47, 3) := by decide +kernel
theorem dX5_init_79 : decode cX5_init 79 = .ok (.dup, 1) := by decide +kernel
theorem dX5_init_80 : decode cX5_init 80 = .ok (.invokespecial 49, 3) := by decide +kernel
theorem dX5_init_83 : decode cX5_init 83 = .ok (.putfield 50, 3) := by decide +kernel
theorem dX5_init_86 : decode cX5_init 86 = .ok (.aload_n 0, 1) := by decide +kernel
theorem dX5_init_87 : decode cX5_init 87 = .ok (.sipush 288, 3) := by decide +kernel
theorem dX5_init_90 : decode cX5_init 90 = .ok (.newarray .int, 2) := by decide +kernel
theorem dX5_init_92 : decode cX5_init 92 = .ok (.putfield 54, 3) := by decide +kernel
theorem dX5_init_95 : decode cX5_init 95 = .ok (.return_, 1) := by decide +kernel
set_option maxRecDepth 20000 in
theorem ggX5_ask_X5_onScreen : GoodIn wsX5_ask wsX5_onScreen := goodIn_r _ [7] (by decide +kernel) (by decide +kernel)
set_option maxRecDepth 20000 in
theorem gX5_ask_X5_onScreen : GoodIn wsX5_ask (va_wsS RX5 58 yX5_onScreen wsX5_onScreen) := goodIn_app (goodIn_of _ (by decide +kernel)) ggX5_ask_X5_onScreen
set_option maxRecDepth 20000 in
theorem ggX5_ask_X5_spotAt : GoodIn wsX5_ask wsX5_spotAt := goodIn_r _ [10] (by decide +kernel) (by decide +kernel)
set_option maxRecDepth 20000 in
theorem gX5_ask_X5_spotAt : GoodIn wsX5_ask (va_wsS RX5 62 yX5_spotAt wsX5_spotAt) := goodIn_app (goodIn_of _ (by decide +kernel)) ggX5_ask_X5_spotAt
set_option maxRecDepth 20000 in
theorem ggX5_ask_X0_record : GoodIn wsX5_ask wsX0_record := goodIn_r _ [15, 16, 17, 18, 19, 20, 21, 22, 23, 24, 25, 26, 27, 28, 29, 30, 31, 32, 33, 34, 51, 52, 53, 44, 45, 46, 47, 48, 49, 50] (by decide +kernel) (by decide +kernel)
set_option maxRecDepth 20000 in
theorem gX5_ask_X0_record : GoodIn wsX5_ask (wsV RX5 69 RX0 yX0_record wsX0_record) := goodIn_app (goodIn_of _ (by decide +kernel)) ggX5_ask_X0_record
theorem dX5_ask_0 : decode cX5_ask 0 = .ok (.iload_n 1, 1) := by decide +kernel
theorem dX5_ask_1 : decode cX5_ask 1 = .ok (.iload_n 2, 1) := by decide +kernel
theorem dX5_ask_2 : decode cX5_ask 2 = .ok (.invokestatic 58, 3) := by decide +kernel
theorem dX5_ask_5 : decode cX5_ask 5 = .ok (.ifCond .ne 5, 3) := by decide +kernel
theorem dX5_ask_8 : decode cX5_ask 8 = .ok (.iconst (-1), 1) := by decide +kernel
theorem dX5_ask_9 : decode cX5_ask 9 = .ok (.ireturn, 1) := by decide +kernel
theorem dX5_ask_10 : decode cX5_ask 10 = .ok (.iload_n 3, 1) := by decide +kernel
theorem dX5_ask_11 : decode cX5_ask 11 = .ok (.ifCond .lt 10, 3) := by decide +kernel
theorem dX5_ask_14 : decode cX5_ask 14 = .ok (.iload_n 3, 1) := by decide +kernel
theorem dX5_ask_15 : decode cX5_ask 15 = .ok (.sipush 255, 3) := by decide +kernel
theorem dX5_ask_18 : decode cX5_ask 18 = .ok (.if_icmp .le 6, 3) := by decide +kernel
theorem dX5_ask_21 : decode cX5_ask 21 = .ok (.bipush (-2), 2) := by decide +kernel
theorem dX5_ask_23 : decode cX5_ask 23 = .ok (.ireturn, 1) := by decide +kernel
theorem dX5_ask_24 : decode cX5_ask 24 = .ok (.iload_n 1, 1) := by decide +kernel
theorem dX5_ask_25 : decode cX5_ask 25 = .ok (.iload_n 2, 1) := by decide +kernel
theorem dX5_ask_26 : decode cX5_ask 26 = .ok (.invokestatic 62, 3) := by decide +kernel
theorem dX5_ask_29 : decode cX5_ask 29 = .ok (.istore 4, 2) := by decide +kernel
theorem dX5_ask_31 : decode cX5_ask 31 = .ok (.aload_n 0, 1) := by decide +kernel
theorem dX5_ask_32 : decode cX5_ask 32 = .ok (.getfield 12, 3) := by decide +kernel
theorem dX5_ask_35 : decode cX5_ask 35 = .ok (.getfield 66, 3) := by decide +kernel
theorem dX5_ask_38 : decode cX5_ask 38 = .ok (.iload 4, 2) := by decide +kernel
theorem dX5_ask_40 : decode cX5_ask 40 = .ok (.iaload, 1) := by decide +kernel
theorem dX5_ask_41 : decode cX5_ask 41 = .ok (.istore 5, 2) := by decide +kernel
theorem dX5_ask_43 : decode cX5_ask 43 = .ok (.iload 5, 2) := by decide +kernel
theorem dX5_ask_45 : decode cX5_ask 45 = .ok (.iload_n 3, 1) := by decide +kernel
theorem dX5_ask_46 : decode cX5_ask 46 = .ok (.if_icmp .ne 6, 3) := by decide +kernel
theorem dX5_ask_49 : decode cX5_ask 49 = .ok (.bipush (-5), 2) := by decide +kernel
theorem dX5_ask_51 : decode cX5_ask 51 = .ok (.ireturn, 1) := by decide +kernel
theorem dX5_ask_52 : decode cX5_ask 52 = .ok (.aload_n 0, 1) := by decide +kernel
theorem dX5_ask_53 : decode cX5_ask 53 = .ok (.getfield 26, 3) := by decide +kernel
theorem dX5_ask_56 : decode cX5_ask 56 = .ok (.aload_n 0, 1) := by decide +kernel
theorem dX5_ask_57 : decode cX5_ask 57 = .ok (.getfield 12, 3) := by decide +kernel
theorem dX5_ask_60 : decode cX5_ask 60 = .ok (.invokevirtual 69, 3) := by decide +kernel
theorem dX5_ask_63 : decode cX5_ask 63 = .ok (.aload_n 0, 1) := by decide +kernel
theorem dX5_ask_64 : decode cX5_ask 64 = .ok (.getfield 12, 3) := by decide +kernel
theorem dX5_ask_67 : decode cX5_ask 67 = .ok (.getfield 66, 3) := by decide +kernel
theorem dX5_ask_70 : decode cX5_ask 70 = .ok (.iload 4, 2) := by decide +kernel
theorem dX5_ask_72 : decode cX5_ask 72 = .ok (.iload_n 3, 1) := by decide +kernel
theorem dX5_ask_73 : decode cX5_ask 73 = .ok (.iastore, 1) := by decide +kernel
theorem dX5_ask_74 : decode cX5_ask 74 = .ok (.iload 5, 2) := by decide +kernel
theorem dX5_ask_76 : decode cX5_ask 76 = .ok (.ireturn, 1) := by decide +kernel
set_option maxRecDepth 20000 in
theorem ggX5_askAll_X1_read : GoodIn wsX5_askAll wsX1_read := goodIn_r _ [8, 9, 10, 11, 12, 13, 14, 15, 7, 16, 17, 18, 19, 20, 21, 22, 89, 90, 91, 92] (by decide +kernel) (by decide +kernel)
set_option maxRecDepth 20000 in
theorem gX5_askAll_X1_read : GoodIn wsX5_askAll (wsV RX5 73 RX1 yX1_read wsX1_read) := goodIn_app (goodIn_of _ (by decide +kernel)) ggX5_askAll_X1_read
set_option maxRecDepth 20000 in
theorem ggX5_askAll_X0_record : GoodIn wsX5_askAll wsX0_record := goodIn_r _ [27, 28, 29, 30, 31, 32, 33, 34, 35, 36, 37, 38, 39, 40, 41, 42, 43, 44, 45, 46, 93, 94, 95, 96, 97, 98, 99, 100, 101, 102] (by decide +kernel) (by decide +kernel)
set_option maxRecDepth 20000 in
theorem gX5_askAll_X0_record : GoodIn wsX5_askAll (wsV RX5 69 RX0 yX0_record wsX0_record) := goodIn_app (goodIn_of _ (by decide +kernel)) ggX5_askAll_X0_record
set_option maxRecDepth 20000 in
theorem ggX5_askAll_X5_rememberPicture : GoodIn wsX5_askAll wsX5_rememberPicture := goodIn_r _ [51, 3, 52, 53, 54, 38, 39, 40, 80, 81, 82, 83, 84, 85, 86, 87, 88, 96, 97, 98, 99, 100, 101, 102] (by decide +kernel) (by decide +kernel)
set_option maxRecDepth 20000 in
theorem gX5_askAll_X5_rememberPicture : GoodIn wsX5_askAll (wsV RX5 77 RX5 yX5_rememberPicture wsX5_rememberPicture) := goodIn_app (goodIn_of _ (by decide +kernel)) ggX5_askAll_X5_rememberPicture
set_option maxRecDepth 20000 in
theorem ggX5_askAll_X1_parts : GoodIn wsX5_askAll wsX1_parts := goodIn_r _ [58, 9, 89, 90, 91, 92] (by decide +kernel) (by decide +kernel)
set_option maxRecDepth 20000 in
theorem gX5_askAll_X1_parts : GoodIn wsX5_askAll (wsV RX5 80 RX1 yX1_parts wsX1_parts) := goodIn_app (goodIn_of _ (by decide +kernel)) ggX5_askAll_X1_parts
set_option maxRecDepth 20000 in
theorem ggX5_askAll_X1_number : GoodIn wsX5_askAll wsX1_number := goodIn_r _ [62, 17, 89, 90, 91, 92] (by decide +kernel) (by decide +kernel)
set_option maxRecDepth 20000 in
theorem gX5_askAll_X1_number : GoodIn wsX5_askAll (wsV RX5 83 RX1 yX1_number wsX1_number) := goodIn_app (goodIn_of _ (by decide +kernel)) ggX5_askAll_X1_number
set_option maxRecDepth 20000 in
theorem ggX5_askAll_X3_paint : GoodIn wsX5_askAll wsX3_paint := goodIn_r _ [66, 67, 68, 69, 70, 71, 72, 73, 36, 74, 50, 75, 96, 97, 98, 99, 100, 101, 102] (by decide +kernel) (by decide +kernel)
set_option maxRecDepth 20000 in
theorem gX5_askAll_X3_paint : GoodIn wsX5_askAll (wsV RX5 86 RX3 yX3_paint wsX3_paint) := goodIn_app (goodIn_of _ (by decide +kernel)) ggX5_askAll_X3_paint
set_option maxRecDepth 20000 in
theorem ggX5_askAll_X5_changedSpots : GoodIn wsX5_askAll wsX5_changedSpots := goodIn_r _ [79, 3, 52, 53, 80, 81, 82, 83, 84, 85, 86, 87, 88, 96, 97, 98, 99, 100, 101, 102] (by decide +kernel) (by decide +kernel)
set_option maxRecDepth 20000 in
theorem gX5_askAll_X5_changedSpots : GoodIn wsX5_askAll (wsV RX5 90 RX5 yX5_changedSpots wsX5_changedSpots) := goodIn_app (goodIn_of _ (by decide +kernel)) ggX5_askAll_X5_changedSpots
theorem dX5_askAll_0 : decode cX5_askAll 0 = .ok (.aload_n 0, 1) := by decide +kernel
theorem dX5_askAll_1 : decode cX5_askAll 1 = .ok (.getfield 33, 3) := by decide +kernel
theorem dX5_askAll_4 : decode cX5_askAll 4 = .ok (.invokevirtual 73, 3) := by decide +kernel
theorem dX5_askAll_7 : decode cX5_askAll 7 = .ok (.istore_n 1, 1) := by decide +kernel
theorem dX5_askAll_8 : decode cX5_askAll 8 = .ok (.iload_n 1, 1) := by decide +kernel
theorem dX5_askAll_9 : decode cX5_askAll 9 = .ok (.bipush (-5), 2) := by decide +kernel
theorem dX5_askAll_11 : decode cX5_askAll 11 = .ok (.if_icmp .eq 8, 3) := by decide +kernel
theorem dX5_askAll_14 : decode cX5_askAll 14 = .ok (.bipush (-100), 2) := by decide +kernel
theorem dX5_askAll_16 : decode cX5_askAll 16 = .ok (.iload_n 1, 1) := by decide +kernel
theorem dX5_askAll_17 : decode cX5_askAll 17 = .ok (.isub, 1) := by decide +kernel
theorem dX5_askAll_18 : decode cX5_askAll 18 = .ok (.ireturn, 1) := by decide +kernel
theorem dX5_askAll_19 : decode cX5_askAll 19 = .ok (.aload_n 0, 1) := by decide +kernel
theorem dX5_askAll_20 : decode cX5_askAll 20 = .ok (.getfield 26, 3) := by decide +kernel
theorem dX5_askAll_23 : decode cX5_askAll 23 = .ok (.aload_n 0, 1) := by decide +kernel
theorem dX5_askAll_24 : decode cX5_askAll 24 = .ok (.getfield 12, 3) := by decide +kernel
theorem dX5_askAll_27 : decode cX5_askAll 27 = .ok (.invokevirtual 69, 3) := by decide +kernel
theorem dX5_askAll_30 : decode cX5_askAll 30 = .ok (.aload_n 0, 1) := by decide +kernel
theorem dX5_askAll_31 : decode cX5_askAll 31 = .ok (.invokevirtual 77, 3) := by decide +kernel
theorem dX5_askAll_34 : decode cX5_askAll 34 = .ok (.iconst 0, 1) := by decide +kernel
theorem dX5_askAll_35 : decode cX5_askAll 35 = .ok (.istore_n 2, 1) := by decide +kernel
theorem dX5_askAll_36 : decode cX5_askAll 36 = .ok (.iload_n 2, 1) := by decide +kernel
theorem dX5_askAll_37 : decode cX5_askAll 37 = .ok (.aload_n 0, 1) := by decide +kernel
theorem dX5_askAll_38 : decode cX5_askAll 38 = .ok (.getfield 33, 3) := by decide +kernel
theorem dX5_askAll_41 : decode cX5_askAll 41 = .ok (.invokevirtual 80, 3) := by decide +kernel
theorem dX5_askAll_44 : decode cX5_askAll 44 = .ok (.if_icmp .ge 61, 3) := by decide +kernel
theorem dX5_askAll_47 : decode cX5_askAll 47 = .ok (.aload_n 0, 1) := by decide +kernel
theorem dX5_askAll_48 : decode cX5_askAll 48 = .ok (.getfield 12, 3) := by decide +kernel
theorem dX5_askAll_51 : decode cX5_askAll 51 = .ok (.aload_n 0, 1) := by decide +kernel
theorem dX5_askAll_52 : decode cX5_askAll 52 = .ok (.getfield 33, 3) := by decide +kernel
theorem dX5_askAll_55 : decode cX5_askAll 55 = .ok (.iload_n 2, 1) := by decide +kernel
theorem dX5_askAll_56 : decode cX5_askAll 56 = .ok (.iconst 0, 1) := by decide +kernel
theorem dX5_askAll_57 : decode cX5_askAll 57 = .ok (.invokevirtual 83, 3) := by decide +kernel
theorem dX5_askAll_60 : decode cX5_askAll 60 = .ok (.aload_n 0, 1) := by decide +kernel
theorem dX5_askAll_61 : decode cX5_askAll 61 = .ok (.getfield 33, 3) := by decide +kernel
theorem dX5_askAll_64 : decode cX5_askAll 64 = .ok (.iload_n 2, 1) := by decide +kernel
theorem dX5_askAll_65 : decode cX5_askAll 65 = .ok (.iconst 1, 1) := by decide +kernel
theorem dX5_askAll_66 : decode cX5_askAll 66 = .ok (.invokevirtual 83, 3) := by decide +kernel
theorem dX5_askAll_69 : decode cX5_askAll 69 = .ok (.aload_n 0, 1) := by decide +kernel
theorem dX5_askAll_70 : decode cX5_askAll 70 = .ok (.getfield 33, 3) := by decide +kernel
theorem dX5_askAll_73 : decode cX5_askAll 73 = .ok (.iload_n 2, 1) := by decide +kernel
theorem dX5_askAll_74 : decode cX5_askAll 74 = .ok (.iconst 2, 1) := by decide +kernel
theorem dX5_askAll_75 : decode cX5_askAll 75 = .ok (.invokevirtual 83, 3) := by decide +kernel
theorem dX5_askAll_78 : decode cX5_askAll 78 = .ok (.aload_n 0, 1) := by decide +kernel
