set_option maxRecDepth 20000 in
theorem ggX6_zone_X6_over : GoodIn wsX6_zone wsX6_over := goodIn_r _ [78, 1, 41, 42, 43, 4, 44, 14, 45, 46, 47, 48, 49, 50, 51, 52, 53, 54, 34, 35, 36, 27, 28, 29, 79, 80, 81, 82, 83, 84, 85, 71, 72, 73, 74, 86, 87, 88, 89, 90, 91, 92, 93, 94, 95] (by decide +kernel) (by decide +kernel)
set_option maxRecDepth 20000 in
theorem gX6_zone_X6_over : GoodIn wsX6_zone (wsV RX6 182 RX6 yX6_over wsX6_over) := goodIn_app (goodIn_of _ (by decide +kernel)) ggX6_zone_X6_over
theorem dX6_zone_0 : decode cX6_zone 0 = .ok (.iload_n 1, 1) := by decide +kernel
theorem dX6_zone_1 : decode cX6_zone 1 = .ok (.invokestatic 118, 3) := by decide +kernel
theorem dX6_zone_4 : decode cX6_zone 4 = .ok (.ifCond .ne 5, 3) := by decide +kernel
theorem dX6_zone_7 : decode cX6_zone 7 = .ok (.iconst (-1), 1) := by decide +kernel
theorem dX6_zone_8 : decode cX6_zone 8 = .ok (.ireturn, 1) := by decide +kernel
theorem dX6_zone_9 : decode cX6_zone 9 = .ok (.iload_n 2, 1) := by decide +kernel
theorem dX6_zone_10 : decode cX6_zone 10 = .ok (.tableswitch 119 0 8 #[50, 61, 67, 74, 85, 91, 97, 108, 108], 50) := by decide +kernel
theorem dX6_zone_60 : decode cX6_zone 60 = .ok (.aload_n 0, 1) := by decide +kernel
theorem dX6_zone_61 : decode cX6_zone 61 = .ok (.getfield 7, 3) := by decide +kernel
theorem dX6_zone_64 : decode cX6_zone 64 = .ok (.sipush 288, 3) := by decide +kernel
theorem dX6_zone_67 : decode cX6_zone 67 = .ok (.iload_n 1, 1) := by decide +kernel
theorem dX6_zone_68 : decode cX6_zone 68 = .ok (.iadd, 1) := by decide +kernel
theorem dX6_zone_69 : decode cX6_zone 69 = .ok (.iaload, 1) := by decide +kernel
theorem dX6_zone_70 : decode cX6_zone 70 = .ok (.ireturn, 1) := by decide +kernel
theorem dX6_zone_71 : decode cX6_zone 71 = .ok (.aload_n 0, 1) := by decide +kernel
theorem dX6_zone_72 : decode cX6_zone 72 = .ok (.iload_n 1, 1) := by decide +kernel
theorem dX6_zone_73 : decode cX6_zone 73 = .ok (.invokevirtual 179, 3) := by decide +kernel
theorem dX6_zone_76 : decode cX6_zone 76 = .ok (.ireturn, 1) := by decide +kernel
theorem dX6_zone_77 : decode cX6_zone 77 = .ok (.aload_n 0, 1) := by decide +kernel
theorem dX6_zone_78 : decode cX6_zone 78 = .ok (.iload_n 1, 1) := by decide +kernel
theorem dX6_zone_79 : decode cX6_zone 79 = .ok (.iconst 0, 1) := by decide +kernel
theorem dX6_zone_80 : decode cX6_zone 80 = .ok (.invokevirtual 79, 3) := by decide +kernel
theorem dX6_zone_83 : decode cX6_zone 83 = .ok (.ireturn, 1) := by decide +kernel
theorem dX6_zone_84 : decode cX6_zone 84 = .ok (.aload_n 0, 1) := by decide +kernel
theorem dX6_zone_85 : decode cX6_zone 85 = .ok (.getfield 7, 3) := by decide +kernel
theorem dX6_zone_88 : decode cX6_zone 88 = .ok (.sipush 306, 3) := by decide +kernel
theorem dX6_zone_91 : decode cX6_zone 91 = .ok (.iload_n 1, 1) := by decide +kernel
theorem dX6_zone_92 : decode cX6_zone 92 = .ok (.iadd, 1) := by decide +kernel
theorem dX6_zone_93 : decode cX6_zone 93 = .ok (.iaload, 1) := by decide +kernel
theorem dX6_zone_94 : decode cX6_zone 94 = .ok (.ireturn, 1) := by decide +kernel
theorem dX6_zone_95 : decode cX6_zone 95 = .ok (.aload_n 0, 1) := by decide +kernel
theorem dX6_zone_96 : decode cX6_zone 96 = .ok (.iload_n 1, 1) := by decide +kernel
theorem dX6_zone_97 : decode cX6_zone 97 = .ok (.invokevirtual 65, 3) := by decide +kernel
theorem dX6_zone_100 : decode cX6_zone 100 = .ok (.ireturn, 1) := by decide +kernel
theorem dX6_zone_101 : decode cX6_zone 101 = .ok (.aload_n 0, 1) := by decide +kernel
theorem dX6_zone_102 : decode cX6_zone 102 = .ok (.iload_n 1, 1) := by decide +kernel
theorem dX6_zone_103 : decode cX6_zone 103 = .ok (.invokevirtual 68, 3) := by decide +kernel
theorem dX6_zone_106 : decode cX6_zone 106 = .ok (.ireturn, 1) := by decide +kernel
theorem dX6_zone_107 : decode cX6_zone 107 = .ok (.aload_n 0, 1) := by decide +kernel
theorem dX6_zone_108 : decode cX6_zone 108 = .ok (.aload_n 0, 1) := by decide +kernel
theorem dX6_zone_109 : decode cX6_zone 109 = .ok (.iload_n 1, 1) := by decide +kernel
theorem dX6_zone_110 : decode cX6_zone 110 = .ok (.iconst 0, 1) := by decide +kernel
theorem dX6_zone_111 : decode cX6_zone 111 = .ok (.invokevirtual 79, 3) := by decide +kernel
theorem dX6_zone_114 : decode cX6_zone 114 = .ok (.invokevirtual 59, 3) := by decide +kernel
theorem dX6_zone_117 : decode cX6_zone 117 = .ok (.ireturn, 1) := by decide +kernel
theorem dX6_zone_118 : decode cX6_zone 118 = .ok (.aload_n 0, 1) := by decide +kernel
theorem dX6_zone_119 : decode cX6_zone 119 = .ok (.iload_n 1, 1) := by decide +kernel
theorem dX6_zone_120 : decode cX6_zone 120 = .ok (.iload_n 2, 1) := by decide +kernel
theorem dX6_zone_121 : decode cX6_zone 121 = .ok (.bipush 6, 2) := by decide +kernel
theorem dX6_zone_123 : decode cX6_zone 123 = .ok (.isub, 1) := by decide +kernel
theorem dX6_zone_124 : decode cX6_zone 124 = .ok (.iconst 0, 1) := by decide +kernel
theorem dX6_zone_125 : decode cX6_zone 125 = .ok (.invokevirtual 182, 3) := by decide +kernel
theorem dX6_zone_128 : decode cX6_zone 128 = .ok (.ireturn, 1) := by decide +kernel
theorem dX6_zone_129 : decode cX6_zone 129 = .ok (.bipush (-2), 2) := by decide +kernel
theorem dX6_zone_131 : decode cX6_zone 131 = .ok (.ireturn, 1) := by decide +kernel
theorem dX6_deadZones_0 : decode cX6_deadZones 0 = .ok (.iconst 0, 1) := by decide +kernel
theorem dX6_deadZones_1 : decode cX6_deadZones 1 = .ok (.istore_n 1, 1) := by decide +kernel
theorem dX6_deadZones_2 : decode cX6_deadZones 2 = .ok (.iconst 0, 1) := by decide +kernel
theorem dX6_deadZones_3 : decode cX6_deadZones 3 = .ok (.istore_n 2, 1) := by decide +kernel
theorem dX6_deadZones_4 : decode cX6_deadZones 4 = .ok (.iload_n 2, 1) := by decide +kernel
theorem dX6_deadZones_5 : decode cX6_deadZones 5 = .ok (.bipush 18, 2) := by decide +kernel
theorem dX6_deadZones_7 : decode cX6_deadZones 7 = .ok (.if_icmp .ge 22, 3) := by decide +kernel
theorem dX6_deadZones_10 : decode cX6_deadZones 10 = .ok (.iload_n 1, 1) := by decide +kernel
theorem dX6_deadZones_11 : decode cX6_deadZones 11 = .ok (.aload_n 0, 1) := by decide +kernel
theorem dX6_deadZones_12 : decode cX6_deadZones 12 = .ok (.getfield 7, 3) := by decide +kernel
theorem dX6_deadZones_15 : decode cX6_deadZones 15 = .ok (.sipush 306, 3) := by decide +kernel
theorem dX6_deadZones_18 : decode cX6_deadZones 18 = .ok (.iload_n 2, 1) := by decide +kernel
theorem dX6_deadZones_19 : decode cX6_deadZones 19 = .ok (.iadd, 1) := by decide +kernel
theorem dX6_deadZones_20 : decode cX6_deadZones 20 = .ok (.iaload, 1) := by decide +kernel
theorem dX6_deadZones_21 : decode cX6_deadZones 21 = .ok (.iadd, 1) := by decide +kernel
theorem dX6_deadZones_22 : decode cX6_deadZones 22 = .ok (.istore_n 1, 1) := by decide +kernel
theorem dX6_deadZones_23 : decode cX6_deadZones 23 = .ok (.iinc 2 1, 3) := by decide +kernel
theorem dX6_deadZones_26 : decode cX6_deadZones 26 = .ok (.goto (-22), 3) := by decide +kernel
theorem dX6_deadZones_29 : decode cX6_deadZones 29 = .ok (.iload_n 1, 1) := by decide +kernel
theorem dX6_deadZones_30 : decode cX6_deadZones 30 = .ok (.ireturn, 1) := by decide +kernel
set_option maxRecDepth 20000 in
theorem ggX6_count_X6_power : GoodIn wsX6_count wsX6_power := goodIn_r _ [10, 11, 1, 94, 95, 96, 97, 98, 99, 100, 101, 102, 103] (by decide +kernel) (by decide +kernel)
set_option maxRecDepth 20000 in
theorem gX6_count_X6_power : GoodIn wsX6_count (wsV RX6 121 RX6 yX6_power wsX6_power) := goodIn_app (goodIn_of _ (by decide +kernel)) ggX6_count_X6_power
set_option maxRecDepth 20000 in
theorem ggX6_count_X6_over : GoodIn wsX6_count wsX6_over := goodIn_r _ [15, 1, 16, 17, 18, 9, 19, 11, 20, 21, 22, 23, 24, 25, 26, 27, 28, 29, 30, 31, 32, 33, 34, 35, 36, 37, 38, 39, 40, 41, 42, 43, 44, 45, 46, 94, 95, 96, 97, 98, 99, 100, 101, 102, 103] (by decide +kernel) (by decide +kernel)
set_option maxRecDepth 20000 in
theorem gX6_count_X6_over : GoodIn wsX6_count (wsV RX6 182 RX6 yX6_over wsX6_over) := goodIn_app (goodIn_of _ (by decide +kernel)) ggX6_count_X6_over
set_option maxRecDepth 20000 in
theorem ggX6_count_X6_deadZones : GoodIn wsX6_count wsX6_deadZones := goodIn_r _ [50, 1, 94, 95, 96, 97, 98, 99, 100, 101, 102, 103] (by decide +kernel) (by decide +kernel)
set_option maxRecDepth 20000 in
theorem gX6_count_X6_deadZones : GoodIn wsX6_count (wsV RX6 186 RX6 yX6_deadZones wsX6_deadZones) := goodIn_app (goodIn_of _ (by decide +kernel)) ggX6_count_X6_deadZones
set_option maxRecDepth 20000 in
theorem ggX6_count_X6_farthest : GoodIn wsX6_count wsX6_farthest := goodIn_r _ [54, 1, 11, 55, 56, 57, 9, 58, 59, 60, 61, 62, 63, 64, 65, 66, 33, 34, 35, 67, 68, 69, 70, 30, 31, 32, 71, 72, 73, 74, 16, 17, 18, 19, 20, 21, 22, 23, 24, 25, 26, 27, 28, 29, 75, 76, 77, 78, 79, 80, 81, 82, 83, 84, 85, 86, 87, 88, 89, 90, 43, 44, 45, 46, 94, 95, 96, 97, 98, 99, 100, 101, 102, 103] (by decide +kernel) (by decide +kernel)
set_option maxRecDepth 20000 in
theorem gX6_count_X6_farthest : GoodIn wsX6_count (wsV RX6 189 RX6 yX6_farthest wsX6_farthest) := goodIn_app (goodIn_of _ (by decide +kernel)) ggX6_count_X6_farthest
set_option maxRecDepth 20000 in
theorem ggX6_count_X6_in : GoodIn wsX6_count wsX6_in := goodIn_r _ [93] (by decide +kernel) (by decide +kernel)
set_option maxRecDepth 20000 in
theorem gX6_count_X6_in : GoodIn wsX6_count (va_wsS RX6 34 yX6_in wsX6_in) := goodIn_app (goodIn_of _ (by decide +kernel)) ggX6_count_X6_in
theorem dX6_count_0 : decode cX6_count 0 = .ok (.iload_n 1, 1) := by decide +kernel
theorem dX6_count_1 : decode cX6_count 1 = .ok (.tableswitch 139 0 12 #[67, 76, 82, 91, 100, 100, 100, 100, 100, 111, 116, 129, 134], 67) := by decide +kernel
theorem dX6_count_68 : decode cX6_count 68 = .ok (.aload_n 0, 1) := by decide +kernel
theorem dX6_count_69 : decode cX6_count 69 = .ok (.getfield 7, 3) := by decide +kernel
theorem dX6_count_72 : decode cX6_count 72 = .ok (.sipush 332, 3) := by decide +kernel
theorem dX6_count_75 : decode cX6_count 75 = .ok (.iaload, 1) := by decide +kernel
theorem dX6_count_76 : decode cX6_count 76 = .ok (.ireturn, 1) := by decide +kernel
theorem dX6_count_77 : decode cX6_count 77 = .ok (.aload_n 0, 1) := by decide +kernel
theorem dX6_count_78 : decode cX6_count 78 = .ok (.iconst 0, 1) := by decide +kernel
theorem dX6_count_79 : decode cX6_count 79 = .ok (.invokevirtual 121, 3) := by decide +kernel
theorem dX6_count_82 : decode cX6_count 82 = .ok (.ireturn, 1) := by decide +kernel
theorem dX6_count_83 : decode cX6_count 83 = .ok (.aload_n 0, 1) := by decide +kernel
theorem dX6_count_84 : decode cX6_count 84 = .ok (.getfield 7, 3) := by decide +kernel
theorem dX6_count_87 : decode cX6_count 87 = .ok (.sipush 333, 3) := by decide +kernel
theorem dX6_count_90 : decode cX6_count 90 = .ok (.iaload, 1) := by decide +kernel
theorem dX6_count_91 : decode cX6_count 91 = .ok (.ireturn, 1) := by decide +kernel
theorem dX6_count_92 : decode cX6_count 92 = .ok (.aload_n 0, 1) := by decide +kernel
theorem dX6_count_93 : decode cX6_count 93 = .ok (.getfield 7, 3) := by decide +kernel
theorem dX6_count_96 : decode cX6_count 96 = .ok (.sipush 334, 3) := by decide +kernel
theorem dX6_count_99 : decode cX6_count 99 = .ok (.iaload, 1) := by decide +kernel
theorem dX6_count_100 : decode cX6_count 100 = .ok (.ireturn, 1) := by decide +kernel
theorem dX6_count_101 : decode cX6_count 101 = .ok (.aload_n 0, 1) := by decide +kernel
theorem dX6_count_102 : decode cX6_count 102 = .ok (.bipush (-5), 2) := by decide +kernel
theorem dX6_count_104 : decode cX6_count 104 = .ok (.iload_n 1, 1) := by decide +kernel
theorem dX6_count_105 : decode cX6_count 105 = .ok (.iconst 4, 1) := by decide +kernel
theorem dX6_count_106 : decode cX6_count 106 = .ok (.isub, 1) := by decide +kernel
theorem dX6_count_107 : decode cX6_count 107 = .ok (.iconst 0, 1) := by decide +kernel
theorem dX6_count_108 : decode cX6_count 108 = .ok (.invokevirtual 182, 3) := by decide +kernel
theorem dX6_count_111 : decode cX6_count 111 = .ok (.ireturn, 1) := by decide +kernel
theorem dX6_count_112 : decode cX6_count 112 = .ok (.aload_n 0, 1) := by decide +kernel
theorem dX6_count_113 : decode cX6_count 113 = .ok (.invokevirtual 186, 3) := by decide +kernel
theorem dX6_count_116 : decode cX6_count 116 = .ok (.ireturn, 1) := by decide +kernel
theorem dX6_count_117 : decode cX6_count 117 = .ok (.aload_n 0, 1) := by decide +kernel
theorem dX6_count_118 : decode cX6_count 118 = .ok (.invokevirtual 189, 3) := by decide +kernel
theorem dX6_count_121 : decode cX6_count 121 = .ok (.ifCond .ne 7, 3) := by decide +kernel
theorem dX6_count_124 : decode cX6_count 124 = .ok (.iconst 1, 1) := by decide +kernel
theorem dX6_count_125 : decode cX6_count 125 = .ok (.goto 4, 3) := by decide +kernel
theorem dX6_count_128 : decode cX6_count 128 = .ok (.iconst 0, 1) := by decide +kernel
theorem dX6_count_129 : decode cX6_count 129 = .ok (.ireturn, 1) := by decide +kernel
theorem dX6_count_130 : decode cX6_count 130 = .ok (.aload_n 0, 1) := by decide +kernel
theorem dX6_count_131 : decode cX6_count 131 = .ok (.getfield 28, 3) := by decide +kernel
theorem dX6_count_134 : decode cX6_count 134 = .ok (.ireturn, 1) := by decide +kernel
theorem dX6_count_135 : decode cX6_count 135 = .ok (.aload_n 0, 1) := by decide +kernel
theorem dX6_count_136 : decode cX6_count 136 = .ok (.getfield 147, 3) := by decide +kernel
theorem dX6_count_139 : decode cX6_count 139 = .ok (.ireturn, 1) := by decide +kernel
theorem dX6_count_140 : decode cX6_count 140 = .ok (.iload_n 1, 1) := by decide +kernel
theorem dX6_count_141 : decode cX6_count 141 = .ok (.i2l, 1) := by decide +kernel
theorem dX6_count_142 : decode cX6_count 142 = .ok (.ldc2_w 192, 3) := by decide +kernel
theorem dX6_count_145 : decode cX6_count 145 = .ok (.ldc2_w 142, 3) := by decide +kernel
theorem dX6_count_148 : decode cX6_count 148 = .ok (.invokestatic 34, 3) := by decide +kernel
theorem dX6_count_151 : decode cX6_count 151 = .ok (.ifCond .eq 19, 3) := by decide +kernel
theorem dX6_count_154 : decode cX6_count 154 = .ok (.aload_n 0, 1) := by decide +kernel
theorem dX6_count_155 : decode cX6_count 155 = .ok (.getfield 7, 3) := by decide +kernel
theorem dX6_count_158 : decode cX6_count 158 = .ok (.sipush 324, 3) := by decide +kernel
theorem dX6_count_161 : decode cX6_count 161 = .ok (.iload_n 1, 1) := by decide +kernel
theorem dX6_count_162 : decode cX6_count 162 = .ok (.iadd, 1) := by decide +kernel
theorem dX6_count_163 : decode cX6_count 163 = .ok (.bipush 13, 2) := by decide +kernel
theorem dX6_count_165 : decode cX6_count 165 = .ok (.isub, 1) := by decide +kernel
theorem dX6_count_166 : decode cX6_count 166 = .ok (.iaload, 1) := by decide +kernel
theorem dX6_count_167 : decode cX6_count 167 = .ok (.goto 5, 3) := by decide +kernel
theorem dX6_count_170 : decode cX6_count 170 = .ok (.bipush (-2), 2) := by decide +kernel
theorem dX6_count_172 : decode cX6_count 172 = .ok (.ireturn, 1) := by decide +kernel
set_option maxRecDepth 20000 in
theorem ggX6_meanShown_X6_over : GoodIn wsX6_meanShown wsX6_over := goodIn_r _ [6, 7, 8, 9, 10, 5, 11, 12, 13, 14, 15, 16, 17, 18, 19, 20, 21, 22, 23, 24, 25, 26, 27, 28, 29, 30, 31, 32, 33, 34, 35, 36, 37, 38, 39, 40, 41, 42, 43, 44, 45, 46, 47, 48, 49] (by decide +kernel) (by decide +kernel)
set_option maxRecDepth 20000 in
theorem gX6_meanShown_X6_over : GoodIn wsX6_meanShown (wsV RX6 182 RX6 yX6_over wsX6_over) := goodIn_app (goodIn_of _ (by decide +kernel)) ggX6_meanShown_X6_over
theorem dX6_meanShown_0 : decode cX6_meanShown 0 = .ok (.aload_n 0, 1) := by decide +kernel
theorem dX6_meanShown_1 : decode cX6_meanShown 1 = .ok (.bipush (-5), 2) := by decide +kernel
theorem dX6_meanShown_3 : decode cX6_meanShown 3 = .ok (.iconst 5, 1) := by decide +kernel
theorem dX6_meanShown_4 : decode cX6_meanShown 4 = .ok (.iconst 0, 1) := by decide +kernel
theorem dX6_meanShown_5 : decode cX6_meanShown 5 = .ok (.invokevirtual 182, 3) := by decide +kernel
theorem dX6_meanShown_8 : decode cX6_meanShown 8 = .ok (.i2d, 1) := by decide +kernel
theorem dX6_meanShown_9 : decode cX6_meanShown 9 = .ok (.ldc2_w 194, 3) := by decide +kernel
theorem dX6_meanShown_12 : decode cX6_meanShown 12 = .ok (.ddiv, 1) := by decide +kernel
theorem dX6_meanShown_13 : decode cX6_meanShown 13 = .ok (.dreturn, 1) := by decide +kernel
set_option maxRecDepth 20000 in
theorem ggX6_restsIn_X6_farthest : GoodIn wsX6_restsIn wsX6_farthest := goodIn_r _ [6, 1, 7, 8, 9, 10, 5, 11, 12, 13, 14, 15, 16, 17, 18, 19, 20, 21, 22, 23, 24, 25, 26, 27, 28, 29, 30, 31, 32, 33, 34, 35, 36, 37, 38, 39, 40, 41, 42, 43, 44, 45, 46, 47, 48, 49, 50, 51, 52, 53, 54, 55, 56, 57, 58, 59, 60, 61, 62, 63, 64, 65, 66, 67, 68, 69, 70, 71, 72, 73, 74, 75, 76, 77] (by decide +kernel) (by decide +kernel)
set_option maxRecDepth 20000 in
theorem gX6_restsIn_X6_farthest : GoodIn wsX6_restsIn (wsV RX6 189 RX6 yX6_farthest wsX6_farthest) := goodIn_app (goodIn_of _ (by decide +kernel)) ggX6_restsIn_X6_farthest
theorem dX6_restsIn_0 : decode cX6_restsIn 0 = .ok (.aload_n 0, 1) := by decide +kernel
theorem dX6_restsIn_1 : decode cX6_restsIn 1 = .ok (.invokevirtual 189, 3) := by decide +kernel
theorem dX6_restsIn_4 : decode cX6_restsIn 4 = .ok (.aload_n 0, 1) := by decide +kernel
theorem dX6_restsIn_5 : decode cX6_restsIn 5 = .ok (.getfield 7, 3) := by decide +kernel
theorem dX6_restsIn_8 : decode cX6_restsIn 8 = .ok (.sipush 331, 3) := by decide +kernel
theorem dX6_restsIn_11 : decode cX6_restsIn 11 = .ok (.iaload, 1) := by decide +kernel
theorem dX6_restsIn_12 : decode cX6_restsIn 12 = .ok (.iadd, 1) := by decide +kernel
theorem dX6_restsIn_13 : decode cX6_restsIn 13 = .ok (.iconst 1, 1) := by decide +kernel
theorem dX6_restsIn_14 : decode cX6_restsIn 14 = .ok (.isub, 1) := by decide +kernel
theorem dX6_restsIn_15 : decode cX6_restsIn 15 = .ok (.aload_n 0, 1) := by decide +kernel
theorem dX6_restsIn_16 : decode cX6_restsIn 16 = .ok (.getfield 7, 3) := by decide +kernel
theorem dX6_restsIn_19 : decode cX6_restsIn 19 = .ok (.sipush 331, 3) := by decide +kernel
theorem dX6_restsIn_22 : decode cX6_restsIn 22 = .ok (.iaload, 1) := by decide +kernel
theorem dX6_restsIn_23 : decode cX6_restsIn 23 = .ok (.idiv, 1) := by decide +kernel
theorem dX6_restsIn_24 : decode cX6_restsIn 24 = .ok (.ireturn, 1) := by decide +kernel
set_option maxRecDepth 20000 in
theorem ggX6_rested_X6_power : GoodIn wsX6_rested wsX6_power := goodIn_r _ [5, 6, 7, 43, 44, 45, 46, 47, 48, 49, 50, 51, 52] (by decide +kernel) (by decide +kernel)
set_option maxRecDepth 20000 in
theorem gX6_rested_X6_power : GoodIn wsX6_rested (wsV RX6 121 RX6 yX6_power wsX6_power) := goodIn_app (goodIn_of _ (by decide +kernel)) ggX6_rested_X6_power
set_option maxRecDepth 20000 in
theorem ggX6_rested_X6_over : GoodIn wsX6_rested wsX6_over := goodIn_r _ [11, 7, 12, 13, 14, 4, 15, 6, 16, 17, 18, 19, 20, 21, 22, 23, 24, 25, 26, 27, 28, 29, 30, 31, 32, 33, 34, 35, 36, 37, 38, 39, 40, 41, 42, 43, 44, 45, 46, 47, 48, 49, 50, 51, 52] (by decide +kernel) (by decide +kernel)
set_option maxRecDepth 20000 in
theorem gX6_rested_X6_over : GoodIn wsX6_rested (wsV RX6 182 RX6 yX6_over wsX6_over) := goodIn_app (goodIn_of _ (by decide +kernel)) ggX6_rested_X6_over
theorem dX6_rested_0 : decode cX6_rested 0 = .ok (.iload_n 1, 1) := by decide +kernel
theorem dX6_rested_1 : decode cX6_rested 1 = .ok (.ifCond .ne 11, 3) := by decide +kernel
theorem dX6_rested_4 : decode cX6_rested 4 = .ok (.aload_n 0, 1) := by decide +kernel
theorem dX6_rested_5 : decode cX6_rested 5 = .ok (.iconst 1, 1) := by decide +kernel
theorem dX6_rested_6 : decode cX6_rested 6 = .ok (.invokevirtual 121, 3) := by decide +kernel
theorem dX6_rested_9 : decode cX6_rested 9 = .ok (.goto 22, 3) := by decide +kernel
theorem dX6_rested_12 : decode cX6_rested 12 = .ok (.aload_n 0, 1) := by decide +kernel
theorem dX6_rested_13 : decode cX6_rested 13 = .ok (.bipush (-5), 2) := by decide +kernel
theorem dX6_rested_15 : decode cX6_rested 15 = .ok (.iload_n 1, 1) := by decide +kernel
theorem dX6_rested_16 : decode cX6_rested 16 = .ok (.iconst 1, 1) := by decide +kernel
theorem dX6_rested_17 : decode cX6_rested 17 = .ok (.if_icmp .ne 7, 3) := by decide +kernel
theorem dX6_rested_20 : decode cX6_rested 20 = .ok (.iconst 3, 1) := by decide +kernel
theorem dX6_rested_21 : decode cX6_rested 21 = .ok (.goto 6, 3) := by decide +kernel
theorem dX6_rested_24 : decode cX6_rested 24 = .ok (.iload_n 1, 1) := by decide +kernel
theorem dX6_rested_25 : decode cX6_rested 25 = .ok (.iconst 1, 1) := by decide +kernel
theorem dX6_rested_26 : decode cX6_rested 26 = .ok (.isub, 1) := by decide +kernel
theorem dX6_rested_27 : decode cX6_rested 27 = .ok (.iconst 1, 1) := by decide +kernel
theorem dX6_rested_28 : decode cX6_rested 28 = .ok (.invokevirtual 182, 3) := by decide +kernel
theorem dX6_rested_31 : decode cX6_rested 31 = .ok (.ireturn, 1) := by decide +kernel
set_option maxRecDepth 20000 in
theorem ggX6_ifRule_X6_in : GoodIn wsX6_ifRule wsX6_in := goodIn_r _ [6] (by decide +kernel) (by decide +kernel)
set_option maxRecDepth 20000 in
theorem gX6_ifRule_X6_in : GoodIn wsX6_ifRule (va_wsS RX6 34 yX6_in wsX6_in) := goodIn_app (goodIn_of _ (by decide +kernel)) ggX6_ifRule_X6_in
set_option maxRecDepth 20000 in
theorem ggX6_ifRule_X6_wants : GoodIn wsX6_ifRule wsX6_wants := goodIn_r _ [10, 11, 12, 13, 14, 15, 5, 16, 17, 18, 19, 20, 21, 22, 23, 24, 25, 26, 27, 28, 29, 30, 31, 32, 33, 34, 35, 36, 37, 38, 39, 40, 41, 42, 43, 44, 45, 46, 47, 48, 49, 50, 51, 52, 53, 54, 55, 56, 57, 58, 59, 60, 61, 62, 63, 64, 65, 66, 67, 68, 88, 89, 90, 91, 92, 93, 94, 95, 96, 97] (by decide +kernel) (by decide +kernel)
set_option maxRecDepth 20000 in
theorem gX6_ifRule_X6_wants : GoodIn wsX6_ifRule (wsV RX6 100 RX6 yX6_wants wsX6_wants) := goodIn_app (goodIn_of _ (by decide +kernel)) ggX6_ifRule_X6_wants
set_option maxRecDepth 20000 in
theorem ggX6_ifRule_X6_rested : GoodIn wsX6_ifRule wsX6_rested := goodIn_r _ [72, 73, 74, 75, 5, 76, 11, 12, 77, 78, 79, 80, 35, 36, 37, 38, 39, 40, 41, 42, 43, 44, 45, 46, 47, 48, 28, 29, 30, 21, 22, 23, 81, 82, 83, 84, 85, 86, 87, 65, 66, 67, 68, 88, 89, 90, 91, 92, 93, 94, 95, 96, 97] (by decide +kernel) (by decide +kernel)
set_option maxRecDepth 20000 in
theorem gX6_ifRule_X6_rested : GoodIn wsX6_ifRule (wsV RX6 196 RX6 yX6_rested wsX6_rested) := goodIn_app (goodIn_of _ (by decide +kernel)) ggX6_ifRule_X6_rested
theorem dX6_ifRule_0 : decode cX6_ifRule 0 = .ok (.iload_n 1, 1) := by decide +kernel
theorem dX6_ifRule_1 : decode cX6_ifRule 1 = .ok (.i2l, 1) := by decide +kernel
theorem dX6_ifRule_2 : decode cX6_ifRule 2 = .ok (.lconst 0, 1) := by decide +kernel
theorem dX6_ifRule_3 : decode cX6_ifRule 3 = .ok (.ldc2_w 138, 3) := by decide +kernel
theorem dX6_ifRule_6 : decode cX6_ifRule 6 = .ok (.invokestatic 34, 3) := by decide +kernel
theorem dX6_ifRule_9 : decode cX6_ifRule 9 = .ok (.ifCond .eq 15, 3) := by decide +kernel
theorem dX6_ifRule_12 : decode cX6_ifRule 12 = .ok (.iload_n 2, 1) := by decide +kernel
theorem dX6_ifRule_13 : decode cX6_ifRule 13 = .ok (.i2l, 1) := by decide +kernel
theorem dX6_ifRule_14 : decode cX6_ifRule 14 = .ok (.lconst 0, 1) := by decide +kernel
theorem dX6_ifRule_15 : decode cX6_ifRule 15 = .ok (.ldc2_w 112, 3) := by decide +kernel
theorem dX6_ifRule_18 : decode cX6_ifRule 18 = .ok (.invokestatic 34, 3) := by decide +kernel
theorem dX6_ifRule_21 : decode cX6_ifRule 21 = .ok (.ifCond .ne 6, 3) := by decide +kernel
theorem dX6_ifRule_24 : decode cX6_ifRule 24 = .ok (.bipush (-2), 2) := by decide +kernel
theorem dX6_ifRule_26 : decode cX6_ifRule 26 = .ok (.ireturn, 1) := by decide +kernel
theorem dX6_ifRule_27 : decode cX6_ifRule 27 = .ok (.aload_n 0, 1) := by decide +kernel
theorem dX6_ifRule_28 : decode cX6_ifRule 28 = .ok (.iload_n 1, 1) := by decide +kernel
theorem dX6_ifRule_29 : decode cX6_ifRule 29 = .ok (.invokevirtual 100, 3) := by decide +kernel
theorem dX6_ifRule_32 : decode cX6_ifRule 32 = .ok (.aload_n 0, 1) := by decide +kernel
theorem dX6_ifRule_33 : decode cX6_ifRule 33 = .ok (.iload_n 2, 1) := by decide +kernel
theorem dX6_ifRule_34 : decode cX6_ifRule 34 = .ok (.invokevirtual 196, 3) := by decide +kernel
theorem dX6_ifRule_37 : decode cX6_ifRule 37 = .ok (.ireturn, 1) := by decide +kernel
set_option maxRecDepth 20000 in
theorem ggX6_bestRule_X6_wants : GoodIn wsX6_bestRule wsX6_wants := goodIn_r _ [5, 6, 7, 8, 9, 10, 4, 11, 12, 13, 14, 15, 16, 17, 18, 19, 20, 21, 22, 23, 24, 25, 26, 27, 28, 29, 30, 31, 32, 33, 34, 35, 36, 37, 38, 39, 40, 41, 42, 43, 44, 45, 46, 47, 48, 49, 50, 51, 52, 53, 54, 55, 56, 57, 58, 59, 60, 61, 62, 63, 83, 84, 85, 86, 87, 88, 89, 90, 91, 92] (by decide +kernel) (by decide +kernel)
set_option maxRecDepth 20000 in
theorem gX6_bestRule_X6_wants : GoodIn wsX6_bestRule (wsV RX6 100 RX6 yX6_wants wsX6_wants) := goodIn_app (goodIn_of _ (by decide +kernel)) ggX6_bestRule_X6_wants
set_option maxRecDepth 20000 in
theorem ggX6_bestRule_X6_rested : GoodIn wsX6_bestRule wsX6_rested := goodIn_r _ [67, 68, 69, 70, 4, 71, 6, 7, 72, 73, 74, 75, 30, 31, 32, 33, 34, 35, 36, 37, 38, 39, 40, 41, 42, 43, 23, 24, 25, 16, 17, 18, 76, 77, 78, 79, 80, 81, 82, 60, 61, 62, 63, 83, 84, 85, 86, 87, 88, 89, 90, 91, 92] (by decide +kernel) (by decide +kernel)
set_option maxRecDepth 20000 in
theorem gX6_bestRule_X6_rested : GoodIn wsX6_bestRule (wsV RX6 196 RX6 yX6_rested wsX6_rested) := goodIn_app (goodIn_of _ (by decide +kernel)) ggX6_bestRule_X6_rested
theorem dX6_bestRule_0 : decode cX6_bestRule 0 = .ok (.iconst 0, 1) := by decide +kernel
theorem dX6_bestRule_1 : decode cX6_bestRule 1 = .ok (.istore_n 1, 1) := by decide +kernel
theorem dX6_bestRule_2 : decode cX6_bestRule 2 = .ok (.iconst 0, 1) := by decide +kernel
theorem dX6_bestRule_3 : decode cX6_bestRule 3 = .ok (.istore_n 2, 1) := by decide +kernel
theorem dX6_bestRule_4 : decode cX6_bestRule 4 = .ok (.iconst 0, 1) := by decide +kernel
theorem dX6_bestRule_5 : decode cX6_bestRule 5 = .ok (.istore_n 3, 1) := by decide +kernel
theorem dX6_bestRule_6 : decode cX6_bestRule 6 = .ok (.iconst 0, 1) := by decide +kernel
theorem dX6_bestRule_7 : decode cX6_bestRule 7 = .ok (.istore 4, 2) := by decide +kernel
theorem dX6_bestRule_9 : decode cX6_bestRule 9 = .ok (.iload 4, 2) := by decide +kernel
theorem dX6_bestRule_11 : decode cX6_bestRule 11 = .ok (.iconst 3, 1) := by decide +kernel
theorem dX6_bestRule_12 : decode cX6_bestRule 12 = .ok (.if_icmp .ge 95, 3) := by decide +kernel
theorem dX6_bestRule_15 : decode cX6_bestRule 15 = .ok (.aload_n 0, 1) := by decide +kernel
theorem dX6_bestRule_16 : decode cX6_bestRule 16 = .ok (.iload 4, 2) := by decide +kernel
theorem dX6_bestRule_18 : decode cX6_bestRule 18 = .ok (.invokevirtual 100, 3) := by decide +kernel
theorem dX6_bestRule_21 : decode cX6_bestRule 21 = .ok (.aload_n 0, 1) := by decide +kernel
theorem dX6_bestRule_22 : decode cX6_bestRule 22 = .ok (.iconst 1, 1) := by decide +kernel
theorem dX6_bestRule_23 : decode cX6_bestRule 23 = .ok (.invokevirtual 196, 3) := by decide +kernel
theorem dX6_bestRule_26 : decode cX6_bestRule 26 = .ok (.istore 5, 2) := by decide +kernel
theorem dX6_bestRule_28 : decode cX6_bestRule 28 = .ok (.aload_n 0, 1) := by decide +kernel
theorem dX6_bestRule_29 : decode cX6_bestRule 29 = .ok (.iconst 0, 1) := by decide +kernel
theorem dX6_bestRule_30 : decode cX6_bestRule 30 = .ok (.invokevirtual 196, 3) := by decide +kernel
theorem dX6_bestRule_33 : decode cX6_bestRule 33 = .ok (.istore 6, 2) := by decide +kernel
theorem dX6_bestRule_35 : decode cX6_bestRule 35 = .ok (.iload 4, 2) := by decide +kernel
theorem dX6_bestRule_37 : decode cX6_bestRule 37 = .ok (.ifCond .eq 21, 3) := by decide +kernel
theorem dX6_bestRule_40 : decode cX6_bestRule 40 = .ok (.iload 5, 2) := by decide +kernel
theorem dX6_bestRule_42 : decode cX6_bestRule 42 = .ok (.iload_n 2, 1) := by decide +kernel
theorem dX6_bestRule_43 : decode cX6_bestRule 43 = .ok (.if_icmp .lt 15, 3) := by decide +kernel
theorem dX6_bestRule_46 : decode cX6_bestRule 46 = .ok (.iload 5, 2) := by decide +kernel
theorem dX6_bestRule_48 : decode cX6_bestRule 48 = .ok (.iload_n 2, 1) := by decide +kernel
theorem dX6_bestRule_49 : decode cX6_bestRule 49 = .ok (.if_icmp .ne 13, 3) := by decide +kernel
theorem dX6_bestRule_52 : decode cX6_bestRule 52 = .ok (.iload 6, 2) := by decide +kernel
theorem dX6_bestRule_54 : decode cX6_bestRule 54 = .ok (.iload_n 3, 1) := by decide +kernel
theorem dX6_bestRule_55 : decode cX6_bestRule 55 = .ok (.if_icmp .ge 7, 3) := by decide +kernel
theorem dX6_bestRule_58 : decode cX6_bestRule 58 = .ok (.iconst 1, 1) := by decide +kernel
theorem dX6_bestRule_59 : decode cX6_bestRule 59 = .ok (.goto 4, 3) := by decide +kernel
theorem dX6_bestRule_62 : decode cX6_bestRule 62 = .ok (.iconst 0, 1) := by decide +kernel
theorem dX6_bestRule_63 : decode cX6_bestRule 63 = .ok (.istore 7, 2) := by decide +kernel
theorem dX6_bestRule_65 : decode cX6_bestRule 65 = .ok (.iload 7, 2) := by decide +kernel
theorem dX6_bestRule_67 : decode cX6_bestRule 67 = .ok (.ifCond .eq 8, 3) := by decide +kernel
theorem dX6_bestRule_70 : decode cX6_bestRule 70 = .ok (.iload 4, 2) := by decide +kernel
theorem dX6_bestRule_72 : decode cX6_bestRule 72 = .ok (.goto 4, 3) := by decide +kernel
theorem dX6_bestRule_75 : decode cX6_bestRule 75 = .ok (.iload_n 1, 1) := by decide +kernel
theorem dX6_bestRule_76 : decode cX6_bestRule 76 = .ok (.istore_n 1, 1) := by decide +kernel
theorem dX6_bestRule_77 : decode cX6_bestRule 77 = .ok (.iload 7, 2) := by decide +kernel
theorem dX6_bestRule_79 : decode cX6_bestRule 79 = .ok (.ifCond .eq 8, 3) := by decide +kernel
theorem dX6_bestRule_82 : decode cX6_bestRule 82 = .ok (.iload 5, 2) := by decide +kernel
theorem dX6_bestRule_84 : decode cX6_bestRule 84 = .ok (.goto 4, 3) := by decide +kernel
theorem dX6_bestRule_87 : decode cX6_bestRule 87 = .ok (.iload_n 2, 1) := by decide +kernel
theorem dX6_bestRule_88 : decode cX6_bestRule 88 = .ok (.istore_n 2, 1) := by decide +kernel
theorem dX6_bestRule_89 : decode cX6_bestRule 89 = .ok (.iload 7, 2) := by decide +kernel
theorem dX6_bestRule_91 : decode cX6_bestRule 91 = .ok (.ifCond .eq 8, 3) := by decide +kernel
theorem dX6_bestRule_94 : decode cX6_bestRule 94 = .ok (.iload 6, 2) := by decide +kernel
theorem dX6_bestRule_96 : decode cX6_bestRule 96 = .ok (.goto 4, 3) := by decide +kernel
theorem dX6_bestRule_99 : decode cX6_bestRule 99 = .ok (.iload_n 3, 1) := by decide +kernel
theorem dX6_bestRule_100 : decode cX6_bestRule 100 = .ok (.istore_n 3, 1) := by decide +kernel
theorem dX6_bestRule_101 : decode cX6_bestRule 101 = .ok (.iinc 4 1, 3) := by decide +kernel
theorem dX6_bestRule_104 : decode cX6_bestRule 104 = .ok (.goto (-95), 3) := by decide +kernel
theorem dX6_bestRule_107 : decode cX6_bestRule 107 = .ok (.iload_n 1, 1) := by decide +kernel
theorem dX6_bestRule_108 : decode cX6_bestRule 108 = .ok (.ireturn, 1) := by decide +kernel
set_option maxRecDepth 20000 in
theorem ggX6_leastStep_X6_in : GoodIn wsX6_leastStep wsX6_in := goodIn_r _ [5] (by decide +kernel) (by decide +kernel)
set_option maxRecDepth 20000 in
theorem gX6_leastStep_X6_in : GoodIn wsX6_leastStep (va_wsS RX6 34 yX6_in wsX6_in) := goodIn_app (goodIn_of _ (by decide +kernel)) ggX6_leastStep_X6_in
set_option maxRecDepth 20000 in
theorem ggX6_leastStep_X6_farthest : GoodIn wsX6_leastStep wsX6_farthest := goodIn_r _ [9, 10, 11, 12, 13, 14, 4, 15, 16, 17, 18, 19, 20, 21, 22, 23, 24, 25, 26, 27, 28, 29, 30, 31, 32, 33, 34, 35, 36, 37, 38, 39, 40, 41, 42, 43, 44, 45, 46, 47, 48, 49, 50, 51, 52, 53, 54, 55, 56, 57, 58, 59, 60, 61, 62, 63, 64, 65, 66, 67, 68, 69, 70, 71, 72, 73, 74, 75, 76, 77, 78, 79, 80, 81] (by decide +kernel) (by decide +kernel)
set_option maxRecDepth 20000 in
theorem gX6_leastStep_X6_farthest : GoodIn wsX6_leastStep (wsV RX6 189 RX6 yX6_farthest wsX6_farthest) := goodIn_app (goodIn_of _ (by decide +kernel)) ggX6_leastStep_X6_farthest
theorem dX6_leastStep_0 : decode cX6_leastStep 0 = .ok (.iload_n 1, 1) := by decide +kernel
theorem dX6_leastStep_1 : decode cX6_leastStep 1 = .ok (.i2l, 1) := by decide +kernel
theorem dX6_leastStep_2 : decode cX6_leastStep 2 = .ok (.lconst 1, 1) := by decide +kernel
theorem dX6_leastStep_3 : decode cX6_leastStep 3 = .ok (.ldc2_w 107, 3) := by decide +kernel
theorem dX6_leastStep_6 : decode cX6_leastStep 6 = .ok (.invokestatic 34, 3) := by decide +kernel
theorem dX6_leastStep_9 : decode cX6_leastStep 9 = .ok (.ifCond .ne 6, 3) := by decide +kernel
theorem dX6_leastStep_12 : decode cX6_leastStep 12 = .ok (.bipush (-2), 2) := by decide +kernel
theorem dX6_leastStep_14 : decode cX6_leastStep 14 = .ok (.ireturn, 1) := by decide +kernel
theorem dX6_leastStep_15 : decode cX6_leastStep 15 = .ok (.aload_n 0, 1) := by decide +kernel
theorem dX6_leastStep_16 : decode cX6_leastStep 16 = .ok (.invokevirtual 189, 3) := by decide +kernel
theorem dX6_leastStep_19 : decode cX6_leastStep 19 = .ok (.iload_n 1, 1) := by decide +kernel
theorem dX6_leastStep_20 : decode cX6_leastStep 20 = .ok (.iadd, 1) := by decide +kernel
theorem dX6_leastStep_21 : decode cX6_leastStep 21 = .ok (.iconst 1, 1) := by decide +kernel
theorem dX6_leastStep_22 : decode cX6_leastStep 22 = .ok (.isub, 1) := by decide +kernel
theorem dX6_leastStep_23 : decode cX6_leastStep 23 = .ok (.iload_n 1, 1) := by decide +kernel
theorem dX6_leastStep_24 : decode cX6_leastStep 24 = .ok (.idiv, 1) := by decide +kernel
theorem dX6_leastStep_25 : decode cX6_leastStep 25 = .ok (.ireturn, 1) := by decide +kernel
set_option maxRecDepth 20000 in
theorem ggX6_dearest_X6_in : GoodIn wsX6_dearest wsX6_in := goodIn_r _ [5] (by decide +kernel) (by decide +kernel)
set_option maxRecDepth 20000 in
theorem gX6_dearest_X6_in : GoodIn wsX6_dearest (va_wsS RX6 34 yX6_in wsX6_in) := goodIn_app (goodIn_of _ (by decide +kernel)) ggX6_dearest_X6_in
set_option maxRecDepth 20000 in
theorem ggX6_dearest_X6_wants : GoodIn wsX6_dearest wsX6_wants := goodIn_r _ [9, 10, 1, 11, 12, 13, 4, 14, 15, 16, 17, 18, 19, 20, 21, 22, 23, 24, 25, 26, 27, 28, 29, 30, 31, 32, 33, 34, 35, 36, 37, 38, 39, 40, 41, 42, 43, 44, 45, 46, 47, 48, 49, 50, 51, 52, 53, 54, 55, 56, 57, 58, 59, 60, 61, 62, 63, 64, 65, 66, 86, 87, 88, 89, 90, 91, 92, 93, 94, 95] (by decide +kernel) (by decide +kernel)
set_option maxRecDepth 20000 in
theorem gX6_dearest_X6_wants : GoodIn wsX6_dearest (wsV RX6 100 RX6 yX6_wants wsX6_wants) := goodIn_app (goodIn_of _ (by decide +kernel)) ggX6_dearest_X6_wants
set_option maxRecDepth 20000 in
theorem ggX6_dearest_X6_rested : GoodIn wsX6_dearest wsX6_rested := goodIn_r _ [70, 71, 72, 73, 4, 74, 10, 1, 75, 76, 77, 78, 33, 34, 35, 36, 37, 38, 39, 40, 41, 42, 43, 44, 45, 46, 26, 27, 28, 19, 20, 21, 79, 80, 81, 82, 83, 84, 85, 63, 64, 65, 66, 86, 87, 88, 89, 90, 91, 92, 93, 94, 95] (by decide +kernel) (by decide +kernel)
set_option maxRecDepth 20000 in
theorem gX6_dearest_X6_rested : GoodIn wsX6_dearest (wsV RX6 196 RX6 yX6_rested wsX6_rested) := goodIn_app (goodIn_of _ (by decide +kernel)) ggX6_dearest_X6_rested
theorem dX6_dearest_0 : decode cX6_dearest 0 = .ok (.iload_n 1, 1) := by decide +kernel
theorem dX6_dearest_1 : decode cX6_dearest 1 = .ok (.i2l, 1) := by decide +kernel
theorem dX6_dearest_2 : decode cX6_dearest 2 = .ok (.lconst 0, 1) := by decide +kernel
theorem dX6_dearest_3 : decode cX6_dearest 3 = .ok (.lconst 1, 1) := by decide +kernel
theorem dX6_dearest_4 : decode cX6_dearest 4 = .ok (.invokestatic 34, 3) := by decide +kernel
theorem dX6_dearest_7 : decode cX6_dearest 7 = .ok (.ifCond .ne 6, 3) := by decide +kernel
theorem dX6_dearest_10 : decode cX6_dearest 10 = .ok (.bipush (-2), 2) := by decide +kernel
theorem dX6_dearest_12 : decode cX6_dearest 12 = .ok (.ireturn, 1) := by decide +kernel
theorem dX6_dearest_13 : decode cX6_dearest 13 = .ok (.bipush (-5), 2) := by decide +kernel
theorem dX6_dearest_15 : decode cX6_dearest 15 = .ok (.istore_n 2, 1) := by decide +kernel
theorem dX6_dearest_16 : decode cX6_dearest 16 = .ok (.iconst 0, 1) := by decide +kernel
theorem dX6_dearest_17 : decode cX6_dearest 17 = .ok (.istore_n 3, 1) := by decide +kernel
theorem dX6_dearest_18 : decode cX6_dearest 18 = .ok (.iconst 0, 1) := by decide +kernel
theorem dX6_dearest_19 : decode cX6_dearest 19 = .ok (.istore 4, 2) := by decide +kernel
theorem dX6_dearest_21 : decode cX6_dearest 21 = .ok (.iload 4, 2) := by decide +kernel
theorem dX6_dearest_23 : decode cX6_dearest 23 = .ok (.bipush 18, 2) := by decide +kernel
theorem dX6_dearest_25 : decode cX6_dearest 25 = .ok (.if_icmp .ge 109, 3) := by decide +kernel
theorem dX6_dearest_28 : decode cX6_dearest 28 = .ok (.aload_n 0, 1) := by decide +kernel
theorem dX6_dearest_29 : decode cX6_dearest 29 = .ok (.getfield 7, 3) := by decide +kernel
theorem dX6_dearest_32 : decode cX6_dearest 32 = .ok (.sipush 306, 3) := by decide +kernel
theorem dX6_dearest_35 : decode cX6_dearest 35 = .ok (.iload 4, 2) := by decide +kernel
theorem dX6_dearest_37 : decode cX6_dearest 37 = .ok (.iadd, 1) := by decide +kernel
theorem dX6_dearest_38 : decode cX6_dearest 38 = .ok (.iaload, 1) := by decide +kernel
theorem dX6_dearest_39 : decode cX6_dearest 39 = .ok (.ifCond .ne 89, 3) := by decide +kernel
theorem dX6_dearest_42 : decode cX6_dearest 42 = .ok (.aload_n 0, 1) := by decide +kernel
theorem dX6_dearest_43 : decode cX6_dearest 43 = .ok (.getfield 7, 3) := by decide +kernel
theorem dX6_dearest_46 : decode cX6_dearest 46 = .ok (.sipush 306, 3) := by decide +kernel
theorem dX6_dearest_49 : decode cX6_dearest 49 = .ok (.iload 4, 2) := by decide +kernel
theorem dX6_dearest_51 : decode cX6_dearest 51 = .ok (.iadd, 1) := by decide +kernel
theorem dX6_dearest_52 : decode cX6_dearest 52 = .ok (.iconst 1, 1) := by decide +kernel
theorem dX6_dearest_53 : decode cX6_dearest 53 = .ok (.iastore, 1) := by decide +kernel
theorem dX6_dearest_54 : decode cX6_dearest 54 = .ok (.aload_n 0, 1) := by decide +kernel
theorem dX6_dearest_55 : decode cX6_dearest 55 = .ok (.aload_n 0, 1) := by decide +kernel
theorem dX6_dearest_56 : decode cX6_dearest 56 = .ok (.getfield 7, 3) := by decide +kernel
theorem dX6_dearest_59 : decode cX6_dearest 59 = .ok (.sipush 327, 3) := by decide +kernel
theorem dX6_dearest_62 : decode cX6_dearest 62 = .ok (.iaload, 1) := by decide +kernel
theorem dX6_dearest_63 : decode cX6_dearest 63 = .ok (.invokevirtual 100, 3) := by decide +kernel
theorem dX6_dearest_66 : decode cX6_dearest 66 = .ok (.aload_n 0, 1) := by decide +kernel
theorem dX6_dearest_67 : decode cX6_dearest 67 = .ok (.iconst 1, 1) := by decide +kernel
theorem dX6_dearest_68 : decode cX6_dearest 68 = .ok (.invokevirtual 196, 3) := by decide +kernel
theorem dX6_dearest_71 : decode cX6_dearest 71 = .ok (.istore 5, 2) := by decide +kernel
theorem dX6_dearest_73 : decode cX6_dearest 73 = .ok (.aload_n 0, 1) := by decide +kernel
theorem dX6_dearest_74 : decode cX6_dearest 74 = .ok (.getfield 7, 3) := by decide +kernel
theorem dX6_dearest_77 : decode cX6_dearest 77 = .ok (.sipush 306, 3) := by decide +kernel
theorem dX6_dearest_80 : decode cX6_dearest 80 = .ok (.iload 4, 2) := by decide +kernel
theorem dX6_dearest_82 : decode cX6_dearest 82 = .ok (.iadd, 1) := by decide +kernel
theorem dX6_dearest_83 : decode cX6_dearest 83 = .ok (.iconst 0, 1) := by decide +kernel
theorem dX6_dearest_84 : decode cX6_dearest 84 = .ok (.iastore, 1) := by decide +kernel
theorem dX6_dearest_85 : decode cX6_dearest 85 = .ok (.iload_n 2, 1) := by decide +kernel
theorem dX6_dearest_86 : decode cX6_dearest 86 = .ok (.bipush (-5), 2) := by decide +kernel
theorem dX6_dearest_88 : decode cX6_dearest 88 = .ok (.if_icmp .eq 9, 3) := by decide +kernel
theorem dX6_dearest_91 : decode cX6_dearest 91 = .ok (.iload 5, 2) := by decide +kernel
theorem dX6_dearest_93 : decode cX6_dearest 93 = .ok (.iload_n 3, 1) := by decide +kernel
theorem dX6_dearest_94 : decode cX6_dearest 94 = .ok (.if_icmp .le 7, 3) := by decide +kernel
theorem dX6_dearest_97 : decode cX6_dearest 97 = .ok (.iconst 1, 1) := by decide +kernel
theorem dX6_dearest_98 : decode cX6_dearest 98 = .ok (.goto 4, 3) := by decide +kernel
theorem dX6_dearest_101 : decode cX6_dearest 101 = .ok (.iconst 0, 1) := by decide +kernel
theorem dX6_dearest_102 : decode cX6_dearest 102 = .ok (.istore 6, 2) := by decide +kernel
theorem dX6_dearest_104 : decode cX6_dearest 104 = .ok (.iload 6, 2) := by decide +kernel
theorem dX6_dearest_106 : decode cX6_dearest 106 = .ok (.ifCond .eq 8, 3) := by decide +kernel
theorem dX6_dearest_109 : decode cX6_dearest 109 = .ok (.iload 4, 2) := by decide +kernel
theorem dX6_dearest_111 : decode cX6_dearest 111 = .ok (.goto 4, 3) := by decide +kernel
theorem dX6_dearest_114 : decode cX6_dearest 114 = .ok (.iload_n 2, 1) := by decide +kernel
theorem dX6_dearest_115 : decode cX6_dearest 115 = .ok (.istore_n 2, 1) := by decide +kernel
theorem dX6_dearest_116 : decode cX6_dearest 116 = .ok (.iload 6, 2) := by decide +kernel
theorem dX6_dearest_118 : decode cX6_dearest 118 = .ok (.ifCond .eq 8, 3) := by decide +kernel
theorem dX6_dearest_121 : decode cX6_dearest 121 = .ok (.iload 5, 2) := by decide +kernel
theorem dX6_dearest_123 : decode cX6_dearest 123 = .ok (.goto 4, 3) := by decide +kernel
theorem dX6_dearest_126 : decode cX6_dearest 126 = .ok (.iload_n 3, 1) := by decide +kernel
theorem dX6_dearest_127 : decode cX6_dearest 127 = .ok (.istore_n 3, 1) := by decide +kernel
theorem dX6_dearest_128 : decode cX6_dearest 128 = .ok (.iinc 4 1, 3) := by decide +kernel
theorem dX6_dearest_131 : decode cX6_dearest 131 = .ok (.goto (-110), 3) := by decide +kernel
theorem dX6_dearest_134 : decode cX6_dearest 134 = .ok (.iload_n 2, 1) := by decide +kernel
theorem dX6_dearest_135 : decode cX6_dearest 135 = .ok (.bipush (-5), 2) := by decide +kernel
theorem dX6_dearest_137 : decode cX6_dearest 137 = .ok (.if_icmp .eq 7, 3) := by decide +kernel
theorem dX6_dearest_140 : decode cX6_dearest 140 = .ok (.iload_n 1, 1) := by decide +kernel
theorem dX6_dearest_141 : decode cX6_dearest 141 = .ok (.ifCond .ne 7, 3) := by decide +kernel
theorem dX6_dearest_144 : decode cX6_dearest 144 = .ok (.iload_n 2, 1) := by decide +kernel
theorem dX6_dearest_145 : decode cX6_dearest 145 = .ok (.goto 4, 3) := by decide +kernel
theorem dX6_dearest_148 : decode cX6_dearest 148 = .ok (.iload_n 3, 1) := by decide +kernel
theorem dX6_dearest_149 : decode cX6_dearest 149 = .ok (.ireturn, 1) := by decide +kernel
theorem dJ9_abs_0f7a4_0 : decode cJ9_abs_0f7a4 0 = .ok (.iload_n 0, 1) := by decide +kernel
theorem dJ9_abs_0f7a4_1 : decode cJ9_abs_0f7a4 1 = .ok (.ifCond .ge 8, 3) := by decide +kernel
theorem dJ9_abs_0f7a4_4 : decode cJ9_abs_0f7a4 4 = .ok (.iload_n 0, 1) := by decide +kernel
theorem dJ9_abs_0f7a4_5 : decode cJ9_abs_0f7a4 5 = .ok (.ineg, 1) := by decide +kernel
theorem dJ9_abs_0f7a4_6 : decode cJ9_abs_0f7a4 6 = .ok (.goto 4, 3) := by decide +kernel
theorem dJ9_abs_0f7a4_9 : decode cJ9_abs_0f7a4 9 = .ok (.iload_n 0, 1) := by decide +kernel
theorem dJ9_abs_0f7a4_10 : decode cJ9_abs_0f7a4 10 = .ok (.ireturn, 1) := by decide +kernel
theorem dJ9_max_7cf53_0 : decode cJ9_max_7cf53 0 = .ok (.iload_n 0, 1) := by decide +kernel
theorem dJ9_max_7cf53_1 : decode cJ9_max_7cf53 1 = .ok (.iload_n 1, 1) := by decide +kernel
theorem dJ9_max_7cf53_2 : decode cJ9_max_7cf53 2 = .ok (.if_icmp .lt 7, 3) := by decide +kernel
theorem dJ9_max_7cf53_5 : decode cJ9_max_7cf53 5 = .ok (.iload_n 0, 1) := by decide +kernel
theorem dJ9_max_7cf53_6 : decode cJ9_max_7cf53 6 = .ok (.goto 4, 3) := by decide +kernel
theorem dJ9_max_7cf53_9 : decode cJ9_max_7cf53 9 = .ok (.iload_n 1, 1) := by decide +kernel
theorem dJ9_max_7cf53_10 : decode cJ9_max_7cf53 10 = .ok (.ireturn, 1) := by decide +kernel
theorem dJ9_min_7cf53_0 : decode cJ9_min_7cf53 0 = .ok (.iload_n 0, 1) := by decide +kernel
theorem dJ9_min_7cf53_1 : decode cJ9_min_7cf53 1 = .ok (.iload_n 1, 1) := by decide +kernel
theorem dJ9_min_7cf53_2 : decode cJ9_min_7cf53 2 = .ok (.if_icmp .gt 7, 3) := by decide +kernel
theorem dJ9_min_7cf53_5 : decode cJ9_min_7cf53 5 = .ok (.iload_n 0, 1) := by decide +kernel
theorem dJ9_min_7cf53_6 : decode cJ9_min_7cf53 6 = .ok (.goto 4, 3) := by decide +kernel
theorem dJ9_min_7cf53_9 : decode cJ9_min_7cf53 9 = .ok (.iload_n 1, 1) := by decide +kernel
theorem dJ9_min_7cf53_10 : decode cJ9_min_7cf53 10 = .ok (.ireturn, 1) := by decide +kernel
abbrev vwCl : List vw_C := [(RX0, TX0, 3), (RX1, TX1, 4), (RX2, TX2, 2), (RX3, TX3, 7), (RX4, TX4, 5), (RX5, TX5, 9), (RX6, TX6, 10)]
