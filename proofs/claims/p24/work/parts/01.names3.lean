theorem dX5_zone_67 : decode cX5_zone 67 = .ok (.iload_n 1, 1) := by decide +kernel
theorem dX5_zone_68 : decode cX5_zone 68 = .ok (.iaload, 1) := by decide +kernel
theorem dX5_zone_69 : decode cX5_zone 69 = .ok (.ireturn, 1) := by decide +kernel
theorem dX5_zone_70 : decode cX5_zone 70 = .ok (.aload_n 0, 1) := by decide +kernel
theorem dX5_zone_71 : decode cX5_zone 71 = .ok (.getfield 43, 3) := by decide +kernel
theorem dX5_zone_74 : decode cX5_zone 74 = .ok (.aload_n 0, 1) := by decide +kernel
theorem dX5_zone_75 : decode cX5_zone 75 = .ok (.getfield 12, 3) := by decide +kernel
theorem dX5_zone_78 : decode cX5_zone 78 = .ok (.invokevirtual 114, 3) := by decide +kernel
theorem dX5_zone_81 : decode cX5_zone 81 = .ok (.aload_n 0, 1) := by decide +kernel
theorem dX5_zone_82 : decode cX5_zone 82 = .ok (.getfield 43, 3) := by decide +kernel
theorem dX5_zone_85 : decode cX5_zone 85 = .ok (.getfield 117, 3) := by decide +kernel
theorem dX5_zone_88 : decode cX5_zone 88 = .ok (.iload_n 1, 1) := by decide +kernel
theorem dX5_zone_89 : decode cX5_zone 89 = .ok (.iaload, 1) := by decide +kernel
theorem dX5_zone_90 : decode cX5_zone 90 = .ok (.ireturn, 1) := by decide +kernel
theorem dX5_zone_91 : decode cX5_zone 91 = .ok (.aload_n 0, 1) := by decide +kernel
theorem dX5_zone_92 : decode cX5_zone 92 = .ok (.getfield 12, 3) := by decide +kernel
theorem dX5_zone_95 : decode cX5_zone 95 = .ok (.iload_n 1, 1) := by decide +kernel
theorem dX5_zone_96 : decode cX5_zone 96 = .ok (.invokevirtual 155, 3) := by decide +kernel
theorem dX5_zone_99 : decode cX5_zone 99 = .ok (.ireturn, 1) := by decide +kernel
theorem dX5_zone_100 : decode cX5_zone 100 = .ok (.aload_n 0, 1) := by decide +kernel
theorem dX5_zone_101 : decode cX5_zone 101 = .ok (.getfield 12, 3) := by decide +kernel
theorem dX5_zone_104 : decode cX5_zone 104 = .ok (.getfield 107, 3) := by decide +kernel
theorem dX5_zone_107 : decode cX5_zone 107 = .ok (.iload_n 1, 1) := by decide +kernel
theorem dX5_zone_108 : decode cX5_zone 108 = .ok (.baload, 1) := by decide +kernel
theorem dX5_zone_109 : decode cX5_zone 109 = .ok (.ifCond .eq 7, 3) := by decide +kernel
theorem dX5_zone_112 : decode cX5_zone 112 = .ok (.iconst 1, 1) := by decide +kernel
theorem dX5_zone_113 : decode cX5_zone 113 = .ok (.goto 4, 3) := by decide +kernel
theorem dX5_zone_116 : decode cX5_zone 116 = .ok (.iconst 0, 1) := by decide +kernel
theorem dX5_zone_117 : decode cX5_zone 117 = .ok (.ireturn, 1) := by decide +kernel
theorem dX5_zone_118 : decode cX5_zone 118 = .ok (.aload_n 0, 1) := by decide +kernel
theorem dX5_zone_119 : decode cX5_zone 119 = .ok (.getfield 12, 3) := by decide +kernel
theorem dX5_zone_122 : decode cX5_zone 122 = .ok (.iload_n 1, 1) := by decide +kernel
theorem dX5_zone_123 : decode cX5_zone 123 = .ok (.invokevirtual 168, 3) := by decide +kernel
theorem dX5_zone_126 : decode cX5_zone 126 = .ok (.ireturn, 1) := by decide +kernel
theorem dX5_zone_127 : decode cX5_zone 127 = .ok (.aload_n 0, 1) := by decide +kernel
theorem dX5_zone_128 : decode cX5_zone 128 = .ok (.getfield 12, 3) := by decide +kernel
theorem dX5_zone_131 : decode cX5_zone 131 = .ok (.iload_n 1, 1) := by decide +kernel
theorem dX5_zone_132 : decode cX5_zone 132 = .ok (.invokevirtual 171, 3) := by decide +kernel
theorem dX5_zone_135 : decode cX5_zone 135 = .ok (.ireturn, 1) := by decide +kernel
theorem dX5_zone_136 : decode cX5_zone 136 = .ok (.aload_n 0, 1) := by decide +kernel
theorem dX5_zone_137 : decode cX5_zone 137 = .ok (.getfield 12, 3) := by decide +kernel
theorem dX5_zone_140 : decode cX5_zone 140 = .ok (.aload_n 0, 1) := by decide +kernel
theorem dX5_zone_141 : decode cX5_zone 141 = .ok (.getfield 12, 3) := by decide +kernel
theorem dX5_zone_144 : decode cX5_zone 144 = .ok (.iload_n 1, 1) := by decide +kernel
theorem dX5_zone_145 : decode cX5_zone 145 = .ok (.invokevirtual 155, 3) := by decide +kernel
theorem dX5_zone_148 : decode cX5_zone 148 = .ok (.invokevirtual 174, 3) := by decide +kernel
theorem dX5_zone_151 : decode cX5_zone 151 = .ok (.ireturn, 1) := by decide +kernel
theorem dX5_zone_152 : decode cX5_zone 152 = .ok (.aload_n 0, 1) := by decide +kernel
theorem dX5_zone_153 : decode cX5_zone 153 = .ok (.getfield 50, 3) := by decide +kernel
theorem dX5_zone_156 : decode cX5_zone 156 = .ok (.aload_n 0, 1) := by decide +kernel
theorem dX5_zone_157 : decode cX5_zone 157 = .ok (.getfield 12, 3) := by decide +kernel
theorem dX5_zone_160 : decode cX5_zone 160 = .ok (.iload_n 1, 1) := by decide +kernel
theorem dX5_zone_161 : decode cX5_zone 161 = .ok (.invokevirtual 177, 3) := by decide +kernel
theorem dX5_zone_164 : decode cX5_zone 164 = .ok (.aload_n 0, 1) := by decide +kernel
theorem dX5_zone_165 : decode cX5_zone 165 = .ok (.getfield 50, 3) := by decide +kernel
theorem dX5_zone_168 : decode cX5_zone 168 = .ok (.getfield 181, 3) := by decide +kernel
theorem dX5_zone_171 : decode cX5_zone 171 = .ok (.ireturn, 1) := by decide +kernel
theorem dX5_zone_172 : decode cX5_zone 172 = .ok (.aload_n 0, 1) := by decide +kernel
theorem dX5_zone_173 : decode cX5_zone 173 = .ok (.getfield 50, 3) := by decide +kernel
theorem dX5_zone_176 : decode cX5_zone 176 = .ok (.aload_n 0, 1) := by decide +kernel
theorem dX5_zone_177 : decode cX5_zone 177 = .ok (.getfield 12, 3) := by decide +kernel
theorem dX5_zone_180 : decode cX5_zone 180 = .ok (.iload_n 1, 1) := by decide +kernel
theorem dX5_zone_181 : decode cX5_zone 181 = .ok (.invokevirtual 177, 3) := by decide +kernel
theorem dX5_zone_184 : decode cX5_zone 184 = .ok (.aload_n 0, 1) := by decide +kernel
theorem dX5_zone_185 : decode cX5_zone 185 = .ok (.getfield 50, 3) := by decide +kernel
theorem dX5_zone_188 : decode cX5_zone 188 = .ok (.getfield 184, 3) := by decide +kernel
theorem dX5_zone_191 : decode cX5_zone 191 = .ok (.ireturn, 1) := by decide +kernel
theorem dX5_zone_192 : decode cX5_zone 192 = .ok (.bipush (-2), 2) := by decide +kernel
theorem dX5_zone_194 : decode cX5_zone 194 = .ok (.ireturn, 1) := by decide +kernel
set_option maxRecDepth 20000 in
theorem ggX5_count_X3_power : GoodIn wsX5_count wsX3_power := goodIn_r _ [14, 15, 169, 170, 171, 172, 173, 174, 175] (by decide +kernel) (by decide +kernel)
set_option maxRecDepth 20000 in
theorem gX5_count_X3_power : GoodIn wsX5_count (wsV RX5 122 RX3 yX3_power wsX3_power) := goodIn_app (goodIn_of _ (by decide +kernel)) ggX5_count_X3_power
set_option maxRecDepth 20000 in
theorem ggX5_count_X3_deadZones : GoodIn wsX5_count wsX3_deadZones := goodIn_r _ [19, 20, 169, 170, 171, 172, 173, 174, 175] (by decide +kernel) (by decide +kernel)
set_option maxRecDepth 20000 in
theorem gX5_count_X3_deadZones : GoodIn wsX5_count (wsV RX5 193 RX3 yX3_deadZones wsX3_deadZones) := goodIn_app (goodIn_of _ (by decide +kernel)) ggX5_count_X3_deadZones
set_option maxRecDepth 20000 in
theorem ggX5_count_X5_greatestGap : GoodIn wsX5_count wsX5_greatestGap := goodIn_r _ [25, 26, 1, 27, 28, 29, 30, 31, 32, 33, 34, 35, 36, 37, 38, 39, 40, 41, 42, 43, 44, 45, 46, 47, 13, 48, 49, 50, 51, 24, 52, 53, 54, 55, 56, 57, 58, 59, 60, 61, 62, 63, 64, 65, 66, 67, 68, 69, 70, 71, 72, 73, 74, 75, 76, 77, 78, 79, 80, 81, 82, 83, 84, 85, 86, 87, 88, 89, 90, 91, 92, 93, 94, 95, 96, 97, 98, 99, 100, 101, 102, 103, 104, 105, 106, 107, 108, 109, 110, 160, 161, 162, 163, 164, 165, 166, 167, 168, 183, 184, 169, 170, 171, 172, 173, 174, 175] (by decide +kernel) (by decide +kernel)
set_option maxRecDepth 20000 in
theorem gX5_count_X5_greatestGap : GoodIn wsX5_count (wsV RX5 196 RX5 yX5_greatestGap wsX5_greatestGap) := goodIn_app (goodIn_of _ (by decide +kernel)) ggX5_count_X5_greatestGap
set_option maxRecDepth 20000 in
theorem ggX5_count_X5_countSpots : GoodIn wsX5_count wsX5_countSpots := goodIn_r _ [114, 115, 1, 116, 117, 118, 119, 120, 121, 122, 123, 124, 125, 126, 127, 128, 129, 130, 131, 132, 133, 134, 135, 136, 137, 138, 139, 140, 141, 13, 142, 15, 143, 77, 78, 79, 80, 81, 24, 82, 29, 30, 31, 32, 33, 34, 35, 83, 84, 85, 61, 62, 51, 52, 53, 54, 55, 144, 145, 146, 147, 50, 148, 149, 150, 93, 94, 151, 108, 109, 110, 152, 153, 154, 155, 156, 157, 158, 159, 160, 161, 162, 163, 164, 165, 166, 167, 168, 185, 186, 187, 188, 189, 169, 170, 171, 172, 173, 174, 175] (by decide +kernel) (by decide +kernel)
set_option maxRecDepth 20000 in
theorem gX5_count_X5_countSpots : GoodIn wsX5_count (wsV RX5 199 RX5 yX5_countSpots wsX5_countSpots) := goodIn_app (goodIn_of _ (by decide +kernel)) ggX5_count_X5_countSpots
theorem dX5_count_0 : decode cX5_count 0 = .ok (.iload_n 1, 1) := by decide +kernel
theorem dX5_count_1 : decode cX5_count 1 = .ok (.ifCond .lt 9, 3) := by decide +kernel
theorem dX5_count_4 : decode cX5_count 4 = .ok (.iload_n 1, 1) := by decide +kernel
theorem dX5_count_5 : decode cX5_count 5 = .ok (.bipush 21, 2) := by decide +kernel
theorem dX5_count_7 : decode cX5_count 7 = .ok (.if_icmp .lt 6, 3) := by decide +kernel
theorem dX5_count_10 : decode cX5_count 10 = .ok (.bipush (-2), 2) := by decide +kernel
theorem dX5_count_12 : decode cX5_count 12 = .ok (.ireturn, 1) := by decide +kernel
theorem dX5_count_13 : decode cX5_count 13 = .ok (.iload_n 1, 1) := by decide +kernel
theorem dX5_count_14 : decode cX5_count 14 = .ok (.bipush 13, 2) := by decide +kernel
theorem dX5_count_16 : decode cX5_count 16 = .ok (.if_icmp .lt 16, 3) := by decide +kernel
theorem dX5_count_19 : decode cX5_count 19 = .ok (.aload_n 0, 1) := by decide +kernel
theorem dX5_count_20 : decode cX5_count 20 = .ok (.getfield 12, 3) := by decide +kernel
theorem dX5_count_23 : decode cX5_count 23 = .ok (.getfield 131, 3) := by decide +kernel
theorem dX5_count_26 : decode cX5_count 26 = .ok (.iload_n 1, 1) := by decide +kernel
theorem dX5_count_27 : decode cX5_count 27 = .ok (.bipush 13, 2) := by decide +kernel
theorem dX5_count_29 : decode cX5_count 29 = .ok (.isub, 1) := by decide +kernel
theorem dX5_count_30 : decode cX5_count 30 = .ok (.iaload, 1) := by decide +kernel
theorem dX5_count_31 : decode cX5_count 31 = .ok (.ireturn, 1) := by decide +kernel
theorem dX5_count_32 : decode cX5_count 32 = .ok (.iload_n 1, 1) := by decide +kernel
theorem dX5_count_33 : decode cX5_count 33 = .ok (.tableswitch 136 0 12 #[67, 75, 83, 91, 136, 136, 136, 136, 136, 99, 107, 120, 128], 67) := by decide +kernel
theorem dX5_count_100 : decode cX5_count 100 = .ok (.aload_n 0, 1) := by decide +kernel
theorem dX5_count_101 : decode cX5_count 101 = .ok (.getfield 12, 3) := by decide +kernel
theorem dX5_count_104 : decode cX5_count 104 = .ok (.getfield 152, 3) := by decide +kernel
theorem dX5_count_107 : decode cX5_count 107 = .ok (.ireturn, 1) := by decide +kernel
theorem dX5_count_108 : decode cX5_count 108 = .ok (.aload_n 0, 1) := by decide +kernel
theorem dX5_count_109 : decode cX5_count 109 = .ok (.getfield 12, 3) := by decide +kernel
theorem dX5_count_112 : decode cX5_count 112 = .ok (.invokevirtual 122, 3) := by decide +kernel
theorem dX5_count_115 : decode cX5_count 115 = .ok (.ireturn, 1) := by decide +kernel
theorem dX5_count_116 : decode cX5_count 116 = .ok (.aload_n 0, 1) := by decide +kernel
theorem dX5_count_117 : decode cX5_count 117 = .ok (.getfield 12, 3) := by decide +kernel
theorem dX5_count_120 : decode cX5_count 120 = .ok (.getfield 187, 3) := by decide +kernel
theorem dX5_count_123 : decode cX5_count 123 = .ok (.ireturn, 1) := by decide +kernel
theorem dX5_count_124 : decode cX5_count 124 = .ok (.aload_n 0, 1) := by decide +kernel
theorem dX5_count_125 : decode cX5_count 125 = .ok (.getfield 12, 3) := by decide +kernel
theorem dX5_count_128 : decode cX5_count 128 = .ok (.getfield 190, 3) := by decide +kernel
theorem dX5_count_131 : decode cX5_count 131 = .ok (.ireturn, 1) := by decide +kernel
theorem dX5_count_132 : decode cX5_count 132 = .ok (.aload_n 0, 1) := by decide +kernel
theorem dX5_count_133 : decode cX5_count 133 = .ok (.getfield 12, 3) := by decide +kernel
theorem dX5_count_136 : decode cX5_count 136 = .ok (.invokevirtual 193, 3) := by decide +kernel
theorem dX5_count_139 : decode cX5_count 139 = .ok (.ireturn, 1) := by decide +kernel
theorem dX5_count_140 : decode cX5_count 140 = .ok (.aload_n 0, 1) := by decide +kernel
theorem dX5_count_141 : decode cX5_count 141 = .ok (.invokevirtual 196, 3) := by decide +kernel
theorem dX5_count_144 : decode cX5_count 144 = .ok (.ifCond .ne 7, 3) := by decide +kernel
theorem dX5_count_147 : decode cX5_count 147 = .ok (.iconst 1, 1) := by decide +kernel
theorem dX5_count_148 : decode cX5_count 148 = .ok (.goto 4, 3) := by decide +kernel
theorem dX5_count_151 : decode cX5_count 151 = .ok (.iconst 0, 1) := by decide +kernel
theorem dX5_count_152 : decode cX5_count 152 = .ok (.ireturn, 1) := by decide +kernel
theorem dX5_count_153 : decode cX5_count 153 = .ok (.aload_n 0, 1) := by decide +kernel
theorem dX5_count_154 : decode cX5_count 154 = .ok (.getfield 26, 3) := by decide +kernel
theorem dX5_count_157 : decode cX5_count 157 = .ok (.getfield 146, 3) := by decide +kernel
theorem dX5_count_160 : decode cX5_count 160 = .ok (.ireturn, 1) := by decide +kernel
theorem dX5_count_161 : decode cX5_count 161 = .ok (.aload_n 0, 1) := by decide +kernel
theorem dX5_count_162 : decode cX5_count 162 = .ok (.getfield 33, 3) := by decide +kernel
theorem dX5_count_165 : decode cX5_count 165 = .ok (.getfield 138, 3) := by decide +kernel
theorem dX5_count_168 : decode cX5_count 168 = .ok (.ireturn, 1) := by decide +kernel
theorem dX5_count_169 : decode cX5_count 169 = .ok (.aload_n 0, 1) := by decide +kernel
theorem dX5_count_170 : decode cX5_count 170 = .ok (.iload_n 1, 1) := by decide +kernel
theorem dX5_count_171 : decode cX5_count 171 = .ok (.invokevirtual 199, 3) := by decide +kernel
theorem dX5_count_174 : decode cX5_count 174 = .ok (.ireturn, 1) := by decide +kernel
set_option maxRecDepth 20000 in
theorem ggX5_meanShown_X4_takeAll : GoodIn wsX5_meanShown wsX4_takeAll := goodIn_r _ [9, 10, 11, 12, 8, 13, 14, 15, 16, 17, 18, 19, 20, 21, 22, 23, 24, 25, 26, 27, 28, 29, 30, 31, 32, 33, 34, 35, 36, 37, 38, 39, 40, 41, 42, 43, 44, 45, 46, 47, 48, 49, 50, 51, 52, 53, 54, 55, 56, 57, 58, 59, 60, 61, 62, 63, 64, 65, 66, 67, 68, 69, 70, 71, 72, 73, 74, 75, 76, 86, 87, 88, 89, 90, 91, 92, 93, 94, 95, 96, 97] (by decide +kernel) (by decide +kernel)
set_option maxRecDepth 20000 in
theorem gX5_meanShown_X4_takeAll : GoodIn wsX5_meanShown (wsV RX5 202 RX4 yX4_takeAll wsX4_takeAll) := goodIn_app (goodIn_of _ (by decide +kernel)) ggX5_meanShown_X4_takeAll
theorem dX5_meanShown_0 : decode cX5_meanShown 0 = .ok (.aload_n 0, 1) := by decide +kernel
theorem dX5_meanShown_1 : decode cX5_meanShown 1 = .ok (.getfield 50, 3) := by decide +kernel
theorem dX5_meanShown_4 : decode cX5_meanShown 4 = .ok (.aload_n 0, 1) := by decide +kernel
theorem dX5_meanShown_5 : decode cX5_meanShown 5 = .ok (.getfield 12, 3) := by decide +kernel
theorem dX5_meanShown_8 : decode cX5_meanShown 8 = .ok (.invokevirtual 202, 3) := by decide +kernel
theorem dX5_meanShown_11 : decode cX5_meanShown 11 = .ok (.aload_n 0, 1) := by decide +kernel
theorem dX5_meanShown_12 : decode cX5_meanShown 12 = .ok (.getfield 50, 3) := by decide +kernel
theorem dX5_meanShown_15 : decode cX5_meanShown 15 = .ok (.getfield 205, 3) := by decide +kernel
theorem dX5_meanShown_18 : decode cX5_meanShown 18 = .ok (.i2d, 1) := by decide +kernel
theorem dX5_meanShown_19 : decode cX5_meanShown 19 = .ok (.ldc2_w 207, 3) := by decide +kernel
theorem dX5_meanShown_22 : decode cX5_meanShown 22 = .ok (.ddiv, 1) := by decide +kernel
theorem dX5_meanShown_23 : decode cX5_meanShown 23 = .ok (.dreturn, 1) := by decide +kernel
set_option maxRecDepth 20000 in
theorem ggX5_restsIn_X5_greatestGap : GoodIn wsX5_restsIn wsX5_greatestGap := goodIn_r _ [7, 8, 1, 9, 10, 11, 12, 13, 14, 15, 16, 17, 18, 19, 20, 21, 22, 23, 24, 25, 26, 27, 28, 29, 30, 31, 32, 33, 34, 6, 35, 36, 37, 38, 39, 40, 41, 42, 43, 44, 45, 46, 47, 48, 49, 50, 51, 52, 53, 54, 55, 56, 57, 58, 59, 60, 61, 62, 63, 64, 65, 66, 67, 68, 69, 70, 71, 72, 73, 74, 75, 76, 77, 78, 79, 80, 81, 82, 83, 84, 85, 86, 87, 88, 89, 90, 91, 92, 93, 95, 96, 97, 98, 99, 100, 101, 102, 103, 111, 112, 104, 105, 106, 107, 108, 109, 110] (by decide +kernel) (by decide +kernel)
set_option maxRecDepth 20000 in
theorem gX5_restsIn_X5_greatestGap : GoodIn wsX5_restsIn (wsV RX5 196 RX5 yX5_greatestGap wsX5_greatestGap) := goodIn_app (goodIn_of _ (by decide +kernel)) ggX5_restsIn_X5_greatestGap
set_option maxRecDepth 20000 in
theorem ggX5_restsIn_X5_roundedUp : GoodIn wsX5_restsIn wsX5_roundedUp := goodIn_r _ [77] (by decide +kernel) (by decide +kernel)
set_option maxRecDepth 20000 in
theorem gX5_restsIn_X5_roundedUp : GoodIn wsX5_restsIn (va_wsS RX5 209 yX5_roundedUp wsX5_roundedUp) := goodIn_app (goodIn_of _ (by decide +kernel)) ggX5_restsIn_X5_roundedUp
theorem dX5_restsIn_0 : decode cX5_restsIn 0 = .ok (.aload_n 0, 1) := by decide +kernel
theorem dX5_restsIn_1 : decode cX5_restsIn 1 = .ok (.invokevirtual 196, 3) := by decide +kernel
theorem dX5_restsIn_4 : decode cX5_restsIn 4 = .ok (.aload_n 0, 1) := by decide +kernel
theorem dX5_restsIn_5 : decode cX5_restsIn 5 = .ok (.getfield 12, 3) := by decide +kernel
theorem dX5_restsIn_8 : decode cX5_restsIn 8 = .ok (.getfield 131, 3) := by decide +kernel
theorem dX5_restsIn_11 : decode cX5_restsIn 11 = .ok (.bipush 7, 2) := by decide +kernel
theorem dX5_restsIn_13 : decode cX5_restsIn 13 = .ok (.iaload, 1) := by decide +kernel
theorem dX5_restsIn_14 : decode cX5_restsIn 14 = .ok (.invokestatic 209, 3) := by decide +kernel
theorem dX5_restsIn_17 : decode cX5_restsIn 17 = .ok (.ireturn, 1) := by decide +kernel
set_option maxRecDepth 20000 in
theorem ggX5_bestRule_X3_copyFrom : GoodIn wsX5_bestRule wsX3_copyFrom := goodIn_r _ [10, 11, 12, 13, 14, 15, 16, 17, 18, 19, 20, 21, 164, 165, 166, 167, 168, 169, 170] (by decide +kernel) (by decide +kernel)
set_option maxRecDepth 20000 in
theorem gX5_bestRule_X3_copyFrom : GoodIn wsX5_bestRule (wsV RX5 149 RX3 yX3_copyFrom wsX3_copyFrom) := goodIn_app (goodIn_of _ (by decide +kernel)) ggX5_bestRule_X3_copyFrom
set_option maxRecDepth 20000 in
theorem ggX5_bestRule_X5_settleTrial : GoodIn wsX5_bestRule wsX5_settleTrial := goodIn_r _ [26, 27, 1, 28, 29, 30, 13, 14, 15, 4, 31, 32, 33, 34, 35, 36, 37, 38, 39, 40, 41, 42, 9, 43, 11, 44, 45, 46, 47, 48, 25, 49, 50, 51, 52, 53, 54, 55, 56, 57, 58, 59, 60, 61, 62, 63, 64, 65, 66, 67, 68, 69, 70, 71, 72, 73, 74, 75, 76, 17, 77, 78, 79, 80, 81, 82, 83, 84, 85, 86, 87, 88, 89, 90, 91, 92, 93, 94, 95, 96, 97, 98, 99, 100, 101, 102, 103, 104, 105, 106, 107, 108, 109, 110, 111, 112, 113, 114, 115, 116, 117, 118, 119, 120, 121, 122, 123, 124, 125, 126, 127, 128, 129, 130, 131, 132, 133, 16, 134, 135, 136, 137, 138, 139, 140, 141, 142, 143, 144, 145, 146, 147, 148, 149, 150, 155, 156, 157, 158, 159, 160, 161, 162, 163, 176, 177, 164, 165, 166, 167, 168, 169, 170, 171, 172, 173, 174, 175] (by decide +kernel) (by decide +kernel)
set_option maxRecDepth 20000 in
theorem gX5_bestRule_X5_settleTrial : GoodIn wsX5_bestRule (wsV RX5 212 RX5 yX5_settleTrial wsX5_settleTrial) := goodIn_app (goodIn_of _ (by decide +kernel)) ggX5_bestRule_X5_settleTrial
set_option maxRecDepth 20000 in
theorem ggX5_bestRule_X3_power : GoodIn wsX5_bestRule wsX3_power := goodIn_r _ [154, 16, 164, 165, 166, 167, 168, 169, 170] (by decide +kernel) (by decide +kernel)
set_option maxRecDepth 20000 in
theorem gX5_bestRule_X3_power : GoodIn wsX5_bestRule (wsV RX5 122 RX3 yX3_power wsX3_power) := goodIn_app (goodIn_of _ (by decide +kernel)) ggX5_bestRule_X3_power
theorem dX5_bestRule_0 : decode cX5_bestRule 0 = .ok (.iconst 0, 1) := by decide +kernel
theorem dX5_bestRule_1 : decode cX5_bestRule 1 = .ok (.istore_n 1, 1) := by decide +kernel
theorem dX5_bestRule_2 : decode cX5_bestRule 2 = .ok (.iconst 0, 1) := by decide +kernel
theorem dX5_bestRule_3 : decode cX5_bestRule 3 = .ok (.istore_n 2, 1) := by decide +kernel
theorem dX5_bestRule_4 : decode cX5_bestRule 4 = .ok (.iconst 0, 1) := by decide +kernel
theorem dX5_bestRule_5 : decode cX5_bestRule 5 = .ok (.istore_n 3, 1) := by decide +kernel
theorem dX5_bestRule_6 : decode cX5_bestRule 6 = .ok (.iconst 0, 1) := by decide +kernel
theorem dX5_bestRule_7 : decode cX5_bestRule 7 = .ok (.istore 4, 2) := by decide +kernel
theorem dX5_bestRule_9 : decode cX5_bestRule 9 = .ok (.iload 4, 2) := by decide +kernel
theorem dX5_bestRule_11 : decode cX5_bestRule 11 = .ok (.iconst 3, 1) := by decide +kernel
theorem dX5_bestRule_12 : decode cX5_bestRule 12 = .ok (.if_icmp .ge 103, 3) := by decide +kernel
theorem dX5_bestRule_15 : decode cX5_bestRule 15 = .ok (.aload_n 0, 1) := by decide +kernel
theorem dX5_bestRule_16 : decode cX5_bestRule 16 = .ok (.getfield 37, 3) := by decide +kernel
theorem dX5_bestRule_19 : decode cX5_bestRule 19 = .ok (.aload_n 0, 1) := by decide +kernel
theorem dX5_bestRule_20 : decode cX5_bestRule 20 = .ok (.getfield 12, 3) := by decide +kernel
theorem dX5_bestRule_23 : decode cX5_bestRule 23 = .ok (.invokevirtual 149, 3) := by decide +kernel
theorem dX5_bestRule_26 : decode cX5_bestRule 26 = .ok (.aload_n 0, 1) := by decide +kernel
theorem dX5_bestRule_27 : decode cX5_bestRule 27 = .ok (.getfield 37, 3) := by decide +kernel
theorem dX5_bestRule_30 : decode cX5_bestRule 30 = .ok (.getfield 131, 3) := by decide +kernel
theorem dX5_bestRule_33 : decode cX5_bestRule 33 = .ok (.iconst 3, 1) := by decide +kernel
theorem dX5_bestRule_34 : decode cX5_bestRule 34 = .ok (.iload 4, 2) := by decide +kernel
theorem dX5_bestRule_36 : decode cX5_bestRule 36 = .ok (.iastore, 1) := by decide +kernel
theorem dX5_bestRule_37 : decode cX5_bestRule 37 = .ok (.aload_n 0, 1) := by decide +kernel
theorem dX5_bestRule_38 : decode cX5_bestRule 38 = .ok (.invokevirtual 212, 3) := by decide +kernel
theorem dX5_bestRule_41 : decode cX5_bestRule 41 = .ok (.aload_n 0, 1) := by decide +kernel
theorem dX5_bestRule_42 : decode cX5_bestRule 42 = .ok (.getfield 37, 3) := by decide +kernel
theorem dX5_bestRule_45 : decode cX5_bestRule 45 = .ok (.invokevirtual 122, 3) := by decide +kernel
theorem dX5_bestRule_48 : decode cX5_bestRule 48 = .ok (.istore 5, 2) := by decide +kernel
theorem dX5_bestRule_50 : decode cX5_bestRule 50 = .ok (.aload_n 0, 1) := by decide +kernel
theorem dX5_bestRule_51 : decode cX5_bestRule 51 = .ok (.getfield 50, 3) := by decide +kernel
theorem dX5_bestRule_54 : decode cX5_bestRule 54 = .ok (.getfield 215, 3) := by decide +kernel
theorem dX5_bestRule_57 : decode cX5_bestRule 57 = .ok (.iload_n 2, 1) := by decide +kernel
theorem dX5_bestRule_58 : decode cX5_bestRule 58 = .ok (.if_icmp .lt 20, 3) := by decide +kernel
theorem dX5_bestRule_61 : decode cX5_bestRule 61 = .ok (.aload_n 0, 1) := by decide +kernel
theorem dX5_bestRule_62 : decode cX5_bestRule 62 = .ok (.getfield 50, 3) := by decide +kernel
theorem dX5_bestRule_65 : decode cX5_bestRule 65 = .ok (.getfield 215, 3) := by decide +kernel
theorem dX5_bestRule_68 : decode cX5_bestRule 68 = .ok (.iload_n 2, 1) := by decide +kernel
theorem dX5_bestRule_69 : decode cX5_bestRule 69 = .ok (.if_icmp .ne 13, 3) := by decide +kernel
theorem dX5_bestRule_72 : decode cX5_bestRule 72 = .ok (.iload 5, 2) := by decide +kernel
theorem dX5_bestRule_74 : decode cX5_bestRule 74 = .ok (.iload_n 3, 1) := by decide +kernel
theorem dX5_bestRule_75 : decode cX5_bestRule 75 = .ok (.if_icmp .ge 7, 3) := by decide +kernel
theorem dX5_bestRule_78 : decode cX5_bestRule 78 = .ok (.iconst 1, 1) := by decide +kernel
theorem dX5_bestRule_79 : decode cX5_bestRule 79 = .ok (.goto 4, 3) := by decide +kernel
theorem dX5_bestRule_82 : decode cX5_bestRule 82 = .ok (.iconst 0, 1) := by decide +kernel
theorem dX5_bestRule_83 : decode cX5_bestRule 83 = .ok (.istore 6, 2) := by decide +kernel
theorem dX5_bestRule_85 : decode cX5_bestRule 85 = .ok (.iload 4, 2) := by decide +kernel
theorem dX5_bestRule_87 : decode cX5_bestRule 87 = .ok (.ifCond .eq 8, 3) := by decide +kernel
theorem dX5_bestRule_90 : decode cX5_bestRule 90 = .ok (.iload 6, 2) := by decide +kernel
theorem dX5_bestRule_92 : decode cX5_bestRule 92 = .ok (.ifCond .eq 17, 3) := by decide +kernel
theorem dX5_bestRule_95 : decode cX5_bestRule 95 = .ok (.iload 4, 2) := by decide +kernel
theorem dX5_bestRule_97 : decode cX5_bestRule 97 = .ok (.istore_n 1, 1) := by decide +kernel
theorem dX5_bestRule_98 : decode cX5_bestRule 98 = .ok (.aload_n 0, 1) := by decide +kernel
theorem dX5_bestRule_99 : decode cX5_bestRule 99 = .ok (.getfield 50, 3) := by decide +kernel
theorem dX5_bestRule_102 : decode cX5_bestRule 102 = .ok (.getfield 215, 3) := by decide +kernel
theorem dX5_bestRule_105 : decode cX5_bestRule 105 = .ok (.istore_n 2, 1) := by decide +kernel
theorem dX5_bestRule_106 : decode cX5_bestRule 106 = .ok (.iload 5, 2) := by decide +kernel
theorem dX5_bestRule_108 : decode cX5_bestRule 108 = .ok (.istore_n 3, 1) := by decide +kernel
theorem dX5_bestRule_109 : decode cX5_bestRule 109 = .ok (.iinc 4 1, 3) := by decide +kernel
theorem dX5_bestRule_112 : decode cX5_bestRule 112 = .ok (.goto (-103), 3) := by decide +kernel
theorem dX5_bestRule_115 : decode cX5_bestRule 115 = .ok (.iload_n 1, 1) := by decide +kernel
theorem dX5_bestRule_116 : decode cX5_bestRule 116 = .ok (.ireturn, 1) := by decide +kernel
set_option maxRecDepth 20000 in
theorem ggX5_leastStep_X5_greatestGap : GoodIn wsX5_leastStep wsX5_greatestGap := goodIn_r _ [5, 6, 7, 8, 9, 10, 11, 12, 13, 14, 15, 16, 17, 18, 19, 20, 21, 22, 23, 24, 25, 26, 27, 28, 29, 30, 31, 32, 33, 4, 34, 35, 36, 37, 38, 39, 40, 41, 42, 43, 44, 45, 46, 47, 48, 49, 50, 51, 52, 53, 54, 55, 56, 57, 58, 59, 60, 61, 62, 63, 64, 65, 66, 67, 68, 69, 70, 71, 72, 73, 74, 75, 76, 77, 78, 79, 80, 81, 82, 83, 84, 85, 86, 87, 88, 89, 90, 91, 92, 94, 95, 96, 97, 98, 99, 100, 101, 102, 103, 104, 105, 106, 107, 108, 109, 110, 111] (by decide +kernel) (by decide +kernel)
set_option maxRecDepth 20000 in
theorem gX5_leastStep_X5_greatestGap : GoodIn wsX5_leastStep (wsV RX5 196 RX5 yX5_greatestGap wsX5_greatestGap) := goodIn_app (goodIn_of _ (by decide +kernel)) ggX5_leastStep_X5_greatestGap
set_option maxRecDepth 20000 in
theorem ggX5_leastStep_X5_roundedUp : GoodIn wsX5_leastStep wsX5_roundedUp := goodIn_r _ [76] (by decide +kernel) (by decide +kernel)
set_option maxRecDepth 20000 in
theorem gX5_leastStep_X5_roundedUp : GoodIn wsX5_leastStep (va_wsS RX5 209 yX5_roundedUp wsX5_roundedUp) := goodIn_app (goodIn_of _ (by decide +kernel)) ggX5_leastStep_X5_roundedUp
theorem dX5_leastStep_0 : decode cX5_leastStep 0 = .ok (.iload_n 1, 1) := by decide +kernel
theorem dX5_leastStep_1 : decode cX5_leastStep 1 = .ok (.iconst 1, 1) := by decide +kernel
theorem dX5_leastStep_2 : decode cX5_leastStep 2 = .ok (.if_icmp .lt 10, 3) := by decide +kernel
theorem dX5_leastStep_5 : decode cX5_leastStep 5 = .ok (.iload_n 1, 1) := by decide +kernel
theorem dX5_leastStep_6 : decode cX5_leastStep 6 = .ok (.sipush 255, 3) := by decide +kernel
theorem dX5_leastStep_9 : decode cX5_leastStep 9 = .ok (.if_icmp .le 6, 3) := by decide +kernel
theorem dX5_leastStep_12 : decode cX5_leastStep 12 = .ok (.bipush (-2), 2) := by decide +kernel
theorem dX5_leastStep_14 : decode cX5_leastStep 14 = .ok (.ireturn, 1) := by decide +kernel
theorem dX5_leastStep_15 : decode cX5_leastStep 15 = .ok (.aload_n 0, 1) := by decide +kernel
theorem dX5_leastStep_16 : decode cX5_leastStep 16 = .ok (.invokevirtual 196, 3) := by decide +kernel
theorem dX5_leastStep_19 : decode cX5_leastStep 19 = .ok (.iload_n 1, 1) := by decide +kernel
theorem dX5_leastStep_20 : decode cX5_leastStep 20 = .ok (.invokestatic 209, 3) := by decide +kernel
theorem dX5_leastStep_23 : decode cX5_leastStep 23 = .ok (.ireturn, 1) := by decide +kernel
theorem dX5_rememberPicture_0 : decode cX5_rememberPicture 0 = .ok (.aload_n 0, 1) := by decide +kernel
theorem dX5_rememberPicture_1 : decode cX5_rememberPicture 1 = .ok (.getfield 12, 3) := by decide +kernel
theorem dX5_rememberPicture_4 : decode cX5_rememberPicture 4 = .ok (.getfield 66, 3) := by decide +kernel
theorem dX5_rememberPicture_7 : decode cX5_rememberPicture 7 = .ok (.iconst 0, 1) := by decide +kernel
theorem dX5_rememberPicture_8 : decode cX5_rememberPicture 8 = .ok (.aload_n 0, 1) := by decide +kernel
theorem dX5_rememberPicture_9 : decode cX5_rememberPicture 9 = .ok (.getfield 54, 3) := by decide +kernel
theorem dX5_rememberPicture_12 : decode cX5_rememberPicture 12 = .ok (.iconst 0, 1) := by decide +kernel
theorem dX5_rememberPicture_13 : decode cX5_rememberPicture 13 = .ok (.sipush 288, 3) := by decide +kernel
theorem dX5_rememberPicture_16 : decode cX5_rememberPicture 16 = .ok (.invokestatic 218, 3) := by decide +kernel
theorem dX5_rememberPicture_19 : decode cX5_rememberPicture 19 = .ok (.return_, 1) := by decide +kernel
theorem dX5_changedSpots_0 : decode cX5_changedSpots 0 = .ok (.iconst 0, 1) := by decide +kernel
theorem dX5_changedSpots_1 : decode cX5_changedSpots 1 = .ok (.istore_n 1, 1) := by decide +kernel
theorem dX5_changedSpots_2 : decode cX5_changedSpots 2 = .ok (.iconst 0, 1) := by decide +kernel
theorem dX5_changedSpots_3 : decode cX5_changedSpots 3 = .ok (.istore_n 2, 1) := by decide +kernel
theorem dX5_changedSpots_4 : decode cX5_changedSpots 4 = .ok (.iload_n 2, 1) := by decide +kernel
theorem dX5_changedSpots_5 : decode cX5_changedSpots 5 = .ok (.sipush 288, 3) := by decide +kernel
theorem dX5_changedSpots_8 : decode cX5_changedSpots 8 = .ok (.if_icmp .ge 30, 3) := by decide +kernel
theorem dX5_changedSpots_11 : decode cX5_changedSpots 11 = .ok (.aload_n 0, 1) := by decide +kernel
theorem dX5_changedSpots_12 : decode cX5_changedSpots 12 = .ok (.getfield 12, 3) := by decide +kernel
theorem dX5_changedSpots_15 : decode cX5_changedSpots 15 = .ok (.getfield 66, 3) := by decide +kernel
theorem dX5_changedSpots_18 : decode cX5_changedSpots 18 = .ok (.iload_n 2, 1) := by decide +kernel
theorem dX5_changedSpots_19 : decode cX5_changedSpots 19 = .ok (.iaload, 1) := by decide +kernel
theorem dX5_changedSpots_20 : decode cX5_changedSpots 20 = .ok (.aload_n 0, 1) := by decide +kernel
theorem dX5_changedSpots_21 : decode cX5_changedSpots 21 = .ok (.getfield 54, 3) := by decide +kernel
theorem dX5_changedSpots_24 : decode cX5_changedSpots 24 = .ok (.iload_n 2, 1) := by decide +kernel
theorem dX5_changedSpots_25 : decode cX5_changedSpots 25 = .ok (.iaload, 1) := by decide +kernel
theorem dX5_changedSpots_26 : decode cX5_changedSpots 26 = .ok (.if_icmp .eq 6, 3) := by decide +kernel
theorem dX5_changedSpots_29 : decode cX5_changedSpots 29 = .ok (.iinc 1 1, 3) := by decide +kernel
theorem dX5_changedSpots_32 : decode cX5_changedSpots 32 = .ok (.iinc 2 1, 3) := by decide +kernel
theorem dX5_changedSpots_35 : decode cX5_changedSpots 35 = .ok (.goto (-31), 3) := by decide +kernel
theorem dX5_changedSpots_38 : decode cX5_changedSpots 38 = .ok (.iload_n 1, 1) := by decide +kernel
theorem dX5_changedSpots_39 : decode cX5_changedSpots 39 = .ok (.ireturn, 1) := by decide +kernel
set_option maxRecDepth 20000 in
theorem ggX5_countSpots_X4_takeAll : GoodIn wsX5_countSpots wsX4_takeAll := goodIn_r _ [11, 12, 13, 14, 10, 15, 16, 17, 18, 19, 20, 21, 22, 23, 24, 25, 26, 27, 28, 29, 30, 31, 32, 33, 34, 35, 36, 37, 38, 39, 40, 41, 42, 43, 44, 45, 46, 47, 48, 49, 50, 51, 52, 53, 54, 55, 56, 57, 58, 59, 60, 61, 62, 63, 64, 65, 66, 67, 68, 69, 70, 71, 72, 73, 74, 75, 76, 77, 78, 88, 89, 90, 91, 92, 93, 94, 95, 96, 97, 98, 99] (by decide +kernel) (by decide +kernel)
set_option maxRecDepth 20000 in
theorem gX5_countSpots_X4_takeAll : GoodIn wsX5_countSpots (wsV RX5 202 RX4 yX4_takeAll wsX4_takeAll) := goodIn_app (goodIn_of _ (by decide +kernel)) ggX5_countSpots_X4_takeAll
theorem dX5_countSpots_0 : decode cX5_countSpots 0 = .ok (.aload_n 0, 1) := by decide +kernel
theorem dX5_countSpots_1 : decode cX5_countSpots 1 = .ok (.getfield 50, 3) := by decide +kernel
theorem dX5_countSpots_4 : decode cX5_countSpots 4 = .ok (.aload_n 0, 1) := by decide +kernel
theorem dX5_countSpots_5 : decode cX5_countSpots 5 = .ok (.getfield 12, 3) := by decide +kernel
theorem dX5_countSpots_8 : decode cX5_countSpots 8 = .ok (.invokevirtual 202, 3) := by decide +kernel
theorem dX5_countSpots_11 : decode cX5_countSpots 11 = .ok (.iload_n 1, 1) := by decide +kernel
theorem dX5_countSpots_12 : decode cX5_countSpots 12 = .ok (.tableswitch 76 4 7 #[32, 52, 60, 68], 32) := by decide +kernel
theorem dX5_countSpots_44 : decode cX5_countSpots 44 = .ok (.sipush 288, 3) := by decide +kernel
theorem dX5_countSpots_47 : decode cX5_countSpots 47 = .ok (.aload_n 0, 1) := by decide +kernel
theorem dX5_countSpots_48 : decode cX5_countSpots 48 = .ok (.getfield 50, 3) := by decide +kernel
theorem dX5_countSpots_51 : decode cX5_countSpots 51 = .ok (.getfield 181, 3) := by decide +kernel
theorem dX5_countSpots_54 : decode cX5_countSpots 54 = .ok (.isub, 1) := by decide +kernel
theorem dX5_countSpots_55 : decode cX5_countSpots 55 = .ok (.aload_n 0, 1) := by decide +kernel
theorem dX5_countSpots_56 : decode cX5_countSpots 56 = .ok (.getfield 50, 3) := by decide +kernel
theorem dX5_countSpots_59 : decode cX5_countSpots 59 = .ok (.getfield 184, 3) := by decide +kernel
theorem dX5_countSpots_62 : decode cX5_countSpots 62 = .ok (.isub, 1) := by decide +kernel
theorem dX5_countSpots_63 : decode cX5_countSpots 63 = .ok (.ireturn, 1) := by decide +kernel
theorem dX5_countSpots_64 : decode cX5_countSpots 64 = .ok (.aload_n 0, 1) := by decide +kernel
theorem dX5_countSpots_65 : decode cX5_countSpots 65 = .ok (.getfield 50, 3) := by decide +kernel
theorem dX5_countSpots_68 : decode cX5_countSpots 68 = .ok (.getfield 181, 3) := by decide +kernel
theorem dX5_countSpots_71 : decode cX5_countSpots 71 = .ok (.ireturn, 1) := by decide +kernel
theorem dX5_countSpots_72 : decode cX5_countSpots 72 = .ok (.aload_n 0, 1) := by decide +kernel
theorem dX5_countSpots_73 : decode cX5_countSpots 73 = .ok (.getfield 50, 3) := by decide +kernel
theorem dX5_countSpots_76 : decode cX5_countSpots 76 = .ok (.getfield 184, 3) := by decide +kernel
theorem dX5_countSpots_79 : decode cX5_countSpots 79 = .ok (.ireturn, 1) := by decide +kernel
theorem dX5_countSpots_80 : decode cX5_countSpots 80 = .ok (.aload_n 0, 1) := by decide +kernel
theorem dX5_countSpots_81 : decode cX5_countSpots 81 = .ok (.getfield 50, 3) := by decide +kernel
theorem dX5_countSpots_84 : decode cX5_countSpots 84 = .ok (.getfield 215, 3) := by decide +kernel
theorem dX5_countSpots_87 : decode cX5_countSpots 87 = .ok (.ireturn, 1) := by decide +kernel
theorem dX5_countSpots_88 : decode cX5_countSpots 88 = .ok (.aload_n 0, 1) := by decide +kernel
theorem dX5_countSpots_89 : decode cX5_countSpots 89 = .ok (.getfield 50, 3) := by decide +kernel
theorem dX5_countSpots_92 : decode cX5_countSpots 92 = .ok (.getfield 224, 3) := by decide +kernel
theorem dX5_countSpots_95 : decode cX5_countSpots 95 = .ok (.ireturn, 1) := by decide +kernel
set_option maxRecDepth 20000 in
theorem ggX5_greatestGap_X2_make : GoodIn wsX5_greatestGap wsX2_make := goodIn_r _ [16, 17, 18, 19, 20, 21, 22, 23, 24, 25, 26, 27, 10, 7, 11, 28, 29, 30, 31, 32, 33, 34, 35, 36, 15, 37, 38, 39, 40, 41, 42, 43, 44, 45, 46, 47, 48, 49, 50, 51, 52, 53, 54, 55, 56, 57, 58, 59, 60, 5, 6, 8, 9, 61, 62, 63, 64, 65, 66, 67, 68, 69, 70, 71, 72, 73, 74, 75, 76, 77, 78, 79, 80, 81, 82, 83, 84, 85, 86, 87, 88, 98, 99, 100, 101, 102, 103, 104, 105, 106] (by decide +kernel) (by decide +kernel)
set_option maxRecDepth 20000 in
theorem gX5_greatestGap_X2_make : GoodIn wsX5_greatestGap (wsV RX5 114 RX2 yX2_make wsX2_make) := goodIn_app (goodIn_of _ (by decide +kernel)) ggX5_greatestGap_X2_make
theorem dX5_greatestGap_0 : decode cX5_greatestGap 0 = .ok (.aload_n 0, 1) := by decide +kernel
theorem dX5_greatestGap_1 : decode cX5_greatestGap 1 = .ok (.getfield 43, 3) := by decide +kernel
theorem dX5_greatestGap_4 : decode cX5_greatestGap 4 = .ok (.aload_n 0, 1) := by decide +kernel
theorem dX5_greatestGap_5 : decode cX5_greatestGap 5 = .ok (.getfield 12, 3) := by decide +kernel
theorem dX5_greatestGap_8 : decode cX5_greatestGap 8 = .ok (.invokevirtual 114, 3) := by decide +kernel
theorem dX5_greatestGap_11 : decode cX5_greatestGap 11 = .ok (.iconst 0, 1) := by decide +kernel
theorem dX5_greatestGap_12 : decode cX5_greatestGap 12 = .ok (.istore_n 1, 1) := by decide +kernel
theorem dX5_greatestGap_13 : decode cX5_greatestGap 13 = .ok (.iconst 0, 1) := by decide +kernel
theorem dX5_greatestGap_14 : decode cX5_greatestGap 14 = .ok (.istore_n 2, 1) := by decide +kernel
theorem dX5_greatestGap_15 : decode cX5_greatestGap 15 = .ok (.iload_n 2, 1) := by decide +kernel
theorem dX5_greatestGap_16 : decode cX5_greatestGap 16 = .ok (.bipush 18, 2) := by decide +kernel
theorem dX5_greatestGap_18 : decode cX5_greatestGap 18 = .ok (.if_icmp .ge 36, 3) := by decide +kernel
theorem dX5_greatestGap_21 : decode cX5_greatestGap 21 = .ok (.iload_n 1, 1) := by decide +kernel
theorem dX5_greatestGap_22 : decode cX5_greatestGap 22 = .ok (.aload_n 0, 1) := by decide +kernel
theorem dX5_greatestGap_23 : decode cX5_greatestGap 23 = .ok (.getfield 43, 3) := by decide +kernel
theorem dX5_greatestGap_26 : decode cX5_greatestGap 26 = .ok (.getfield 117, 3) := by decide +kernel
theorem dX5_greatestGap_29 : decode cX5_greatestGap 29 = .ok (.iload_n 2, 1) := by decide +kernel
theorem dX5_greatestGap_30 : decode cX5_greatestGap 30 = .ok (.iaload, 1) := by decide +kernel
theorem dX5_greatestGap_31 : decode cX5_greatestGap 31 = .ok (.aload_n 0, 1) := by decide +kernel
theorem dX5_greatestGap_32 : decode cX5_greatestGap 32 = .ok (.getfield 12, 3) := by decide +kernel
theorem dX5_greatestGap_35 : decode cX5_greatestGap 35 = .ok (.getfield 111, 3) := by decide +kernel
theorem dX5_greatestGap_38 : decode cX5_greatestGap 38 = .ok (.iload_n 2, 1) := by decide +kernel
theorem dX5_greatestGap_39 : decode cX5_greatestGap 39 = .ok (.iaload, 1) := by decide +kernel
theorem dX5_greatestGap_40 : decode cX5_greatestGap 40 = .ok (.isub, 1) := by decide +kernel
theorem dX5_greatestGap_41 : decode cX5_greatestGap 41 = .ok (.invokestatic 227, 3) := by decide +kernel
theorem dX5_greatestGap_44 : decode cX5_greatestGap 44 = .ok (.invokestatic 232, 3) := by decide +kernel
theorem dX5_greatestGap_47 : decode cX5_greatestGap 47 = .ok (.istore_n 1, 1) := by decide +kernel
theorem dX5_greatestGap_48 : decode cX5_greatestGap 48 = .ok (.iinc 2 1, 3) := by decide +kernel
theorem dX5_greatestGap_51 : decode cX5_greatestGap 51 = .ok (.goto (-36), 3) := by decide +kernel
theorem dX5_greatestGap_54 : decode cX5_greatestGap 54 = .ok (.iload_n 1, 1) := by decide +kernel
theorem dX5_greatestGap_55 : decode cX5_greatestGap 55 = .ok (.ireturn, 1) := by decide +kernel
set_option maxRecDepth 20000 in
theorem ggX5_settleTrial_X2_make : GoodIn wsX5_settleTrial wsX2_make := goodIn_r _ [14, 15, 16, 17, 18, 19, 20, 21, 22, 23, 24, 25, 26, 27, 28, 29, 30, 31, 32, 33, 34, 35, 36, 37, 13, 38, 39, 40, 41, 42, 43, 44, 45, 46, 47, 48, 49, 50, 51, 52, 53, 54, 55, 56, 57, 58, 59, 60, 61, 62, 63, 64, 65, 66, 67, 68, 69, 70, 71, 72, 73, 74, 75, 76, 77, 78, 79, 80, 81, 82, 83, 84, 85, 86, 87, 88, 89, 90, 91, 92, 93, 144, 145, 146, 147, 148, 149, 150, 151, 152] (by decide +kernel) (by decide +kernel)
set_option maxRecDepth 20000 in
theorem gX5_settleTrial_X2_make : GoodIn wsX5_settleTrial (wsV RX5 114 RX2 yX2_make wsX2_make) := goodIn_app (goodIn_of _ (by decide +kernel)) ggX5_settleTrial_X2_make
set_option maxRecDepth 20000 in
theorem ggX5_settleTrial_X4_takeAll : GoodIn wsX5_settleTrial wsX4_takeAll := goodIn_r _ [98, 99, 100, 101, 97, 102, 103, 104, 105, 106, 107, 108, 109, 110, 111, 112, 113, 114, 115, 22, 116, 117, 118, 56, 57, 58, 59, 60, 30, 61, 62, 63, 27, 64, 65, 26, 28, 66, 67, 68, 40, 41, 29, 31, 32, 33, 34, 119, 120, 121, 122, 25, 123, 124, 125, 76, 77, 126, 91, 92, 93, 127, 128, 129, 130, 131, 132, 133, 134, 153, 154, 155, 156, 157, 146, 147, 148, 149, 150, 151, 152] (by decide +kernel) (by decide +kernel)
set_option maxRecDepth 20000 in
theorem gX5_settleTrial_X4_takeAll : GoodIn wsX5_settleTrial (wsV RX5 202 RX4 yX4_takeAll wsX4_takeAll) := goodIn_app (goodIn_of _ (by decide +kernel)) ggX5_settleTrial_X4_takeAll
theorem dX5_settleTrial_0 : decode cX5_settleTrial 0 = .ok (.aload_n 0, 1) := by decide +kernel
theorem dX5_settleTrial_1 : decode cX5_settleTrial 1 = .ok (.getfield 43, 3) := by decide +kernel
theorem dX5_settleTrial_4 : decode cX5_settleTrial 4 = .ok (.aload_n 0, 1) := by decide +kernel
theorem dX5_settleTrial_5 : decode cX5_settleTrial 5 = .ok (.getfield 37, 3) := by decide +kernel
theorem dX5_settleTrial_8 : decode cX5_settleTrial 8 = .ok (.invokevirtual 114, 3) := by decide +kernel
theorem dX5_settleTrial_11 : decode cX5_settleTrial 11 = .ok (.aload_n 0, 1) := by decide +kernel
theorem dX5_settleTrial_12 : decode cX5_settleTrial 12 = .ok (.getfield 43, 3) := by decide +kernel
theorem dX5_settleTrial_15 : decode cX5_settleTrial 15 = .ok (.getfield 117, 3) := by decide +kernel
theorem dX5_settleTrial_18 : decode cX5_settleTrial 18 = .ok (.iconst 0, 1) := by decide +kernel
theorem dX5_settleTrial_19 : decode cX5_settleTrial 19 = .ok (.aload_n 0, 1) := by decide +kernel
theorem dX5_settleTrial_20 : decode cX5_settleTrial 20 = .ok (.getfield 37, 3) := by decide +kernel
theorem dX5_settleTrial_23 : decode cX5_settleTrial 23 = .ok (.getfield 111, 3) := by decide +kernel
theorem dX5_settleTrial_26 : decode cX5_settleTrial 26 = .ok (.iconst 0, 1) := by decide +kernel
theorem dX5_settleTrial_27 : decode cX5_settleTrial 27 = .ok (.bipush 18, 2) := by decide +kernel
theorem dX5_settleTrial_29 : decode cX5_settleTrial 29 = .ok (.invokestatic 218, 3) := by decide +kernel
theorem dX5_settleTrial_32 : decode cX5_settleTrial 32 = .ok (.aload_n 0, 1) := by decide +kernel
theorem dX5_settleTrial_33 : decode cX5_settleTrial 33 = .ok (.getfield 50, 3) := by decide +kernel
theorem dX5_settleTrial_36 : decode cX5_settleTrial 36 = .ok (.aload_n 0, 1) := by decide +kernel
theorem dX5_settleTrial_37 : decode cX5_settleTrial 37 = .ok (.getfield 37, 3) := by decide +kernel
theorem dX5_settleTrial_40 : decode cX5_settleTrial 40 = .ok (.invokevirtual 202, 3) := by decide +kernel
theorem dX5_settleTrial_43 : decode cX5_settleTrial 43 = .ok (.return_, 1) := by decide +kernel
theorem dX5_onScreen_0 : decode cX5_onScreen 0 = .ok (.iload_n 0, 1) := by decide +kernel
theorem dX5_onScreen_1 : decode cX5_onScreen 1 = .ok (.ifCond .lt 23, 3) := by decide +kernel
theorem dX5_onScreen_4 : decode cX5_onScreen 4 = .ok (.iload_n 0, 1) := by decide +kernel
theorem dX5_onScreen_5 : decode cX5_onScreen 5 = .ok (.bipush 24, 2) := by decide +kernel
theorem dX5_onScreen_7 : decode cX5_onScreen 7 = .ok (.if_icmp .ge 17, 3) := by decide +kernel
theorem dX5_onScreen_10 : decode cX5_onScreen 10 = .ok (.iload_n 1, 1) := by decide +kernel
theorem dX5_onScreen_11 : decode cX5_onScreen 11 = .ok (.ifCond .lt 13, 3) := by decide +kernel
theorem dX5_onScreen_14 : decode cX5_onScreen 14 = .ok (.iload_n 1, 1) := by decide +kernel
theorem dX5_onScreen_15 : decode cX5_onScreen 15 = .ok (.bipush 12, 2) := by decide +kernel
theorem dX5_onScreen_17 : decode cX5_onScreen 17 = .ok (.if_icmp .ge 7, 3) := by decide +kernel
theorem dX5_onScreen_20 : decode cX5_onScreen 20 = .ok (.iconst 1, 1) := by decide +kernel
theorem dX5_onScreen_21 : decode cX5_onScreen 21 = .ok (.goto 4, 3) := by decide +kernel
theorem dX5_onScreen_24 : decode cX5_onScreen 24 = .ok (.iconst 0, 1) := by decide +kernel
theorem dX5_onScreen_25 : decode cX5_onScreen 25 = .ok (.ireturn, 1) := by decide +kernel
theorem dX5_isZone_0 : decode cX5_isZone 0 = .ok (.iload_n 0, 1) := by decide +kernel
theorem dX5_isZone_1 : decode cX5_isZone 1 = .ok (.ifCond .lt 13, 3) := by decide +kernel
theorem dX5_isZone_4 : decode cX5_isZone 4 = .ok (.iload_n 0, 1) := by decide +kernel
theorem dX5_isZone_5 : decode cX5_isZone 5 = .ok (.bipush 18, 2) := by decide +kernel
theorem dX5_isZone_7 : decode cX5_isZone 7 = .ok (.if_icmp .ge 7, 3) := by decide +kernel
theorem dX5_isZone_10 : decode cX5_isZone 10 = .ok (.iconst 1, 1) := by decide +kernel
theorem dX5_isZone_11 : decode cX5_isZone 11 = .ok (.goto 4, 3) := by decide +kernel
theorem dX5_isZone_14 : decode cX5_isZone 14 = .ok (.iconst 0, 1) := by decide +kernel
theorem dX5_isZone_15 : decode cX5_isZone 15 = .ok (.ireturn, 1) := by decide +kernel
theorem dX5_spotAt_0 : decode cX5_spotAt 0 = .ok (.iload_n 1, 1) := by decide +kernel
theorem dX5_spotAt_1 : decode cX5_spotAt 1 = .ok (.bipush 24, 2) := by decide +kernel
theorem dX5_spotAt_3 : decode cX5_spotAt 3 = .ok (.imul, 1) := by decide +kernel
theorem dX5_spotAt_4 : decode cX5_spotAt 4 = .ok (.iload_n 0, 1) := by decide +kernel
theorem dX5_spotAt_5 : decode cX5_spotAt 5 = .ok (.iadd, 1) := by decide +kernel
theorem dX5_spotAt_6 : decode cX5_spotAt 6 = .ok (.ireturn, 1) := by decide +kernel
set_option maxRecDepth 20000 in
theorem ggX5_spotOfZone_X5_spotAt : GoodIn wsX5_spotOfZone wsX5_spotAt := goodIn_r _ [4] (by decide +kernel) (by decide +kernel)
set_option maxRecDepth 20000 in
theorem gX5_spotOfZone_X5_spotAt : GoodIn wsX5_spotOfZone (va_wsS RX5 62 yX5_spotAt wsX5_spotAt) := goodIn_app (goodIn_of _ (by decide +kernel)) ggX5_spotOfZone_X5_spotAt
theorem dX5_spotOfZone_0 : decode cX5_spotOfZone 0 = .ok (.iload_n 0, 1) := by decide +kernel
theorem dX5_spotOfZone_1 : decode cX5_spotOfZone 1 = .ok (.bipush 6, 2) := by decide +kernel
theorem dX5_spotOfZone_3 : decode cX5_spotOfZone 3 = .ok (.irem, 1) := by decide +kernel
theorem dX5_spotOfZone_4 : decode cX5_spotOfZone 4 = .ok (.iconst 4, 1) := by decide +kernel
theorem dX5_spotOfZone_5 : decode cX5_spotOfZone 5 = .ok (.imul, 1) := by decide +kernel
theorem dX5_spotOfZone_6 : decode cX5_spotOfZone 6 = .ok (.iload_n 1, 1) := by decide +kernel
theorem dX5_spotOfZone_7 : decode cX5_spotOfZone 7 = .ok (.iconst 4, 1) := by decide +kernel
theorem dX5_spotOfZone_8 : decode cX5_spotOfZone 8 = .ok (.irem, 1) := by decide +kernel
theorem dX5_spotOfZone_9 : decode cX5_spotOfZone 9 = .ok (.iadd, 1) := by decide +kernel
theorem dX5_spotOfZone_10 : decode cX5_spotOfZone 10 = .ok (.istore_n 2, 1) := by decide +kernel
theorem dX5_spotOfZone_11 : decode cX5_spotOfZone 11 = .ok (.iload_n 0, 1) := by decide +kernel
theorem dX5_spotOfZone_12 : decode cX5_spotOfZone 12 = .ok (.bipush 6, 2) := by decide +kernel
theorem dX5_spotOfZone_14 : decode cX5_spotOfZone 14 = .ok (.idiv, 1) := by decide +kernel
theorem dX5_spotOfZone_15 : decode cX5_spotOfZone 15 = .ok (.iconst 4, 1) := by decide +kernel
theorem dX5_spotOfZone_16 : decode cX5_spotOfZone 16 = .ok (.imul, 1) := by decide +kernel
theorem dX5_spotOfZone_17 : decode cX5_spotOfZone 17 = .ok (.iload_n 1, 1) := by decide +kernel
theorem dX5_spotOfZone_18 : decode cX5_spotOfZone 18 = .ok (.iconst 4, 1) := by decide +kernel
theorem dX5_spotOfZone_19 : decode cX5_spotOfZone 19 = .ok (.idiv, 1) := by decide +kernel
theorem dX5_spotOfZone_20 : decode cX5_spotOfZone 20 = .ok (.iadd, 1) := by decide +kernel
theorem dX5_spotOfZone_21 : decode cX5_spotOfZone 21 = .ok (.istore_n 3, 1) := by decide +kernel
theorem dX5_spotOfZone_22 : decode cX5_spotOfZone 22 = .ok (.iload_n 2, 1) := by decide +kernel
theorem dX5_spotOfZone_23 : decode cX5_spotOfZone 23 = .ok (.iload_n 3, 1) := by decide +kernel
theorem dX5_spotOfZone_24 : decode cX5_spotOfZone 24 = .ok (.invokestatic 62, 3) := by decide +kernel
theorem dX5_spotOfZone_27 : decode cX5_spotOfZone 27 = .ok (.ireturn, 1) := by decide +kernel
theorem dX5_zonesApart_0 : decode cX5_zonesApart 0 = .ok (.iload_n 0, 1) := by decide +kernel
theorem dX5_zonesApart_1 : decode cX5_zonesApart 1 = .ok (.bipush 6, 2) := by decide +kernel
theorem dX5_zonesApart_3 : decode cX5_zonesApart 3 = .ok (.irem, 1) := by decide +kernel
theorem dX5_zonesApart_4 : decode cX5_zonesApart 4 = .ok (.iload_n 1, 1) := by decide +kernel
theorem dX5_zonesApart_5 : decode cX5_zonesApart 5 = .ok (.bipush 6, 2) := by decide +kernel
theorem dX5_zonesApart_7 : decode cX5_zonesApart 7 = .ok (.irem, 1) := by decide +kernel
theorem dX5_zonesApart_8 : decode cX5_zonesApart 8 = .ok (.isub, 1) := by decide +kernel
theorem dX5_zonesApart_9 : decode cX5_zonesApart 9 = .ok (.invokestatic 227, 3) := by decide +kernel
theorem dX5_zonesApart_12 : decode cX5_zonesApart 12 = .ok (.istore_n 2, 1) := by decide +kernel
theorem dX5_zonesApart_13 : decode cX5_zonesApart 13 = .ok (.iload_n 0, 1) := by decide +kernel
theorem dX5_zonesApart_14 : decode cX5_zonesApart 14 = .ok (.bipush 6, 2) := by decide +kernel
theorem dX5_zonesApart_16 : decode cX5_zonesApart 16 = .ok (.idiv, 1) := by decide +kernel
theorem dX5_zonesApart_17 : decode cX5_zonesApart 17 = .ok (.iload_n 1, 1) := by decide +kernel
theorem dX5_zonesApart_18 : decode cX5_zonesApart 18 = .ok (.bipush 6, 2) := by decide +kernel
theorem dX5_zonesApart_20 : decode cX5_zonesApart 20 = .ok (.idiv, 1) := by decide +kernel
theorem dX5_zonesApart_21 : decode cX5_zonesApart 21 = .ok (.isub, 1) := by decide +kernel
theorem dX5_zonesApart_22 : decode cX5_zonesApart 22 = .ok (.invokestatic 227, 3) := by decide +kernel
theorem dX5_zonesApart_25 : decode cX5_zonesApart 25 = .ok (.istore_n 3, 1) := by decide +kernel
theorem dX5_zonesApart_26 : decode cX5_zonesApart 26 = .ok (.iload_n 2, 1) := by decide +kernel
theorem dX5_zonesApart_27 : decode cX5_zonesApart 27 = .ok (.iload_n 3, 1) := by decide +kernel
theorem dX5_zonesApart_28 : decode cX5_zonesApart 28 = .ok (.invokestatic 232, 3) := by decide +kernel
theorem dX5_zonesApart_31 : decode cX5_zonesApart 31 = .ok (.ireturn, 1) := by decide +kernel
theorem dX5_roundedUp_0 : decode cX5_roundedUp 0 = .ok (.iload_n 1, 1) := by decide +kernel
theorem dX5_roundedUp_1 : decode cX5_roundedUp 1 = .ok (.ifCond .le 13, 3) := by decide +kernel
theorem dX5_roundedUp_4 : decode cX5_roundedUp 4 = .ok (.iload_n 0, 1) := by decide +kernel
theorem dX5_roundedUp_5 : decode cX5_roundedUp 5 = .ok (.iload_n 1, 1) := by decide +kernel
theorem dX5_roundedUp_6 : decode cX5_roundedUp 6 = .ok (.iadd, 1) := by decide +kernel
theorem dX5_roundedUp_7 : decode cX5_roundedUp 7 = .ok (.iconst 1, 1) := by decide +kernel
theorem dX5_roundedUp_8 : decode cX5_roundedUp 8 = .ok (.isub, 1) := by decide +kernel
theorem dX5_roundedUp_9 : decode cX5_roundedUp 9 = .ok (.iload_n 1, 1) := by decide +kernel
theorem dX5_roundedUp_10 : decode cX5_roundedUp 10 = .ok (.idiv, 1) := by decide +kernel
theorem dX5_roundedUp_11 : decode cX5_roundedUp 11 = .ok (.goto 4, 3) := by decide +kernel
theorem dX5_roundedUp_14 : decode cX5_roundedUp 14 = .ok (.iconst 0, 1) := by decide +kernel
theorem dX5_roundedUp_15 : decode cX5_roundedUp 15 = .ok (.ireturn, 1) := by decide +kernel
theorem dX5_lightOf_0 : decode cX5_lightOf 0 = .ok (.sipush 255, 3) := by decide +kernel
theorem dX5_lightOf_3 : decode cX5_lightOf 3 = .ok (.iload_n 0, 1) := by decide +kernel
theorem dX5_lightOf_4 : decode cX5_lightOf 4 = .ok (.sipush 256, 3) := by decide +kernel
theorem dX5_lightOf_7 : decode cX5_lightOf 7 = .ok (.idiv, 1) := by decide +kernel
theorem dX5_lightOf_8 : decode cX5_lightOf 8 = .ok (.invokestatic 235, 3) := by decide +kernel
theorem dX5_lightOf_11 : decode cX5_lightOf 11 = .ok (.ireturn, 1) := by decide +kernel
set_option maxRecDepth 20000 in
theorem ggX5_glassFor_X5_roundedUp : GoodIn wsX5_glassFor wsX5_roundedUp := goodIn_r _ [8] (by decide +kernel) (by decide +kernel)
set_option maxRecDepth 20000 in
theorem gX5_glassFor_X5_roundedUp : GoodIn wsX5_glassFor (va_wsS RX5 209 yX5_roundedUp wsX5_roundedUp) := goodIn_app (goodIn_of _ (by decide +kernel)) ggX5_glassFor_X5_roundedUp
theorem dX5_glassFor_0 : decode cX5_glassFor 0 = .ok (.sipush 255, 3) := by decide +kernel
theorem dX5_glassFor_3 : decode cX5_glassFor 3 = .ok (.iload_n 0, 1) := by decide +kernel
theorem dX5_glassFor_4 : decode cX5_glassFor 4 = .ok (.sipush 255, 3) := by decide +kernel
theorem dX5_glassFor_7 : decode cX5_glassFor 7 = .ok (.imul, 1) := by decide +kernel
theorem dX5_glassFor_8 : decode cX5_glassFor 8 = .ok (.iload_n 1, 1) := by decide +kernel
theorem dX5_glassFor_9 : decode cX5_glassFor 9 = .ok (.invokestatic 209, 3) := by decide +kernel
theorem dX5_glassFor_12 : decode cX5_glassFor 12 = .ok (.invokestatic 235, 3) := by decide +kernel
theorem dX5_glassFor_15 : decode cX5_glassFor 15 = .ok (.ireturn, 1) := by decide +kernel
theorem dX5_verdict_0 : decode cX5_verdict 0 = .ok (.iload_n 1, 1) := by decide +kernel
theorem dX5_verdict_1 : decode cX5_verdict 1 = .ok (.iload_n 0, 1) := by decide +kernel
theorem dX5_verdict_2 : decode cX5_verdict 2 = .ok (.if_icmp .ne 5, 3) := by decide +kernel
theorem dX5_verdict_5 : decode cX5_verdict 5 = .ok (.iconst 0, 1) := by decide +kernel
theorem dX5_verdict_6 : decode cX5_verdict 6 = .ok (.ireturn, 1) := by decide +kernel
theorem dX5_verdict_7 : decode cX5_verdict 7 = .ok (.iload_n 1, 1) := by decide +kernel
theorem dX5_verdict_8 : decode cX5_verdict 8 = .ok (.iload_n 0, 1) := by decide +kernel
theorem dX5_verdict_9 : decode cX5_verdict 9 = .ok (.if_icmp .ge 7, 3) := by decide +kernel
theorem dX5_verdict_12 : decode cX5_verdict 12 = .ok (.iconst 1, 1) := by decide +kernel
theorem dX5_verdict_13 : decode cX5_verdict 13 = .ok (.goto 4, 3) := by decide +kernel
theorem dX5_verdict_16 : decode cX5_verdict 16 = .ok (.iconst 2, 1) := by decide +kernel
theorem dX5_verdict_17 : decode cX5_verdict 17 = .ok (.ireturn, 1) := by decide +kernel
theorem dJ9_abs_0f7a4_0 : decode cJ9_abs_0f7a4 0 = .ok (.iload_n 0, 1) := by decide +kernel
theorem dJ9_abs_0f7a4_1 : decode cJ9_abs_0f7a4 1 = .ok (.ifCond .ge 8, 3) := by decide +kernel
theorem dJ9_abs_0f7a4_4 : decode cJ9_abs_0f7a4 4 = .ok (.iload_n 0, 1) := by decide +kernel
theorem dJ9_abs_0f7a4_5 : decode cJ9_abs_0f7a4 5 = .ok (.ineg, 1) := by decide +kernel
theorem dJ9_abs_0f7a4_6 : decode cJ9_abs_0f7a4 6 = .ok (.goto 4, 3) := by decide +kernel
theorem dJ9_abs_0f7a4_9 : decode cJ9_abs_0f7a4 9 = .ok (.iload_n 0, 1) := by decide +kernel
theorem dJ9_abs_0f7a4_10 : decode cJ9_abs_0f7a4 10 = .ok (.ireturn, 1) := by decide +kernel
theorem dJ9_max_7cf53_0 : decode cJ9_max_7cf53 0 = .ok (.iload_n 0, 1) := by decide +kernel
theorem dJ9_max_7cf53_1 : decode cJ9_max_7cf53 1 = .ok (.iload_n 1, 1) := by decide +kernel
theorem dJ9_max_7cf53_2 : decode cJ9_max_7cf53 2 = .ok (.if_icmp .lt 7, 3) := by decide +kernel
theorem dJ9_max_7cf53_5 : decode cJ9_max_7cf53 5 = .ok (.iload_n 0, 1) := by decide +kernel
theorem dJ9_max_7cf53_6 : decode cJ9_max_7cf53 6 = .ok (.goto 4, 3) := by decide +kernel
theorem dJ9_max_7cf53_9 : decode cJ9_max_7cf53 9 = .ok (.iload_n 1, 1) := by decide +kernel
theorem dJ9_max_7cf53_10 : decode cJ9_max_7cf53 10 = .ok (.ireturn, 1) := by decide +kernel
theorem dJ9_min_7cf53_0 : decode cJ9_min_7cf53 0 = .ok (.iload_n 0, 1) := by decide +kernel
theorem dJ9_min_7cf53_1 : decode cJ9_min_7cf53 1 = .ok (.iload_n 1, 1) := by decide +kernel
theorem dJ9_min_7cf53_2 : decode cJ9_min_7cf53 2 = .ok (.if_icmp .gt 7, 3) := by decide +kernel
theorem dJ9_min_7cf53_5 : decode cJ9_min_7cf53 5 = .ok (.iload_n 0, 1) := by decide +kernel
theorem dJ9_min_7cf53_6 : decode cJ9_min_7cf53 6 = .ok (.goto 4, 3) := by decide +kernel
theorem dJ9_min_7cf53_9 : decode cJ9_min_7cf53 9 = .ok (.iload_n 1, 1) := by decide +kernel
theorem dJ9_min_7cf53_10 : decode cJ9_min_7cf53 10 = .ok (.ireturn, 1) := by decide +kernel
theorem dL_cell_0 : decode cL_cell 0 = .ok (.iload_n 1, 1) := by decide +kernel
theorem dL_cell_1 : decode cL_cell 1 = .ok (.aload_n 0, 1) := by decide +kernel
theorem dL_cell_2 : decode cL_cell 2 = .ok (.arraylength, 1) := by decide +kernel
theorem dL_cell_3 : decode cL_cell 3 = .ok (.if_icmp .ge 9, 3) := by decide +kernel
theorem dL_cell_6 : decode cL_cell 6 = .ok (.aload_n 0, 1) := by decide +kernel
theorem dL_cell_7 : decode cL_cell 7 = .ok (.iload_n 1, 1) := by decide +kernel
theorem dL_cell_8 : decode cL_cell 8 = .ok (.iaload, 1) := by decide +kernel
theorem dL_cell_9 : decode cL_cell 9 = .ok (.goto 11, 3) := by decide +kernel
theorem dL_cell_12 : decode cL_cell 12 = .ok (.ldc 7, 2) := by decide +kernel
theorem dL_cell_14 : decode cL_cell 14 = .ok (.iload_n 1, 1) := by decide +kernel
theorem dL_cell_15 : decode cL_cell 15 = .ok (.sipush 1307, 3) := by decide +kernel
theorem dL_cell_18 : decode cL_cell 18 = .ok (.iadd, 1) := by decide +kernel
theorem dL_cell_19 : decode cL_cell 19 = .ok (.imul, 1) := by decide +kernel
theorem dL_cell_20 : decode cL_cell 20 = .ok (.ireturn, 1) := by decide +kernel
theorem dL_up_0 : decode cL_up 0 = .ok (.iload_n 0, 1) := by decide +kernel
theorem dL_up_1 : decode cL_up 1 = .ok (.ldc 8, 2) := by decide +kernel
theorem dL_up_3 : decode cL_up 3 = .ok (.iand, 1) := by decide +kernel
theorem dL_up_4 : decode cL_up 4 = .ok (.iload_n 1, 1) := by decide +kernel
theorem dL_up_5 : decode cL_up 5 = .ok (.irem, 1) := by decide +kernel
theorem dL_up_6 : decode cL_up 6 = .ok (.ireturn, 1) := by decide +kernel
set_option maxRecDepth 20000 in
theorem ggL_number_X5_type : GoodIn wsL_number wsX5_type := goodIn_r _ [5, 6, 7, 8, 9, 10, 11, 12, 13, 14, 15, 16, 17, 18, 19, 20, 21, 22, 23, 24, 25, 26, 27] (by decide +kernel) (by decide +kernel)
set_option maxRecDepth 20000 in
theorem gL_number_X5_type : GoodIn wsL_number (wsV RL 9 RX5 yX5_type wsX5_type) := goodIn_app (goodIn_of _ (by decide +kernel)) ggL_number_X5_type
theorem dL_number_0 : decode cL_number 0 = .ok (.iload_n 1, 1) := by decide +kernel
theorem dL_number_1 : decode cL_number 1 = .ok (.bipush 100, 2) := by decide +kernel
theorem dL_number_3 : decode cL_number 3 = .ok (.if_icmp .lt 18, 3) := by decide +kernel
theorem dL_number_6 : decode cL_number 6 = .ok (.aload_n 0, 1) := by decide +kernel
theorem dL_number_7 : decode cL_number 7 = .ok (.bipush 48, 2) := by decide +kernel
theorem dL_number_9 : decode cL_number 9 = .ok (.iload_n 1, 1) := by decide +kernel
theorem dL_number_10 : decode cL_number 10 = .ok (.bipush 100, 2) := by decide +kernel
theorem dL_number_12 : decode cL_number 12 = .ok (.idiv, 1) := by decide +kernel
theorem dL_number_13 : decode cL_number 13 = .ok (.iadd, 1) := by decide +kernel
theorem dL_number_14 : decode cL_number 14 = .ok (.i2c, 1) := by decide +kernel
theorem dL_number_15 : decode cL_number 15 = .ok (.invokevirtual 9, 3) := by decide +kernel
theorem dL_number_18 : decode cL_number 18 = .ok (.ifCond .le 46, 3) := by decide +kernel
theorem dL_number_21 : decode cL_number 21 = .ok (.iload_n 1, 1) := by decide +kernel
theorem dL_number_22 : decode cL_number 22 = .ok (.bipush 10, 2) := by decide +kernel
theorem dL_number_24 : decode cL_number 24 = .ok (.if_icmp .lt 21, 3) := by decide +kernel
theorem dL_number_27 : decode cL_number 27 = .ok (.aload_n 0, 1) := by decide +kernel
theorem dL_number_28 : decode cL_number 28 = .ok (.bipush 48, 2) := by decide +kernel
theorem dL_number_30 : decode cL_number 30 = .ok (.iload_n 1, 1) := by decide +kernel
theorem dL_number_31 : decode cL_number 31 = .ok (.bipush 10, 2) := by decide +kernel
theorem dL_number_33 : decode cL_number 33 = .ok (.idiv, 1) := by decide +kernel
theorem dL_number_34 : decode cL_number 34 = .ok (.bipush 10, 2) := by decide +kernel
theorem dL_number_36 : decode cL_number 36 = .ok (.irem, 1) := by decide +kernel
theorem dL_number_37 : decode cL_number 37 = .ok (.iadd, 1) := by decide +kernel
theorem dL_number_38 : decode cL_number 38 = .ok (.i2c, 1) := by decide +kernel
theorem dL_number_39 : decode cL_number 39 = .ok (.invokevirtual 9, 3) := by decide +kernel
theorem dL_number_42 : decode cL_number 42 = .ok (.ifCond .le 22, 3) := by decide +kernel
theorem dL_number_45 : decode cL_number 45 = .ok (.aload_n 0, 1) := by decide +kernel
theorem dL_number_46 : decode cL_number 46 = .ok (.bipush 48, 2) := by decide +kernel
theorem dL_number_48 : decode cL_number 48 = .ok (.iload_n 1, 1) := by decide +kernel
theorem dL_number_49 : decode cL_number 49 = .ok (.bipush 10, 2) := by decide +kernel
theorem dL_number_51 : decode cL_number 51 = .ok (.irem, 1) := by decide +kernel
theorem dL_number_52 : decode cL_number 52 = .ok (.iadd, 1) := by decide +kernel
theorem dL_number_53 : decode cL_number 53 = .ok (.i2c, 1) := by decide +kernel
theorem dL_number_54 : decode cL_number 54 = .ok (.invokevirtual 9, 3) := by decide +kernel
theorem dL_number_57 : decode cL_number 57 = .ok (.ifCond .le 7, 3) := by decide +kernel
theorem dL_number_60 : decode cL_number 60 = .ok (.iconst 1, 1) := by decide +kernel
theorem dL_number_61 : decode cL_number 61 = .ok (.goto 4, 3) := by decide +kernel
theorem dL_number_64 : decode cL_number 64 = .ok (.iconst 0, 1) := by decide +kernel
theorem dL_number_65 : decode cL_number 65 = .ok (.ireturn, 1) := by decide +kernel
set_option maxRecDepth 20000 in
theorem ggL_isAskedByText_X5_clearText : GoodIn wsL_isAskedByText wsX5_clearText := goodIn_r _ [5, 6, 7, 105, 106, 107, 108, 109, 110, 111, 112, 113, 114, 115, 116, 117] (by decide +kernel) (by decide +kernel)
set_option maxRecDepth 20000 in
theorem gL_isAskedByText_X5_clearText : GoodIn wsL_isAskedByText (wsV RL 15 RX5 yX5_clearText wsX5_clearText) := goodIn_app (goodIn_of _ (by decide +kernel)) ggL_isAskedByText_X5_clearText
set_option maxRecDepth 20000 in
theorem ggL_isAskedByText_L_number : GoodIn wsL_isAskedByText wsL_number := goodIn_r _ [11, 12, 13, 14, 4, 15, 6, 7, 16, 17, 18, 19, 20, 21, 22, 105, 106, 107, 108, 109, 110, 111, 112, 113, 114, 115, 116, 117] (by decide +kernel) (by decide +kernel)
set_option maxRecDepth 20000 in
theorem gL_isAskedByText_L_number : GoodIn wsL_isAskedByText (va_wsS RL 19 yL_number wsL_number) := goodIn_app (goodIn_of _ (by decide +kernel)) ggL_isAskedByText_L_number
set_option maxRecDepth 20000 in
theorem ggL_isAskedByText_X5_type : GoodIn wsL_isAskedByText wsX5_type := goodIn_r _ [15, 6, 7, 16, 17, 18, 19, 20, 21, 22, 105, 106, 107, 108, 109, 110, 111, 112, 113, 114, 115, 116, 117] (by decide +kernel) (by decide +kernel)
set_option maxRecDepth 20000 in
theorem gL_isAskedByText_X5_type : GoodIn wsL_isAskedByText (wsV RL 9 RX5 yX5_type wsX5_type) := goodIn_app (goodIn_of _ (by decide +kernel)) ggL_isAskedByText_X5_type
set_option maxRecDepth 20000 in
theorem ggL_isAskedByText_X5_fault : GoodIn wsL_isAskedByText wsX5_fault := goodIn_r _ [26, 6, 27, 28, 29, 19, 30, 31, 21, 22, 32, 33, 34, 35, 36, 37, 38, 39, 40, 41, 42, 105, 106, 107, 108, 109, 110, 111, 112, 113, 114, 115, 116, 117] (by decide +kernel) (by decide +kernel)
set_option maxRecDepth 20000 in
theorem gL_isAskedByText_X5_fault : GoodIn wsL_isAskedByText (wsV RL 25 RX5 yX5_fault wsX5_fault) := goodIn_app (goodIn_of _ (by decide +kernel)) ggL_isAskedByText_X5_fault
set_option maxRecDepth 20000 in
theorem ggL_isAskedByText_X5_askAll : GoodIn wsL_isAskedByText wsX5_askAll := goodIn_r _ [46, 6, 47, 48, 27, 28, 29, 19, 30, 31, 21, 22, 32, 33, 34, 35, 36, 37, 38, 39, 40, 41, 42, 49, 50, 51, 52, 53, 54, 55, 56, 57, 58, 59, 60, 61, 62, 63, 64, 65, 66, 67, 68, 69, 70, 71, 72, 73, 74, 75, 4, 76, 77, 78, 79, 80, 81, 82, 83, 84, 85, 86, 87, 88, 89, 90, 91, 92, 93, 94, 95, 96, 97, 98, 99, 100, 101, 102, 103, 104, 105, 106, 107, 108, 109, 110, 111, 112, 113, 114, 115, 116, 117, 118, 119, 120, 121, 122, 123, 124, 125, 126, 127] (by decide +kernel) (by decide +kernel)
set_option maxRecDepth 20000 in
theorem gL_isAskedByText_X5_askAll : GoodIn wsL_isAskedByText (wsV RL 28 RX5 yX5_askAll wsX5_askAll) := goodIn_app (goodIn_of _ (by decide +kernel)) ggL_isAskedByText_X5_askAll
theorem dL_isAskedByText_0 : decode cL_isAskedByText 0 = .ok (.aload_n 0, 1) := by decide +kernel
theorem dL_isAskedByText_1 : decode cL_isAskedByText 1 = .ok (.invokevirtual 15, 3) := by decide +kernel
theorem dL_isAskedByText_4 : decode cL_isAskedByText 4 = .ok (.ifCond .lt 103, 3) := by decide +kernel
theorem dL_isAskedByText_7 : decode cL_isAskedByText 7 = .ok (.aload_n 0, 1) := by decide +kernel
theorem dL_isAskedByText_8 : decode cL_isAskedByText 8 = .ok (.iload_n 1, 1) := by decide +kernel
theorem dL_isAskedByText_9 : decode cL_isAskedByText 9 = .ok (.invokestatic 19, 3) := by decide +kernel
theorem dL_isAskedByText_12 : decode cL_isAskedByText 12 = .ok (.ifCond .eq 95, 3) := by decide +kernel
theorem dL_isAskedByText_15 : decode cL_isAskedByText 15 = .ok (.aload_n 0, 1) := by decide +kernel
theorem dL_isAskedByText_16 : decode cL_isAskedByText 16 = .ok (.bipush 44, 2) := by decide +kernel
theorem dL_isAskedByText_18 : decode cL_isAskedByText 18 = .ok (.invokevirtual 9, 3) := by decide +kernel
theorem dL_isAskedByText_21 : decode cL_isAskedByText 21 = .ok (.ifCond .le 86, 3) := by decide +kernel
theorem dL_isAskedByText_24 : decode cL_isAskedByText 24 = .ok (.aload_n 0, 1) := by decide +kernel
theorem dL_isAskedByText_25 : decode cL_isAskedByText 25 = .ok (.iload_n 2, 1) := by decide +kernel
theorem dL_isAskedByText_26 : decode cL_isAskedByText 26 = .ok (.invokestatic 19, 3) := by decide +kernel
theorem dL_isAskedByText_29 : decode cL_isAskedByText 29 = .ok (.ifCond .eq 78, 3) := by decide +kernel
theorem dL_isAskedByText_32 : decode cL_isAskedByText 32 = .ok (.aload_n 0, 1) := by decide +kernel
theorem dL_isAskedByText_33 : decode cL_isAskedByText 33 = .ok (.bipush 43, 2) := by decide +kernel
theorem dL_isAskedByText_35 : decode cL_isAskedByText 35 = .ok (.invokevirtual 9, 3) := by decide +kernel
theorem dL_isAskedByText_38 : decode cL_isAskedByText 38 = .ok (.ifCond .le 69, 3) := by decide +kernel
theorem dL_isAskedByText_41 : decode cL_isAskedByText 41 = .ok (.aload_n 0, 1) := by decide +kernel
theorem dL_isAskedByText_42 : decode cL_isAskedByText 42 = .ok (.iload_n 3, 1) := by decide +kernel
theorem dL_isAskedByText_43 : decode cL_isAskedByText 43 = .ok (.invokestatic 19, 3) := by decide +kernel
theorem dL_isAskedByText_46 : decode cL_isAskedByText 46 = .ok (.ifCond .eq 61, 3) := by decide +kernel
theorem dL_isAskedByText_49 : decode cL_isAskedByText 49 = .ok (.aload_n 0, 1) := by decide +kernel
theorem dL_isAskedByText_50 : decode cL_isAskedByText 50 = .ok (.bipush 120, 2) := by decide +kernel
theorem dL_isAskedByText_52 : decode cL_isAskedByText 52 = .ok (.invokevirtual 9, 3) := by decide +kernel
theorem dL_isAskedByText_55 : decode cL_isAskedByText 55 = .ok (.ifCond .le 52, 3) := by decide +kernel
theorem dL_isAskedByText_58 : decode cL_isAskedByText 58 = .ok (.aload_n 0, 1) := by decide +kernel
theorem dL_isAskedByText_59 : decode cL_isAskedByText 59 = .ok (.iload 4, 2) := by decide +kernel
theorem dL_isAskedByText_61 : decode cL_isAskedByText 61 = .ok (.invokestatic 19, 3) := by decide +kernel
theorem dL_isAskedByText_64 : decode cL_isAskedByText 64 = .ok (.ifCond .eq 43, 3) := by decide +kernel
theorem dL_isAskedByText_67 : decode cL_isAskedByText 67 = .ok (.aload_n 0, 1) := by decide +kernel
theorem dL_isAskedByText_68 : decode cL_isAskedByText 68 = .ok (.bipush 61, 2) := by decide +kernel
theorem dL_isAskedByText_70 : decode cL_isAskedByText 70 = .ok (.invokevirtual 9, 3) := by decide +kernel
theorem dL_isAskedByText_73 : decode cL_isAskedByText 73 = .ok (.ifCond .le 34, 3) := by decide +kernel
theorem dL_isAskedByText_76 : decode cL_isAskedByText 76 = .ok (.aload_n 0, 1) := by decide +kernel
theorem dL_isAskedByText_77 : decode cL_isAskedByText 77 = .ok (.iload 5, 2) := by decide +kernel
theorem dL_isAskedByText_79 : decode cL_isAskedByText 79 = .ok (.invokestatic 19, 3) := by decide +kernel
theorem dL_isAskedByText_82 : decode cL_isAskedByText 82 = .ok (.ifCond .eq 25, 3) := by decide +kernel
theorem dL_isAskedByText_85 : decode cL_isAskedByText 85 = .ok (.aload_n 0, 1) := by decide +kernel
theorem dL_isAskedByText_86 : decode cL_isAskedByText 86 = .ok (.invokevirtual 25, 3) := by decide +kernel
theorem dL_isAskedByText_89 : decode cL_isAskedByText 89 = .ok (.bipush (-5), 2) := by decide +kernel
theorem dL_isAskedByText_91 : decode cL_isAskedByText 91 = .ok (.if_icmp .ne 16, 3) := by decide +kernel
theorem dL_isAskedByText_94 : decode cL_isAskedByText 94 = .ok (.aload_n 0, 1) := by decide +kernel
theorem dL_isAskedByText_95 : decode cL_isAskedByText 95 = .ok (.invokevirtual 28, 3) := by decide +kernel
theorem dL_isAskedByText_98 : decode cL_isAskedByText 98 = .ok (.iload 6, 2) := by decide +kernel
theorem dL_isAskedByText_100 : decode cL_isAskedByText 100 = .ok (.if_icmp .ne 7, 3) := by decide +kernel
theorem dL_isAskedByText_103 : decode cL_isAskedByText 103 = .ok (.iconst 1, 1) := by decide +kernel
theorem dL_isAskedByText_104 : decode cL_isAskedByText 104 = .ok (.goto 4, 3) := by decide +kernel
theorem dL_isAskedByText_107 : decode cL_isAskedByText 107 = .ok (.iconst 0, 1) := by decide +kernel
theorem dL_isAskedByText_108 : decode cL_isAskedByText 108 = .ok (.ireturn, 1) := by decide +kernel
set_option maxRecDepth 20000 in
theorem ggL_isStep_X5_count : GoodIn wsL_isStep wsX5_count := goodIn_r _ [5, 6, 7, 8, 9, 10, 11, 12, 13, 14, 15, 16, 17, 18, 19, 20, 21, 22, 23, 24, 25, 26, 27, 28, 4, 29, 30, 31, 32, 33, 34, 35, 36, 37, 38, 39, 40, 41, 42, 43, 44, 45, 46, 47, 48, 49, 50, 51, 52, 53, 54, 55, 56, 57, 58, 59, 60, 61, 62, 63, 64, 65, 66, 67, 68, 69, 70, 71, 72, 73, 74, 75, 76, 77, 78, 79, 80, 81, 82, 83, 84, 85, 86, 87, 88, 89, 90, 91, 92, 93, 94, 95, 96, 97, 98, 99, 100, 101, 102, 103, 104, 105, 106, 107, 108, 109, 110, 111, 112, 113, 114, 115, 116, 117, 118, 119, 120, 121, 122, 123, 124, 125, 126, 127, 128, 129, 130, 131, 132, 133, 134, 135, 136, 137, 138, 139, 140, 141, 142, 143, 144, 145, 146, 147, 148, 149, 150, 151, 152, 153, 154, 155, 156, 157, 158, 159, 160, 161, 162, 163, 354, 355, 356, 357, 358, 359, 360, 361, 362, 363, 364, 365, 366, 367, 368, 369, 370, 371, 372, 373, 374, 375, 376, 377, 378, 379, 380, 381, 382, 383] (by decide +kernel) (by decide +kernel)
set_option maxRecDepth 20000 in
theorem gL_isStep_X5_count : GoodIn wsL_isStep (wsV RL 31 RX5 yX5_count wsX5_count) := goodIn_app (goodIn_of _ (by decide +kernel)) ggL_isStep_X5_count
set_option maxRecDepth 20000 in
theorem ggL_isStep_L_up : GoodIn wsL_isStep wsL_up := goodIn_r _ [167, 168] (by decide +kernel) (by decide +kernel)
set_option maxRecDepth 20000 in
theorem gL_isStep_L_up : GoodIn wsL_isStep (va_wsS RL 35 yL_up wsL_up) := goodIn_app (goodIn_of _ (by decide +kernel)) ggL_isStep_L_up
set_option maxRecDepth 20000 in
theorem ggL_isStep_X5_set : GoodIn wsL_isStep wsX5_set := goodIn_r _ [172, 173, 174, 6, 7, 11, 175, 176, 177, 178, 179, 180, 181, 182, 183, 184, 185, 18, 186, 53, 187, 188, 189, 190, 20, 84, 25, 191, 192, 193, 354, 355, 356, 357, 358, 359, 360, 361, 362, 363, 364, 365, 366, 367, 368, 369, 370, 371, 372] (by decide +kernel) (by decide +kernel)
set_option maxRecDepth 20000 in
theorem gL_isStep_X5_set : GoodIn wsL_isStep (wsV RL 39 RX5 yX5_set wsX5_set) := goodIn_app (goodIn_of _ (by decide +kernel)) ggL_isStep_X5_set
set_option maxRecDepth 20000 in
theorem ggL_isStep_X5_zone : GoodIn wsL_isStep wsX5_zone := goodIn_r _ [197, 6, 32, 30, 31, 198, 119, 120, 121, 199, 200, 4, 201, 40, 41, 42, 43, 44, 45, 46, 47, 48, 49, 50, 51, 18, 52, 53, 54, 38, 35, 39, 55, 56, 57, 58, 59, 60, 61, 62, 63, 64, 65, 66, 67, 68, 69, 70, 71, 72, 73, 74, 75, 76, 77, 78, 79, 80, 81, 82, 83, 84, 85, 86, 33, 34, 36, 37, 87, 88, 89, 90, 91, 92, 93, 94, 95, 96, 97, 98, 99, 100, 101, 102, 103, 104, 105, 106, 107, 108, 109, 110, 111, 112, 113, 114, 202, 144, 145, 146, 20, 147, 203, 204, 205, 206, 207, 208, 127, 209, 129, 130, 131, 132, 133, 134, 135, 136, 137, 138, 139, 140, 141, 142, 143, 148, 149, 150, 151, 152, 153, 154, 155, 156, 157, 158, 159, 160, 161, 162, 163, 354, 355, 356, 357, 358, 359, 360, 361, 362, 363, 364, 365, 366, 367, 368, 369, 377, 378, 379, 380, 381, 382, 383] (by decide +kernel) (by decide +kernel)
set_option maxRecDepth 20000 in
theorem gL_isStep_X5_zone : GoodIn wsL_isStep (wsV RL 42 RX5 yX5_zone wsX5_zone) := goodIn_app (goodIn_of _ (by decide +kernel)) ggL_isStep_X5_zone
set_option maxRecDepth 20000 in
theorem ggL_isStep_X5_kill : GoodIn wsL_isStep wsX5_kill := goodIn_r _ [213, 6, 198, 11, 32, 199, 200, 4, 201, 175, 176, 177, 178, 179, 180, 181, 182, 183, 184, 185, 18, 186, 53, 187, 188, 189, 190, 20, 84, 25, 191, 192, 193, 354, 355, 356, 357, 358, 359, 360, 361, 362, 363, 364, 365, 366, 367, 368, 369, 370, 371, 372] (by decide +kernel) (by decide +kernel)
set_option maxRecDepth 20000 in
theorem gL_isStep_X5_kill : GoodIn wsL_isStep (wsV RL 45 RX5 yX5_kill wsX5_kill) := goodIn_app (goodIn_of _ (by decide +kernel)) ggL_isStep_X5_kill
set_option maxRecDepth 20000 in
theorem ggL_isStep_X5_move : GoodIn wsL_isStep wsX5_move := goodIn_r _ [217, 11, 6, 218, 219, 220, 175, 176, 177, 178, 179, 180, 181, 182, 183, 184, 185, 18, 186, 53, 187, 188, 189, 190, 20, 84, 25, 191, 192, 193, 221, 222, 223, 4, 224, 225, 226, 227, 228, 229, 230, 231, 232, 58, 59, 233, 234, 235, 236, 354, 355, 356, 357, 358, 359, 360, 361, 362, 370, 371, 372, 363, 364, 365, 366, 367, 368, 369] (by decide +kernel) (by decide +kernel)
set_option maxRecDepth 20000 in
theorem gL_isStep_X5_move : GoodIn wsL_isStep (wsV RL 49 RX5 yX5_move wsX5_move) := goodIn_app (goodIn_of _ (by decide +kernel)) ggL_isStep_X5_move
set_option maxRecDepth 20000 in
theorem ggL_isStep_X5_spot : GoodIn wsL_isStep wsX5_spot := goodIn_r _ [240, 6, 225, 241, 231, 4, 232, 57, 58, 59, 202, 144, 145, 18, 146, 20, 147, 81, 82, 83, 84, 85, 86, 33, 34, 35, 36, 37, 38, 39, 87, 88, 89, 65, 66, 242, 152, 153, 154, 97, 98, 243, 149, 150, 151, 54, 155, 112, 113, 114, 244, 162, 163, 354, 355, 356, 357, 358, 359, 360, 361, 362, 363, 364, 365, 366, 367, 368, 369] (by decide +kernel) (by decide +kernel)
set_option maxRecDepth 20000 in
theorem gL_isStep_X5_spot : GoodIn wsL_isStep (wsV RL 52 RX5 yX5_spot wsX5_spot) := goodIn_app (goodIn_of _ (by decide +kernel)) ggL_isStep_X5_spot
set_option maxRecDepth 20000 in
theorem ggL_isStep_X5_restsIn : GoodIn wsL_isStep wsX5_restsIn := goodIn_r _ [248, 6, 7, 26, 27, 28, 4, 29, 30, 31, 32, 33, 34, 35, 36, 37, 38, 39, 40, 41, 42, 43, 44, 45, 46, 47, 48, 49, 50, 51, 18, 52, 53, 54, 55, 56, 57, 58, 59, 60, 61, 62, 63, 64, 65, 66, 67, 68, 69, 70, 71, 72, 73, 74, 75, 76, 77, 78, 79, 80, 81, 82, 83, 84, 85, 86, 87, 88, 89, 90, 91, 92, 93, 94, 95, 96, 97, 98, 99, 100, 101, 102, 103, 104, 105, 106, 107, 108, 109, 110, 111, 112, 113, 114, 154, 354, 355, 356, 357, 358, 359, 360, 361, 362, 363, 364, 365, 366, 367, 368, 369, 377, 378] (by decide +kernel) (by decide +kernel)
set_option maxRecDepth 20000 in
theorem gL_isStep_X5_restsIn : GoodIn wsL_isStep (wsV RL 56 RX5 yX5_restsIn wsX5_restsIn) := goodIn_app (goodIn_of _ (by decide +kernel)) ggL_isStep_X5_restsIn
set_option maxRecDepth 20000 in
theorem ggL_isStep_X5_pass : GoodIn wsL_isStep wsX5_pass := goodIn_r _ [252, 11, 6, 30, 31, 175, 176, 177, 178, 179, 180, 181, 182, 183, 184, 185, 18, 186, 53, 187, 188, 189, 190, 20, 84, 25, 191, 192, 193, 40, 41, 42, 43, 44, 45, 46, 47, 48, 49, 50, 51, 52, 54, 38, 35, 39, 55, 4, 56, 57, 58, 59, 60, 61, 62, 63, 64, 65, 66, 67, 68, 69, 70, 71, 72, 73, 74, 75, 76, 77, 78, 79, 80, 81, 82, 83, 85, 86, 33, 34, 36, 37, 87, 88, 89, 90, 91, 92, 93, 94, 95, 96, 97, 98, 99, 100, 101, 102, 103, 104, 105, 106, 107, 108, 109, 110, 111, 112, 113, 114, 253, 254, 255, 256, 257, 258, 259, 16, 17, 19, 15, 354, 355, 356, 357, 358, 359, 360, 361, 362, 377, 378, 370, 371, 372, 363, 364, 365, 366, 367, 368, 369] (by decide +kernel) (by decide +kernel)
set_option maxRecDepth 20000 in
theorem gL_isStep_X5_pass : GoodIn wsL_isStep (wsV RL 59 RX5 yX5_pass wsX5_pass) := goodIn_app (goodIn_of _ (by decide +kernel)) ggL_isStep_X5_pass
set_option maxRecDepth 20000 in
theorem ggL_isStep_L_areAlike : GoodIn wsL_isStep wsL_areAlike := goodIn_r _ [262, 263, 264, 265, 4, 266, 119, 6, 267, 268, 124, 125, 126, 127, 128, 129, 130, 131, 132, 133, 134, 135, 136, 137, 138, 139, 140, 141, 142, 143, 144, 145, 18, 146, 20, 147, 81, 82, 83, 84, 85, 86, 33, 34, 35, 36, 37, 38, 39, 87, 88, 89, 65, 66, 55, 56, 57, 58, 59, 148, 149, 150, 151, 54, 152, 153, 154, 97, 98, 155, 112, 113, 114, 156, 157, 158, 159, 160, 161, 162, 163, 245, 246, 247, 248, 7, 26, 27, 28, 29, 30, 31, 32, 40, 41, 42, 43, 44, 45, 46, 47, 48, 49, 50, 51, 52, 53, 60, 61, 62, 63, 64, 67, 68, 69, 70, 71, 72, 73, 74, 75, 76, 77, 78, 79, 80, 90, 91, 92, 93, 94, 95, 96, 99, 100, 101, 102, 103, 104, 105, 106, 107, 108, 109, 110, 111, 269, 270, 271, 272, 273, 122, 274, 184, 185, 186, 187, 188, 189, 190, 25, 191, 192, 193, 275, 276, 277, 278, 226, 15, 16, 17, 19, 279, 280, 281, 282, 1, 2, 3, 5, 8, 9, 10, 11, 12, 13, 14, 21, 22, 23, 24, 115, 116, 117, 118, 120, 121, 123, 194, 195, 196, 197, 198, 199, 200, 201, 202, 203, 204, 205, 206, 207, 208, 209, 354, 355, 356, 357, 358, 359, 360, 361, 362, 379, 380, 381, 382, 383, 363, 364, 365, 366, 367, 368, 369, 377, 378, 370, 371, 372, 373, 374, 375, 376] (by decide +kernel) (by decide +kernel)
set_option maxRecDepth 20000 in
theorem gL_isStep_L_areAlike : GoodIn wsL_isStep (va_wsS RL 62 yL_areAlike wsL_areAlike) := goodIn_app (goodIn_of _ (by decide +kernel)) ggL_isStep_L_areAlike
set_option maxRecDepth 20000 in
theorem ggL_isStep_X5_keep : GoodIn wsL_isStep wsX5_keep := goodIn_r _ [286, 287, 6, 288, 8, 274, 184, 185, 18, 186, 53, 187, 188, 189, 190, 20, 84, 25, 191, 192, 193, 354, 355, 356, 357, 358, 359, 360, 361, 362, 363, 364, 365, 366, 367, 368, 369] (by decide +kernel) (by decide +kernel)
set_option maxRecDepth 20000 in
theorem gL_isStep_X5_keep : GoodIn wsL_isStep (wsV RL 66 RX5 yX5_keep wsX5_keep) := goodIn_app (goodIn_of _ (by decide +kernel)) ggL_isStep_X5_keep
set_option maxRecDepth 20000 in
theorem ggL_isStep_X5_restore : GoodIn wsL_isStep wsX5_restore := goodIn_r _ [292, 288, 11, 6, 287, 8, 175, 176, 177, 178, 179, 180, 181, 182, 183, 184, 185, 18, 186, 53, 187, 188, 189, 190, 20, 84, 25, 191, 192, 193, 274, 354, 355, 356, 357, 358, 359, 360, 361, 362, 363, 364, 365, 366, 367, 368, 369, 370, 371, 372] (by decide +kernel) (by decide +kernel)
set_option maxRecDepth 20000 in
theorem gL_isStep_X5_restore : GoodIn wsL_isStep (wsV RL 69 RX5 yX5_restore wsX5_restore) := goodIn_app (goodIn_of _ (by decide +kernel)) ggL_isStep_X5_restore
set_option maxRecDepth 20000 in
theorem ggL_isStep_X5_ask : GoodIn wsL_isStep wsX5_ask := goodIn_r _ [296, 6, 225, 11, 241, 231, 4, 232, 57, 58, 59, 175, 176, 177, 178, 179, 180, 181, 182, 183, 184, 185, 18, 186, 53, 187, 188, 189, 190, 20, 84, 25, 191, 192, 193, 354, 355, 356, 357, 358, 359, 360, 361, 362, 363, 364, 365, 366, 367, 368, 369, 370, 371, 372] (by decide +kernel) (by decide +kernel)
set_option maxRecDepth 20000 in
theorem gL_isStep_X5_ask : GoodIn wsL_isStep (wsV RL 72 RX5 yX5_ask wsX5_ask) := goodIn_app (goodIn_of _ (by decide +kernel)) ggL_isStep_X5_ask
set_option maxRecDepth 20000 in
theorem ggL_isStep_L_isAskedByText : GoodIn wsL_isStep wsL_isAskedByText := goodIn_r _ [299, 300, 301, 302, 4, 303, 13, 14, 304, 305, 166, 306, 307, 308, 309, 310, 311, 312, 313, 314, 315, 316, 317, 318, 319, 320, 321, 322, 323, 324, 325, 326, 327, 328, 329, 330, 331, 332, 333, 334, 335, 336, 337, 338, 339, 340, 341, 11, 6, 175, 176, 177, 178, 179, 180, 181, 182, 183, 184, 185, 18, 186, 53, 187, 188, 189, 190, 20, 84, 25, 191, 192, 193, 221, 222, 223, 224, 225, 218, 226, 342, 343, 344, 345, 346, 347, 348, 349, 350, 351, 352, 353, 257, 65, 35, 66, 54, 38, 39, 58, 59, 233, 234, 235, 236, 354, 355, 356, 357, 358, 359, 360, 361, 362, 373, 374, 375, 376, 370, 371, 372, 363, 364, 365, 366, 367, 368, 369] (by decide +kernel) (by decide +kernel)
set_option maxRecDepth 20000 in
theorem gL_isStep_L_isAskedByText : GoodIn wsL_isStep (va_wsS RL 75 yL_isAskedByText wsL_isAskedByText) := goodIn_app (goodIn_of _ (by decide +kernel)) ggL_isStep_L_isAskedByText
theorem dL_isStep_0 : decode cL_isStep 0 = .ok (.iload_n 2, 1) := by decide +kernel
theorem dL_isStep_1 : decode cL_isStep 1 = .ok (.iconst 4, 1) := by decide +kernel
theorem dL_isStep_2 : decode cL_isStep 2 = .ok (.ishr, 1) := by decide +kernel
theorem dL_isStep_3 : decode cL_isStep 3 = .ok (.istore 4, 2) := by decide +kernel
theorem dL_isStep_5 : decode cL_isStep 5 = .ok (.aload_n 0, 1) := by decide +kernel
theorem dL_isStep_6 : decode cL_isStep 6 = .ok (.iconst 1, 1) := by decide +kernel
theorem dL_isStep_7 : decode cL_isStep 7 = .ok (.invokevirtual 31, 3) := by decide +kernel
theorem dL_isStep_10 : decode cL_isStep 10 = .ok (.istore 5, 2) := by decide +kernel
theorem dL_isStep_12 : decode cL_isStep 12 = .ok (.aload_n 0, 1) := by decide +kernel
theorem dL_isStep_13 : decode cL_isStep 13 = .ok (.iconst 2, 1) := by decide +kernel
theorem dL_isStep_14 : decode cL_isStep 14 = .ok (.invokevirtual 31, 3) := by decide +kernel
theorem dL_isStep_17 : decode cL_isStep 17 = .ok (.istore 6, 2) := by decide +kernel
theorem dL_isStep_19 : decode cL_isStep 19 = .ok (.iload_n 2, 1) := by decide +kernel
theorem dL_isStep_20 : decode cL_isStep 20 = .ok (.bipush 14, 2) := by decide +kernel
theorem dL_isStep_22 : decode cL_isStep 22 = .ok (.invokestatic 35, 3) := by decide +kernel
theorem dL_isStep_25 : decode cL_isStep 25 = .ok (.tableswitch 775 0 9 #[55, 55, 261, 261, 380, 550, 550, 550, 725, 731], 55) := by decide +kernel
theorem dL_isStep_80 : decode cL_isStep 80 = .ok (.iload 4, 2) := by decide +kernel
theorem dL_isStep_82 : decode cL_isStep 82 = .ok (.bipush 8, 2) := by decide +kernel
theorem dL_isStep_84 : decode cL_isStep 84 = .ok (.invokestatic 35, 3) := by decide +kernel
theorem dL_isStep_87 : decode cL_isStep 87 = .ok (.istore 7, 2) := by decide +kernel
theorem dL_isStep_89 : decode cL_isStep 89 = .ok (.iload 7, 2) := by decide +kernel
theorem dL_isStep_91 : decode cL_isStep 91 = .ok (.ifCond .ne 16, 3) := by decide +kernel
theorem dL_isStep_94 : decode cL_isStep 94 = .ok (.bipush 100, 2) := by decide +kernel
theorem dL_isStep_96 : decode cL_isStep 96 = .ok (.iload_n 3, 1) := by decide +kernel
theorem dL_isStep_97 : decode cL_isStep 97 = .ok (.sipush 157, 3) := by decide +kernel
theorem dL_isStep_100 : decode cL_isStep 100 = .ok (.invokestatic 35, 3) := by decide +kernel
theorem dL_isStep_103 : decode cL_isStep 103 = .ok (.iadd, 1) := by decide +kernel
theorem dL_isStep_104 : decode cL_isStep 104 = .ok (.goto 107, 3) := by decide +kernel
theorem dL_isStep_107 : decode cL_isStep 107 = .ok (.iload 7, 2) := by decide +kernel
theorem dL_isStep_109 : decode cL_isStep 109 = .ok (.iconst 1, 1) := by decide +kernel
theorem dL_isStep_110 : decode cL_isStep 110 = .ok (.if_icmp .ne 12, 3) := by decide +kernel
theorem dL_isStep_113 : decode cL_isStep 113 = .ok (.iload_n 3, 1) := by decide +kernel
theorem dL_isStep_114 : decode cL_isStep 114 = .ok (.bipush 31, 2) := by decide +kernel
theorem dL_isStep_116 : decode cL_isStep 116 = .ok (.invokestatic 35, 3) := by decide +kernel
theorem dL_isStep_119 : decode cL_isStep 119 = .ok (.goto 92, 3) := by decide +kernel
theorem dL_isStep_122 : decode cL_isStep 122 = .ok (.iload 7, 2) := by decide +kernel
theorem dL_isStep_124 : decode cL_isStep 124 = .ok (.iconst 2, 1) := by decide +kernel
theorem dL_isStep_125 : decode cL_isStep 125 = .ok (.if_icmp .eq 9, 3) := by decide +kernel
theorem dL_isStep_128 : decode cL_isStep 128 = .ok (.iload 7, 2) := by decide +kernel
theorem dL_isStep_130 : decode cL_isStep 130 = .ok (.iconst 4, 1) := by decide +kernel
theorem dL_isStep_131 : decode cL_isStep 131 = .ok (.if_icmp .ne 12, 3) := by decide +kernel
theorem dL_isStep_134 : decode cL_isStep 134 = .ok (.iload_n 3, 1) := by decide +kernel
theorem dL_isStep_135 : decode cL_isStep 135 = .ok (.bipush 10, 2) := by decide +kernel
theorem dL_isStep_137 : decode cL_isStep 137 = .ok (.invokestatic 35, 3) := by decide +kernel
theorem dL_isStep_140 : decode cL_isStep 140 = .ok (.goto 71, 3) := by decide +kernel
theorem dL_isStep_143 : decode cL_isStep 143 = .ok (.iload 7, 2) := by decide +kernel
theorem dL_isStep_145 : decode cL_isStep 145 = .ok (.iconst 3, 1) := by decide +kernel
theorem dL_isStep_146 : decode cL_isStep 146 = .ok (.if_icmp .ne 11, 3) := by decide +kernel
theorem dL_isStep_149 : decode cL_isStep 149 = .ok (.iload_n 3, 1) := by decide +kernel
theorem dL_isStep_150 : decode cL_isStep 150 = .ok (.iconst 3, 1) := by decide +kernel
theorem dL_isStep_151 : decode cL_isStep 151 = .ok (.invokestatic 35, 3) := by decide +kernel
theorem dL_isStep_154 : decode cL_isStep 154 = .ok (.goto 57, 3) := by decide +kernel
theorem dL_isStep_157 : decode cL_isStep 157 = .ok (.iload 7, 2) := by decide +kernel
theorem dL_isStep_159 : decode cL_isStep 159 = .ok (.iconst 5, 1) := by decide +kernel
theorem dL_isStep_160 : decode cL_isStep 160 = .ok (.if_icmp .ne 12, 3) := by decide +kernel
theorem dL_isStep_163 : decode cL_isStep 163 = .ok (.iload_n 3, 1) := by decide +kernel
theorem dL_isStep_164 : decode cL_isStep 164 = .ok (.bipush 51, 2) := by decide +kernel
theorem dL_isStep_166 : decode cL_isStep 166 = .ok (.invokestatic 35, 3) := by decide +kernel
theorem dL_isStep_169 : decode cL_isStep 169 = .ok (.goto 42, 3) := by decide +kernel
theorem dL_isStep_172 : decode cL_isStep 172 = .ok (.iload 7, 2) := by decide +kernel
theorem dL_isStep_174 : decode cL_isStep 174 = .ok (.bipush 6, 2) := by decide +kernel
theorem dL_isStep_176 : decode cL_isStep 176 = .ok (.if_icmp .ne 12, 3) := by decide +kernel
theorem dL_isStep_179 : decode cL_isStep 179 = .ok (.iload_n 3, 1) := by decide +kernel
theorem dL_isStep_180 : decode cL_isStep 180 = .ok (.bipush 21, 2) := by decide +kernel
theorem dL_isStep_182 : decode cL_isStep 182 = .ok (.invokestatic 35, 3) := by decide +kernel
theorem dL_isStep_185 : decode cL_isStep 185 = .ok (.goto 26, 3) := by decide +kernel
theorem dL_isStep_188 : decode cL_isStep 188 = .ok (.iconst 1, 1) := by decide +kernel
theorem dL_isStep_189 : decode cL_isStep 189 = .ok (.iload_n 3, 1) := by decide +kernel
theorem dL_isStep_190 : decode cL_isStep 190 = .ok (.iload 4, 2) := by decide +kernel
theorem dL_isStep_192 : decode cL_isStep 192 = .ok (.iconst 2, 1) := by decide +kernel
theorem dL_isStep_193 : decode cL_isStep 193 = .ok (.invokestatic 35, 3) := by decide +kernel
theorem dL_isStep_196 : decode cL_isStep 196 = .ok (.ifCond .ne 9, 3) := by decide +kernel
theorem dL_isStep_199 : decode cL_isStep 199 = .ok (.sipush 255, 3) := by decide +kernel
theorem dL_isStep_202 : decode cL_isStep 202 = .ok (.goto 5, 3) := by decide +kernel
theorem dL_isStep_205 : decode cL_isStep 205 = .ok (.bipush 30, 2) := by decide +kernel
theorem dL_isStep_207 : decode cL_isStep 207 = .ok (.invokestatic 35, 3) := by decide +kernel
theorem dL_isStep_210 : decode cL_isStep 210 = .ok (.iadd, 1) := by decide +kernel
theorem dL_isStep_211 : decode cL_isStep 211 = .ok (.istore 8, 2) := by decide +kernel
theorem dL_isStep_213 : decode cL_isStep 213 = .ok (.aload_n 0, 1) := by decide +kernel
theorem dL_isStep_214 : decode cL_isStep 214 = .ok (.bipush 13, 2) := by decide +kernel
theorem dL_isStep_216 : decode cL_isStep 216 = .ok (.iload 7, 2) := by decide +kernel
theorem dL_isStep_218 : decode cL_isStep 218 = .ok (.iadd, 1) := by decide +kernel
theorem dL_isStep_219 : decode cL_isStep 219 = .ok (.invokevirtual 31, 3) := by decide +kernel
theorem dL_isStep_222 : decode cL_isStep 222 = .ok (.istore 9, 2) := by decide +kernel
theorem dL_isStep_224 : decode cL_isStep 224 = .ok (.aload_n 0, 1) := by decide +kernel
theorem dL_isStep_225 : decode cL_isStep 225 = .ok (.iload 7, 2) := by decide +kernel
theorem dL_isStep_227 : decode cL_isStep 227 = .ok (.iload 8, 2) := by decide +kernel
theorem dL_isStep_229 : decode cL_isStep 229 = .ok (.invokevirtual 39, 3) := by decide +kernel
theorem dL_isStep_232 : decode cL_isStep 232 = .ok (.istore 10, 2) := by decide +kernel
theorem dL_isStep_234 : decode cL_isStep 234 = .ok (.iload 10, 2) := by decide +kernel
theorem dL_isStep_236 : decode cL_isStep 236 = .ok (.aload_n 1, 1) := by decide +kernel
theorem dL_isStep_237 : decode cL_isStep 237 = .ok (.iload 7, 2) := by decide +kernel
theorem dL_isStep_239 : decode cL_isStep 239 = .ok (.iload 8, 2) := by decide +kernel
theorem dL_isStep_241 : decode cL_isStep 241 = .ok (.invokevirtual 39, 3) := by decide +kernel
theorem dL_isStep_244 : decode cL_isStep 244 = .ok (.if_icmp .ne 40, 3) := by decide +kernel
theorem dL_isStep_247 : decode cL_isStep 247 = .ok (.iload 10, 2) := by decide +kernel
theorem dL_isStep_249 : decode cL_isStep 249 = .ok (.iload 9, 2) := by decide +kernel
theorem dL_isStep_251 : decode cL_isStep 251 = .ok (.iload 8, 2) := by decide +kernel
theorem dL_isStep_253 : decode cL_isStep 253 = .ok (.if_icmp .ne 8, 3) := by decide +kernel
theorem dL_isStep_256 : decode cL_isStep 256 = .ok (.bipush (-5), 2) := by decide +kernel
theorem dL_isStep_258 : decode cL_isStep 258 = .ok (.goto 5, 3) := by decide +kernel
theorem dL_isStep_261 : decode cL_isStep 261 = .ok (.iload 9, 2) := by decide +kernel
theorem dL_isStep_263 : decode cL_isStep 263 = .ok (.if_icmp .ne 21, 3) := by decide +kernel
theorem dL_isStep_266 : decode cL_isStep 266 = .ok (.aload_n 0, 1) := by decide +kernel
theorem dL_isStep_267 : decode cL_isStep 267 = .ok (.bipush 13, 2) := by decide +kernel
theorem dL_isStep_269 : decode cL_isStep 269 = .ok (.iload 7, 2) := by decide +kernel
theorem dL_isStep_271 : decode cL_isStep 271 = .ok (.iadd, 1) := by decide +kernel
theorem dL_isStep_272 : decode cL_isStep 272 = .ok (.invokevirtual 31, 3) := by decide +kernel
theorem dL_isStep_275 : decode cL_isStep 275 = .ok (.iload 8, 2) := by decide +kernel
theorem dL_isStep_277 : decode cL_isStep 277 = .ok (.if_icmp .ne 7, 3) := by decide +kernel
theorem dL_isStep_280 : decode cL_isStep 280 = .ok (.iconst 1, 1) := by decide +kernel
theorem dL_isStep_281 : decode cL_isStep 281 = .ok (.goto 4, 3) := by decide +kernel
theorem dL_isStep_284 : decode cL_isStep 284 = .ok (.iconst 0, 1) := by decide +kernel
theorem dL_isStep_285 : decode cL_isStep 285 = .ok (.ireturn, 1) := by decide +kernel
theorem dL_isStep_286 : decode cL_isStep 286 = .ok (.iload_n 3, 1) := by decide +kernel
theorem dL_isStep_287 : decode cL_isStep 287 = .ok (.bipush 18, 2) := by decide +kernel
theorem dL_isStep_289 : decode cL_isStep 289 = .ok (.invokestatic 35, 3) := by decide +kernel
theorem dL_isStep_292 : decode cL_isStep 292 = .ok (.istore 7, 2) := by decide +kernel
theorem dL_isStep_294 : decode cL_isStep 294 = .ok (.aload_n 0, 1) := by decide +kernel
theorem dL_isStep_295 : decode cL_isStep 295 = .ok (.iload 7, 2) := by decide +kernel
theorem dL_isStep_297 : decode cL_isStep 297 = .ok (.iconst 0, 1) := by decide +kernel
theorem dL_isStep_298 : decode cL_isStep 298 = .ok (.invokevirtual 42, 3) := by decide +kernel
theorem dL_isStep_301 : decode cL_isStep 301 = .ok (.istore 8, 2) := by decide +kernel
theorem dL_isStep_303 : decode cL_isStep 303 = .ok (.aload_n 0, 1) := by decide +kernel
theorem dL_isStep_304 : decode cL_isStep 304 = .ok (.iload 7, 2) := by decide +kernel
theorem dL_isStep_306 : decode cL_isStep 306 = .ok (.iconst 3, 1) := by decide +kernel
theorem dL_isStep_307 : decode cL_isStep 307 = .ok (.invokevirtual 42, 3) := by decide +kernel
theorem dL_isStep_310 : decode cL_isStep 310 = .ok (.ifCond .ne 7, 3) := by decide +kernel
theorem dL_isStep_313 : decode cL_isStep 313 = .ok (.iconst 1, 1) := by decide +kernel
theorem dL_isStep_314 : decode cL_isStep 314 = .ok (.goto 4, 3) := by decide +kernel
theorem dL_isStep_317 : decode cL_isStep 317 = .ok (.iconst 0, 1) := by decide +kernel
theorem dL_isStep_318 : decode cL_isStep 318 = .ok (.istore 9, 2) := by decide +kernel
theorem dL_isStep_320 : decode cL_isStep 320 = .ok (.aload_n 0, 1) := by decide +kernel
theorem dL_isStep_321 : decode cL_isStep 321 = .ok (.iload 7, 2) := by decide +kernel
theorem dL_isStep_323 : decode cL_isStep 323 = .ok (.iload 9, 2) := by decide +kernel
theorem dL_isStep_325 : decode cL_isStep 325 = .ok (.invokevirtual 45, 3) := by decide +kernel
theorem dL_isStep_328 : decode cL_isStep 328 = .ok (.iload 8, 2) := by decide +kernel
theorem dL_isStep_330 : decode cL_isStep 330 = .ok (.if_icmp .ne 73, 3) := by decide +kernel
theorem dL_isStep_333 : decode cL_isStep 333 = .ok (.aload_n 1, 1) := by decide +kernel
theorem dL_isStep_334 : decode cL_isStep 334 = .ok (.iload 7, 2) := by decide +kernel
theorem dL_isStep_336 : decode cL_isStep 336 = .ok (.iload 9, 2) := by decide +kernel
theorem dL_isStep_338 : decode cL_isStep 338 = .ok (.invokevirtual 45, 3) := by decide +kernel
theorem dL_isStep_341 : decode cL_isStep 341 = .ok (.iload 8, 2) := by decide +kernel
theorem dL_isStep_343 : decode cL_isStep 343 = .ok (.if_icmp .ne 60, 3) := by decide +kernel
theorem dL_isStep_346 : decode cL_isStep 346 = .ok (.aload_n 0, 1) := by decide +kernel
theorem dL_isStep_347 : decode cL_isStep 347 = .ok (.iload 7, 2) := by decide +kernel
theorem dL_isStep_349 : decode cL_isStep 349 = .ok (.iconst 0, 1) := by decide +kernel
theorem dL_isStep_350 : decode cL_isStep 350 = .ok (.invokevirtual 42, 3) := by decide +kernel
theorem dL_isStep_353 : decode cL_isStep 353 = .ok (.ifCond .ne 50, 3) := by decide +kernel
theorem dL_isStep_356 : decode cL_isStep 356 = .ok (.aload_n 0, 1) := by decide +kernel
theorem dL_isStep_357 : decode cL_isStep 357 = .ok (.iload 7, 2) := by decide +kernel
theorem dL_isStep_359 : decode cL_isStep 359 = .ok (.iconst 3, 1) := by decide +kernel
theorem dL_isStep_360 : decode cL_isStep 360 = .ok (.invokevirtual 42, 3) := by decide +kernel
theorem dL_isStep_363 : decode cL_isStep 363 = .ok (.iload 9, 2) := by decide +kernel
theorem dL_isStep_365 : decode cL_isStep 365 = .ok (.ifCond .eq 7, 3) := by decide +kernel
theorem dL_isStep_368 : decode cL_isStep 368 = .ok (.iconst 1, 1) := by decide +kernel
theorem dL_isStep_369 : decode cL_isStep 369 = .ok (.goto 4, 3) := by decide +kernel
theorem dL_isStep_372 : decode cL_isStep 372 = .ok (.iconst 0, 1) := by decide +kernel
theorem dL_isStep_373 : decode cL_isStep 373 = .ok (.if_icmp .ne 30, 3) := by decide +kernel
theorem dL_isStep_376 : decode cL_isStep 376 = .ok (.aload_n 0, 1) := by decide +kernel
theorem dL_isStep_377 : decode cL_isStep 377 = .ok (.iconst 1, 1) := by decide +kernel
theorem dL_isStep_378 : decode cL_isStep 378 = .ok (.invokevirtual 31, 3) := by decide +kernel
theorem dL_isStep_381 : decode cL_isStep 381 = .ok (.iload 5, 2) := by decide +kernel
theorem dL_isStep_383 : decode cL_isStep 383 = .ok (.iload 8, 2) := by decide +kernel
