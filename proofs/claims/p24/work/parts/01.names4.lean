theorem dX5_changedSpots_35 : decode cX5_changedSpots 35 = .ok (.goto (-31), 3) := by decide +kernel
theorem dX5_changedSpots_38 : decode cX5_changedSpots 38 = .ok (.iload_n 1, 1) := by decide +kernel
theorem dX5_changedSpots_39 : decode cX5_changedSpots 39 = .ok (.ireturn, 1) := by decide +kernel
set_option maxRecDepth 20000 in
theorem ggX5_countSpots_X4_takeAll : GoodIn wsX5_countSpots wsX4_takeAll := goodIn_r _ [11, 12, 13, 14, 10, 15, 16, 17, 18, 19, 20, 21, 22, 23, 24, 25, 26, 27, 28, 29, 30, 31, 32, 33, 34, 35, 36, 37, 38, 39, 40, 41, 42, 43, 44, 45, 46, 47, 48, 49, 50, 51, 52, 53, 54, 55, 56, 57, 58, 59, 60, 61, 62, 63, 64, 65, 66, 67, 68, 69, 70, 71, 72, 73, 74, 75, 76, 77, 78, 88, 89, 90, 91, 92, 93, 94, 95, 96, 97, 98, 99] (by decide +kernel) (by decide +kernel)
set_option maxRecDepth 20000 in
theorem gX5_countSpots_X4_takeAll : GoodIn wsX5_countSpots (wsV RX5 202 RX4 yX4_takeAll wsX4_takeAll) := goodIn_app (goodIn_of _ (by decide +kernel)) ggX5_countSpots_X4_takeAll
theorem dX5_countSpots_0 : decode cX5_countSpots 0 = .ok (.aload_n 0, 1) := by decide +kernel
theorem dX5_countSpots_1 : decode cX5_countSpots 1 = .ok (.getfield 50, 3) := by decide +kernel
theorem dX5_countSpots_4 : decode cX5_countSpots 4 = .ok (.aload_n 0, 1) := by decide +kernel
theorem dX5_countSpots_5 : decode cX5_countSpots 5 = .ok (.getfield 12, 3) := by decide +kernel
theorem dX5_countSpots_8 : decode cX5_countSpots 8 = .ok (.invokevirtual 202, 3) := by decide +kernel
theorem dX5_countSpots_11 : decode cX5_countSpots 11 = .ok (.iload_n 1, 1) := by decide +kernel
theorem dX5_countSpots_12 : decode cX5_countSpots 12 = .ok (.tableswitch 76 4 7 #[32, 52, 60, 68], 32) := by decide +kernel
theorem dX5_countSpots_44 : decode cX5_countSpots 44 = .ok (.sipush 288, 3) := by decide +kernel
theorem dX5_countSpots_47 : decode cX5_countSpots 47 = .ok (.aload_n 0, 1) := by decide +kernel
theorem dX5_countSpots_48 : decode cX5_countSpots 48 = .ok (.getfield 50, 3) := by decide +kernel
theorem dX5_countSpots_51 : decode cX5_countSpots 51 = .ok (.getfield 181, 3) := by decide +kernel
theorem dX5_countSpots_54 : decode cX5_countSpots 54 = .ok (.isub, 1) := by decide +kernel
theorem dX5_countSpots_55 : decode cX5_countSpots 55 = .ok (.aload_n 0, 1) := by decide +kernel
theorem dX5_countSpots_56 : decode cX5_countSpots 56 = .ok (.getfield 50, 3) := by decide +kernel
theorem dX5_countSpots_59 : decode cX5_countSpots 59 = .ok (.getfield 184, 3) := by decide +kernel
theorem dX5_countSpots_62 : decode cX5_countSpots 62 = .ok (.isub, 1) := by decide +kernel
theorem dX5_countSpots_63 : decode cX5_countSpots 63 = .ok (.ireturn, 1) := by decide +kernel
theorem dX5_countSpots_64 : decode cX5_countSpots 64 = .ok (.aload_n 0, 1) := by decide +kernel
theorem dX5_countSpots_65 : decode cX5_countSpots 65 = .ok (.getfield 50, 3) := by decide +kernel
theorem dX5_countSpots_68 : decode cX5_countSpots 68 = .ok (.getfield 181, 3) := by decide +kernel
theorem dX5_countSpots_71 : decode cX5_countSpots 71 = .ok (.ireturn, 1) := by decide +kernel
theorem dX5_countSpots_72 : decode cX5_countSpots 72 = .ok (.aload_n 0, 1) := by decide +kernel
theorem dX5_countSpots_73 : decode cX5_countSpots 73 = .ok (.getfield 50, 3) := by decide +kernel
theorem dX5_countSpots_76 : decode cX5_countSpots 76 = .ok (.getfield 184, 3) := by decide +kernel
theorem dX5_countSpots_79 : decode cX5_countSpots 79 = .ok (.ireturn, 1) := by decide +kernel
theorem dX5_countSpots_80 : decode cX5_countSpots 80 = .ok (.aload_n 0, 1) := by decide +kernel
theorem dX5_countSpots_81 : decode cX5_countSpots 81 = .ok (.getfield 50, 3) := by decide +kernel
theorem dX5_countSpots_84 : decode cX5_countSpots 84 = .ok (.getfield 215, 3) := by decide +kernel
theorem dX5_countSpots_87 : decode cX5_countSpots 87 = .ok (.ireturn, 1) := by decide +kernel
theorem dX5_countSpots_88 : decode cX5_countSpots 88 = .ok (.aload_n 0, 1) := by decide +kernel
theorem dX5_countSpots_89 : decode cX5_countSpots 89 = .ok (.getfield 50, 3) := by decide +kernel
theorem dX5_countSpots_92 : decode cX5_countSpots 92 = .ok (.getfield 224, 3) := by decide +kernel
theorem dX5_countSpots_95 : decode cX5_countSpots 95 = .ok (.ireturn, 1) := by decide +kernel
set_option maxRecDepth 20000 in
theorem ggX5_greatestGap_X2_make : GoodIn wsX5_greatestGap wsX2_make := goodIn_r _ [16, 17, 18, 19, 20, 21, 22, 23, 24, 25, 26, 27, 10, 7, 11, 28, 29, 30, 31, 32, 33, 34, 35, 36, 15, 37, 38, 39, 40, 41, 42, 43, 44, 45, 46, 47, 48, 49, 50, 51, 52, 53, 54, 55, 56, 57, 58, 59, 60, 5, 6, 8, 9, 61, 62, 63, 64, 65, 66, 67, 68, 69, 70, 71, 72, 73, 74, 75, 76, 77, 78, 79, 80, 81, 82, 83, 84, 85, 86, 87, 88, 98, 99, 100, 101, 102, 103, 104, 105, 106] (by decide +kernel) (by decide +kernel)
set_option maxRecDepth 20000 in
theorem gX5_greatestGap_X2_make : GoodIn wsX5_greatestGap (wsV RX5 114 RX2 yX2_make wsX2_make) := goodIn_app (goodIn_of _ (by decide +kernel)) ggX5_greatestGap_X2_make
theorem dX5_greatestGap_0 : decode cX5_greatestGap 0 = .ok (.aload_n 0, 1) := by decide +kernel
theorem dX5_greatestGap_1 : decode cX5_greatestGap 1 = .ok (.getfield 43, 3) := by decide +kernel
theorem dX5_greatestGap_4 : decode cX5_greatestGap 4 = .ok (.aload_n 0, 1) := by decide +kernel
theorem dX5_greatestGap_5 : decode cX5_greatestGap 5 = .ok (.getfield 12, 3) := by decide +kernel
theorem dX5_greatestGap_8 : decode cX5_greatestGap 8 = .ok (.invokevirtual 114, 3) := by decide +kernel
theorem dX5_greatestGap_11 : decode cX5_greatestGap 11 = .ok (.iconst 0, 1) := by decide +kernel
theorem dX5_greatestGap_12 : decode cX5_greatestGap 12 = .ok (.istore_n 1, 1) := by decide +kernel
theorem dX5_greatestGap_13 : decode cX5_greatestGap 13 = .ok (.iconst 0, 1) := by decide +kernel
theorem dX5_greatestGap_14 : decode cX5_greatestGap 14 = .ok (.istore_n 2, 1) := by decide +kernel
theorem dX5_greatestGap_15 : decode cX5_greatestGap 15 = .ok (.iload_n 2, 1) := by decide +kernel
theorem dX5_greatestGap_16 : decode cX5_greatestGap 16 = .ok (.bipush 18, 2) := by decide +kernel
theorem dX5_greatestGap_18 : decode cX5_greatestGap 18 = .ok (.if_icmp .ge 36, 3) := by decide +kernel
theorem dX5_greatestGap_21 : decode cX5_greatestGap 21 = .ok (.iload_n 1, 1) := by decide +kernel
theorem dX5_greatestGap_22 : decode cX5_greatestGap 22 = .ok (.aload_n 0, 1) := by decide +kernel
theorem dX5_greatestGap_23 : decode cX5_greatestGap 23 = .ok (.getfield 43, 3) := by decide +kernel
theorem dX5_greatestGap_26 : decode cX5_greatestGap 26 = .ok (.getfield 117, 3) := by decide +kernel
theorem dX5_greatestGap_29 : decode cX5_greatestGap 29 = .ok (.iload_n 2, 1) := by decide +kernel
theorem dX5_greatestGap_30 : decode cX5_greatestGap 30 = .ok (.iaload, 1) := by decide +kernel
theorem dX5_greatestGap_31 : decode cX5_greatestGap 31 = .ok (.aload_n 0, 1) := by decide +kernel
theorem dX5_greatestGap_32 : decode cX5_greatestGap 32 = .ok (.getfield 12, 3) := by decide +kernel
theorem dX5_greatestGap_35 : decode cX5_greatestGap 35 = .ok (.getfield 111, 3) := by decide +kernel
theorem dX5_greatestGap_38 : decode cX5_greatestGap 38 = .ok (.iload_n 2, 1) := by decide +kernel
theorem dX5_greatestGap_39 : decode cX5_greatestGap 39 = .ok (.iaload, 1) := by decide +kernel
theorem dX5_greatestGap_40 : decode cX5_greatestGap 40 = .ok (.isub, 1) := by decide +kernel
theorem dX5_greatestGap_41 : decode cX5_greatestGap 41 = .ok (.invokestatic 227, 3) := by decide +kernel
theorem dX5_greatestGap_44 : decode cX5_greatestGap 44 = .ok (.invokestatic 232, 3) := by decide +kernel
theorem dX5_greatestGap_47 : decode cX5_greatestGap 47 = .ok (.istore_n 1, 1) := by decide +kernel
theorem dX5_greatestGap_48 : decode cX5_greatestGap 48 = .ok (.iinc 2 1, 3) := by decide +kernel
theorem dX5_greatestGap_51 : decode cX5_greatestGap 51 = .ok (.goto (-36), 3) := by decide +kernel
theorem dX5_greatestGap_54 : decode cX5_greatestGap 54 = .ok (.iload_n 1, 1) := by decide +kernel
theorem dX5_greatestGap_55 : decode cX5_greatestGap 55 = .ok (.ireturn, 1) := by decide +kernel
set_option maxRecDepth 20000 in
theorem ggX5_settleTrial_X2_make : GoodIn wsX5_settleTrial wsX2_make := goodIn_r _ [14, 15, 16, 17, 18, 19, 20, 21, 22, 23, 24, 25, 26, 27, 28, 29, 30, 31, 32, 33, 34, 35, 36, 37, 13, 38, 39, 40, 41, 42, 43, 44, 45, 46, 47, 48, 49, 50, 51, 52, 53, 54, 55, 56, 57, 58, 59, 60, 61, 62, 63, 64, 65, 66, 67, 68, 69, 70, 71, 72, 73, 74, 75, 76, 77, 78, 79, 80, 81, 82, 83, 84, 85, 86, 87, 88, 89, 90, 91, 92, 93, 144, 145, 146, 147, 148, 149, 150, 151, 152] (by decide +kernel) (by decide +kernel)
set_option maxRecDepth 20000 in
theorem gX5_settleTrial_X2_make : GoodIn wsX5_settleTrial (wsV RX5 114 RX2 yX2_make wsX2_make) := goodIn_app (goodIn_of _ (by decide +kernel)) ggX5_settleTrial_X2_make
set_option maxRecDepth 20000 in
theorem ggX5_settleTrial_X4_takeAll : GoodIn wsX5_settleTrial wsX4_takeAll := goodIn_r _ [98, 99, 100, 101, 97, 102, 103, 104, 105, 106, 107, 108, 109, 110, 111, 112, 113, 114, 115, 22, 116, 117, 118, 56, 57, 58, 59, 60, 30, 61, 62, 63, 27, 64, 65, 26, 28, 66, 67, 68, 40, 41, 29, 31, 32, 33, 34, 119, 120, 121, 122, 25, 123, 124, 125, 76, 77, 126, 91, 92, 93, 127, 128, 129, 130, 131, 132, 133, 134, 153, 154, 155, 156, 157, 146, 147, 148, 149, 150, 151, 152] (by decide +kernel) (by decide +kernel)
set_option maxRecDepth 20000 in
theorem gX5_settleTrial_X4_takeAll : GoodIn wsX5_settleTrial (wsV RX5 202 RX4 yX4_takeAll wsX4_takeAll) := goodIn_app (goodIn_of _ (by decide +kernel)) ggX5_settleTrial_X4_takeAll
theorem dX5_settleTrial_0 : decode cX5_settleTrial 0 = .ok (.aload_n 0, 1) := by decide +kernel
theorem dX5_settleTrial_1 : decode cX5_settleTrial 1 = .ok (.getfield 43, 3) := by decide +kernel
theorem dX5_settleTrial_4 : decode cX5_settleTrial 4 = .ok (.aload_n 0, 1) := by decide +kernel
theorem dX5_settleTrial_5 : decode cX5_settleTrial 5 = .ok (.getfield 37, 3) := by decide +kernel
theorem dX5_settleTrial_8 : decode cX5_settleTrial 8 = .ok (.invokevirtual 114, 3) := by decide +kernel
theorem dX5_settleTrial_11 : decode cX5_settleTrial 11 = .ok (.aload_n 0, 1) := by decide +kernel
theorem dX5_settleTrial_12 : decode cX5_settleTrial 12 = .ok (.getfield 43, 3) := by decide +kernel
theorem dX5_settleTrial_15 : decode cX5_settleTrial 15 = .ok (.getfield 117, 3) := by decide +kernel
theorem dX5_settleTrial_18 : decode cX5_settleTrial 18 = .ok (.iconst 0, 1) := by decide +kernel
theorem dX5_settleTrial_19 : decode cX5_settleTrial 19 = .ok (.aload_n 0, 1) := by decide +kernel
theorem dX5_settleTrial_20 : decode cX5_settleTrial 20 = .ok (.getfield 37, 3) := by decide +kernel
theorem dX5_settleTrial_23 : decode cX5_settleTrial 23 = .ok (.getfield 111, 3) := by decide +kernel
theorem dX5_settleTrial_26 : decode cX5_settleTrial 26 = .ok (.iconst 0, 1) := by decide +kernel
theorem dX5_settleTrial_27 : decode cX5_settleTrial 27 = .ok (.bipush 18, 2) := by decide +kernel
theorem dX5_settleTrial_29 : decode cX5_settleTrial 29 = .ok (.invokestatic 218, 3) := by decide +kernel
theorem dX5_settleTrial_32 : decode cX5_settleTrial 32 = .ok (.aload_n 0, 1) := by decide +kernel
theorem dX5_settleTrial_33 : decode cX5_settleTrial 33 = .ok (.getfield 50, 3) := by decide +kernel
theorem dX5_settleTrial_36 : decode cX5_settleTrial 36 = .ok (.aload_n 0, 1) := by decide +kernel
theorem dX5_settleTrial_37 : decode cX5_settleTrial 37 = .ok (.getfield 37, 3) := by decide +kernel
theorem dX5_settleTrial_40 : decode cX5_settleTrial 40 = .ok (.invokevirtual 202, 3) := by decide +kernel
theorem dX5_settleTrial_43 : decode cX5_settleTrial 43 = .ok (.return_, 1) := by decide +kernel
theorem dX5_onScreen_0 : decode cX5_onScreen 0 = .ok (.iload_n 0, 1) := by decide +kernel
theorem dX5_onScreen_1 : decode cX5_onScreen 1 = .ok (.ifCond .lt 23, 3) := by decide +kernel
theorem dX5_onScreen_4 : decode cX5_onScreen 4 = .ok (.iload_n 0, 1) := by decide +kernel
theorem dX5_onScreen_5 : decode cX5_onScreen 5 = .ok (.bipush 24, 2) := by decide +kernel
theorem dX5_onScreen_7 : decode cX5_onScreen 7 = .ok (.if_icmp .ge 17, 3) := by decide +kernel
theorem dX5_onScreen_10 : decode cX5_onScreen 10 = .ok (.iload_n 1, 1) := by decide +kernel
theorem dX5_onScreen_11 : decode cX5_onScreen 11 = .ok (.ifCond .lt 13, 3) := by decide +kernel
theorem dX5_onScreen_14 : decode cX5_onScreen 14 = .ok (.iload_n 1, 1) := by decide +kernel
theorem dX5_onScreen_15 : decode cX5_onScreen 15 = .ok (.bipush 12, 2) := by decide +kernel
theorem dX5_onScreen_17 : decode cX5_onScreen 17 = .ok (.if_icmp .ge 7, 3) := by decide +kernel
theorem dX5_onScreen_20 : decode cX5_onScreen 20 = .ok (.iconst 1, 1) := by decide +kernel
theorem dX5_onScreen_21 : decode cX5_onScreen 21 = .ok (.goto 4, 3) := by decide +kernel
theorem dX5_onScreen_24 : decode cX5_onScreen 24 = .ok (.iconst 0, 1) := by decide +kernel
theorem dX5_onScreen_25 : decode cX5_onScreen 25 = .ok (.ireturn, 1) := by decide +kernel
theorem dX5_isZone_0 : decode cX5_isZone 0 = .ok (.iload_n 0, 1) := by decide +kernel
theorem dX5_isZone_1 : decode cX5_isZone 1 = .ok (.ifCond .lt 13, 3) := by decide +kernel
theorem dX5_isZone_4 : decode cX5_isZone 4 = .ok (.iload_n 0, 1) := by decide +kernel
theorem dX5_isZone_5 : decode cX5_isZone 5 = .ok (.bipush 18, 2) := by decide +kernel
theorem dX5_isZone_7 : decode cX5_isZone 7 = .ok (.if_icmp .ge 7, 3) := by decide +kernel
theorem dX5_isZone_10 : decode cX5_isZone 10 = .ok (.iconst 1, 1) := by decide +kernel
theorem dX5_isZone_11 : decode cX5_isZone 11 = .ok (.goto 4, 3) := by decide +kernel
theorem dX5_isZone_14 : decode cX5_isZone 14 = .ok (.iconst 0, 1) := by decide +kernel
theorem dX5_isZone_15 : decode cX5_isZone 15 = .ok (.ireturn, 1) := by decide +kernel
theorem dX5_spotAt_0 : decode cX5_spotAt 0 = .ok (.iload_n 1, 1) := by decide +kernel
theorem dX5_spotAt_1 : decode cX5_spotAt 1 = .ok (.bipush 24, 2) := by decide +kernel
theorem dX5_spotAt_3 : decode cX5_spotAt 3 = .ok (.imul, 1) := by decide +kernel
theorem dX5_spotAt_4 : decode cX5_spotAt 4 = .ok (.iload_n 0, 1) := by decide +kernel
theorem dX5_spotAt_5 : decode cX5_spotAt 5 = .ok (.iadd, 1) := by decide +kernel
theorem dX5_spotAt_6 : decode cX5_spotAt 6 = .ok (.ireturn, 1) := by decide +kernel
set_option maxRecDepth 20000 in
theorem ggX5_spotOfZone_X5_spotAt : GoodIn wsX5_spotOfZone wsX5_spotAt := goodIn_r _ [4] (by decide +kernel) (by decide +kernel)
set_option maxRecDepth 20000 in
theorem gX5_spotOfZone_X5_spotAt : GoodIn wsX5_spotOfZone (va_wsS RX5 62 yX5_spotAt wsX5_spotAt) := goodIn_app (goodIn_of _ (by decide +kernel)) ggX5_spotOfZone_X5_spotAt
theorem dX5_spotOfZone_0 : decode cX5_spotOfZone 0 = .ok (.iload_n 0, 1) := by decide +kernel
theorem dX5_spotOfZone_1 : decode cX5_spotOfZone 1 = .ok (.bipush 6, 2) := by decide +kernel
theorem dX5_spotOfZone_3 : decode cX5_spotOfZone 3 = .ok (.irem, 1) := by decide +kernel
theorem dX5_spotOfZone_4 : decode cX5_spotOfZone 4 = .ok (.iconst 4, 1) := by decide +kernel
theorem dX5_spotOfZone_5 : decode cX5_spotOfZone 5 = .ok (.imul, 1) := by decide +kernel
theorem dX5_spotOfZone_6 : decode cX5_spotOfZone 6 = .ok (.iload_n 1, 1) := by decide +kernel
theorem dX5_spotOfZone_7 : decode cX5_spotOfZone 7 = .ok (.iconst 4, 1) := by decide +kernel
theorem dX5_spotOfZone_8 : decode cX5_spotOfZone 8 = .ok (.irem, 1) := by decide +kernel
theorem dX5_spotOfZone_9 : decode cX5_spotOfZone 9 = .ok (.iadd, 1) := by decide +kernel
theorem dX5_spotOfZone_10 : decode cX5_spotOfZone 10 = .ok (.istore_n 2, 1) := by decide +kernel
theorem dX5_spotOfZone_11 : decode cX5_spotOfZone 11 = .ok (.iload_n 0, 1) := by decide +kernel
theorem dX5_spotOfZone_12 : decode cX5_spotOfZone 12 = .ok (.bipush 6, 2) := by decide +kernel
theorem dX5_spotOfZone_14 : decode cX5_spotOfZone 14 = .ok (.idiv, 1) := by decide +kernel
theorem dX5_spotOfZone_15 : decode cX5_spotOfZone 15 = .ok (.iconst 4, 1) := by decide +kernel
theorem dX5_spotOfZone_16 : decode cX5_spotOfZone 16 = .ok (.imul, 1) := by decide +kernel
theorem dX5_spotOfZone_17 : decode cX5_spotOfZone 17 = .ok (.iload_n 1, 1) := by decide +kernel
theorem dX5_spotOfZone_18 : decode cX5_spotOfZone 18 = .ok (.iconst 4, 1) := by decide +kernel
theorem dX5_spotOfZone_19 : decode cX5_spotOfZone 19 = .ok (.idiv, 1) := by decide +kernel
theorem dX5_spotOfZone_20 : decode cX5_spotOfZone 20 = .ok (.iadd, 1) := by decide +kernel
theorem dX5_spotOfZone_21 : decode cX5_spotOfZone 21 = .ok (.istore_n 3, 1) := by decide +kernel
theorem dX5_spotOfZone_22 : decode cX5_spotOfZone 22 = .ok (.iload_n 2, 1) := by decide +kernel
theorem dX5_spotOfZone_23 : decode cX5_spotOfZone 23 = .ok (.iload_n 3, 1) := by decide +kernel
theorem dX5_spotOfZone_24 : decode cX5_spotOfZone 24 = .ok (.invokestatic 62, 3) := by decide +kernel
theorem dX5_spotOfZone_27 : decode cX5_spotOfZone 27 = .ok (.ireturn, 1) := by decide +kernel
theorem dX5_zonesApart_0 : decode cX5_zonesApart 0 = .ok (.iload_n 0, 1) := by decide +kernel
theorem dX5_zonesApart_1 : decode cX5_zonesApart 1 = .ok (.bipush 6, 2) := by decide +kernel
theorem dX5_zonesApart_3 : decode cX5_zonesApart 3 = .ok (.irem, 1) := by decide +kernel
theorem dX5_zonesApart_4 : decode cX5_zonesApart 4 = .ok (.iload_n 1, 1) := by decide +kernel
theorem dX5_zonesApart_5 : decode cX5_zonesApart 5 = .ok (.bipush 6, 2) := by decide +kernel
theorem dX5_zonesApart_7 : decode cX5_zonesApart 7 = .ok (.irem, 1) := by decide +kernel
theorem dX5_zonesApart_8 : decode cX5_zonesApart 8 = .ok (.isub, 1) := by decide +kernel
theorem dX5_zonesApart_9 : decode cX5_zonesApart 9 = .ok (.invokestatic 227, 3) := by decide +kernel
theorem dX5_zonesApart_12 : decode cX5_zonesApart 12 = .ok (.istore_n 2, 1) := by decide +kernel
theorem dX5_zonesApart_13 : decode cX5_zonesApart 13 = .ok (.iload_n 0, 1) := by decide +kernel
theorem dX5_zonesApart_14 : decode cX5_zonesApart 14 = .ok (.bipush 6, 2) := by decide +kernel
theorem dX5_zonesApart_16 : decode cX5_zonesApart 16 = .ok (.idiv, 1) := by decide +kernel
theorem dX5_zonesApart_17 : decode cX5_zonesApart 17 = .ok (.iload_n 1, 1) := by decide +kernel
theorem dX5_zonesApart_18 : decode cX5_zonesApart 18 = .ok (.bipush 6, 2) := by decide +kernel
theorem dX5_zonesApart_20 : decode cX5_zonesApart 20 = .ok (.idiv, 1) := by decide +kernel
theorem dX5_zonesApart_21 : decode cX5_zonesApart 21 = .ok (.isub, 1) := by decide +kernel
theorem dX5_zonesApart_22 : decode cX5_zonesApart 22 = .ok (.invokestatic 227, 3) := by decide +kernel
theorem dX5_zonesApart_25 : decode cX5_zonesApart 25 = .ok (.istore_n 3, 1) := by decide +kernel
theorem dX5_zonesApart_26 : decode cX5_zonesApart 26 = .ok (.iload_n 2, 1) := by decide +kernel
theorem dX5_zonesApart_27 : decode cX5_zonesApart 27 = .ok (.iload_n 3, 1) := by decide +kernel
theorem dX5_zonesApart_28 : decode cX5_zonesApart 28 = .ok (.invokestatic 232, 3) := by decide +kernel
theorem dX5_zonesApart_31 : decode cX5_zonesApart 31 = .ok (.ireturn, 1) := by decide +kernel
theorem dX5_roundedUp_0 : decode cX5_roundedUp 0 = .ok (.iload_n 1, 1) := by decide +kernel
theorem dX5_roundedUp_1 : decode cX5_roundedUp 1 = .ok (.ifCond .le 13, 3) := by decide +kernel
theorem dX5_roundedUp_4 : decode cX5_roundedUp 4 = .ok (.iload_n 0, 1) := by decide +kernel
theorem dX5_roundedUp_5 : decode cX5_roundedUp 5 = .ok (.iload_n 1, 1) := by decide +kernel
theorem dX5_roundedUp_6 : decode cX5_roundedUp 6 = .ok (.iadd, 1) := by decide +kernel
theorem dX5_roundedUp_7 : decode cX5_roundedUp 7 = .ok (.iconst 1, 1) := by decide +kernel
theorem dX5_roundedUp_8 : decode cX5_roundedUp 8 = .ok (.isub, 1) := by decide +kernel
theorem dX5_roundedUp_9 : decode cX5_roundedUp 9 = .ok (.iload_n 1, 1) := by decide +kernel
theorem dX5_roundedUp_10 : decode cX5_roundedUp 10 = .ok (.idiv, 1) := by decide +kernel
theorem dX5_roundedUp_11 : decode cX5_roundedUp 11 = .ok (.goto 4, 3) := by decide +kernel
theorem dX5_roundedUp_14 : decode cX5_roundedUp 14 = .ok (.iconst 0, 1) := by decide +kernel
theorem dX5_roundedUp_15 : decode cX5_roundedUp 15 = .ok (.ireturn, 1) := by decide +kernel
theorem dX5_lightOf_0 : decode cX5_lightOf 0 = .ok (.sipush 255, 3) := by decide +kernel
theorem dX5_lightOf_3 : decode cX5_lightOf 3 = .ok (.iload_n 0, 1) := by decide +kernel
theorem dX5_lightOf_4 : decode cX5_lightOf 4 = .ok (.sipush 256, 3) := by decide +kernel
theorem dX5_lightOf_7 : decode cX5_lightOf 7 = .ok (.idiv, 1) := by decide +kernel
theorem dX5_lightOf_8 : decode cX5_lightOf 8 = .ok (.invokestatic 235, 3) := by decide +kernel
theorem dX5_lightOf_11 : decode cX5_lightOf 11 = .ok (.ireturn, 1) := by decide +kernel
set_option maxRecDepth 20000 in
theorem ggX5_glassFor_X5_roundedUp : GoodIn wsX5_glassFor wsX5_roundedUp := goodIn_r _ [8] (by decide +kernel) (by decide +kernel)
set_option maxRecDepth 20000 in
theorem gX5_glassFor_X5_roundedUp : GoodIn wsX5_glassFor (va_wsS RX5 209 yX5_roundedUp wsX5_roundedUp) := goodIn_app (goodIn_of _ (by decide +kernel)) ggX5_glassFor_X5_roundedUp
theorem dX5_glassFor_0 : decode cX5_glassFor 0 = .ok (.sipush 255, 3) := by decide +kernel
theorem dX5_glassFor_3 : decode cX5_glassFor 3 = .ok (.iload_n 0, 1) := by decide +kernel
theorem dX5_glassFor_4 : decode cX5_glassFor 4 = .ok (.sipush 255, 3) := by decide +kernel
theorem dX5_glassFor_7 : decode cX5_glassFor 7 = .ok (.imul, 1) := by decide +kernel
theorem dX5_glassFor_8 : decode cX5_glassFor 8 = .ok (.iload_n 1, 1) := by decide +kernel
theorem dX5_glassFor_9 : decode cX5_glassFor 9 = .ok (.invokestatic 209, 3) := by decide +kernel
theorem dX5_glassFor_12 : decode cX5_glassFor 12 = .ok (.invokestatic 235, 3) := by decide +kernel
theorem dX5_glassFor_15 : decode cX5_glassFor 15 = .ok (.ireturn, 1) := by decide +kernel
theorem dX5_verdict_0 : decode cX5_verdict 0 = .ok (.iload_n 1, 1) := by decide +kernel
theorem dX5_verdict_1 : decode cX5_verdict 1 = .ok (.iload_n 0, 1) := by decide +kernel
theorem dX5_verdict_2 : decode cX5_verdict 2 = .ok (.if_icmp .ne 5, 3) := by decide +kernel
theorem dX5_verdict_5 : decode cX5_verdict 5 = .ok (.iconst 0, 1) := by decide +kernel
theorem dX5_verdict_6 : decode cX5_verdict 6 = .ok (.ireturn, 1) := by decide +kernel
theorem dX5_verdict_7 : decode cX5_verdict 7 = .ok (.iload_n 1, 1) := by decide +kernel
theorem dX5_verdict_8 : decode cX5_verdict 8 = .ok (.iload_n 0, 1) := by decide +kernel
theorem dX5_verdict_9 : decode cX5_verdict 9 = .ok (.if_icmp .ge 7, 3) := by decide +kernel
theorem dX5_verdict_12 : decode cX5_verdict 12 = .ok (.iconst 1, 1) := by decide +kernel
theorem dX5_verdict_13 : decode cX5_verdict 13 = .ok (.goto 4, 3) := by decide +kernel
theorem dX5_verdict_16 : decode cX5_verdict 16 = .ok (.iconst 2, 1) := by decide +kernel
theorem dX5_verdict_17 : decode cX5_verdict 17 = .ok (.ireturn, 1) := by decide +kernel
theorem dJ9_abs_0f7a4_0 : decode cJ9_abs_0f7a4 0 = .ok (.iload_n 0, 1) := by decide +kernel
theorem dJ9_abs_0f7a4_1 : decode cJ9_abs_0f7a4 1 = .ok (.ifCond .ge 8, 3) := by decide +kernel
theorem dJ9_abs_0f7a4_4 : decode cJ9_abs_0f7a4 4 = .ok (.iload_n 0, 1) := by decide +kernel
theorem dJ9_abs_0f7a4_5 : decode cJ9_abs_0f7a4 5 = .ok (.ineg, 1) := by decide +kernel
theorem dJ9_abs_0f7a4_6 : decode cJ9_abs_0f7a4 6 = .ok (.goto 4, 3) := by decide +kernel
theorem dJ9_abs_0f7a4_9 : decode cJ9_abs_0f7a4 9 = .ok (.iload_n 0, 1) := by decide +kernel
theorem dJ9_abs_0f7a4_10 : decode cJ9_abs_0f7a4 10 = .ok (.ireturn, 1) := by decide +kernel
theorem dJ9_max_7cf53_0 : decode cJ9_max_7cf53 0 = .ok (.iload_n 0, 1) := by decide +kernel
theorem dJ9_max_7cf53_1 : decode cJ9_max_7cf53 1 = .ok (.iload_n 1, 1) := by decide +kernel
theorem dJ9_max_7cf53_2 : decode cJ9_max_7cf53 2 = .ok (.if_icmp .lt 7, 3) := by decide +kernel
theorem dJ9_max_7cf53_5 : decode cJ9_max_7cf53 5 = .ok (.iload_n 0, 1) := by decide +kernel
theorem dJ9_max_7cf53_6 : decode cJ9_max_7cf53 6 = .ok (.goto 4, 3) := by decide +kernel
theorem dJ9_max_7cf53_9 : decode cJ9_max_7cf53 9 = .ok (.iload_n 1, 1) := by decide +kernel
theorem dJ9_max_7cf53_10 : decode cJ9_max_7cf53 10 = .ok (.ireturn, 1) := by decide +kernel
theorem dJ9_min_7cf53_0 : decode cJ9_min_7cf53 0 = .ok (.iload_n 0, 1) := by decide +kernel
theorem dJ9_min_7cf53_1 : decode cJ9_min_7cf53 1 = .ok (.iload_n 1, 1) := by decide +kernel
theorem dJ9_min_7cf53_2 : decode cJ9_min_7cf53 2 = .ok (.if_icmp .gt 7, 3) := by decide +kernel
theorem dJ9_min_7cf53_5 : decode cJ9_min_7cf53 5 = .ok (.iload_n 0, 1) := by decide +kernel
theorem dJ9_min_7cf53_6 : decode cJ9_min_7cf53 6 = .ok (.goto 4, 3) := by decide +kernel
theorem dJ9_min_7cf53_9 : decode cJ9_min_7cf53 9 = .ok (.iload_n 1, 1) := by decide +kernel
theorem dJ9_min_7cf53_10 : decode cJ9_min_7cf53 10 = .ok (.ireturn, 1) := by decide +kernel
theorem dL_cell_0 : decode cL_cell 0 = .ok (.iload_n 1, 1) := by decide +kernel
theorem dL_cell_1 : decode cL_cell 1 = .ok (.aload_n 0, 1) := by decide +kernel
theorem dL_cell_2 : decode cL_cell 2 = .ok (.arraylength, 1) := by decide +kernel
theorem dL_cell_3 : decode cL_cell 3 = .ok (.if_icmp .ge 9, 3) := by decide +kernel
theorem dL_cell_6 : decode cL_cell 6 = .ok (.aload_n 0, 1) := by decide +kernel
theorem dL_cell_7 : decode cL_cell 7 = .ok (.iload_n 1, 1) := by decide +kernel
theorem dL_cell_8 : decode cL_cell 8 = .ok (.iaload, 1) := by decide +kernel
theorem dL_cell_9 : decode cL_cell 9 = .ok (.goto 11, 3) := by decide +kernel
theorem dL_cell_12 : decode cL_cell 12 = .ok (.ldc 7, 2) := by decide +kernel
theorem dL_cell_14 : decode cL_cell 14 = .ok (.iload_n 1, 1) := by decide +kernel
theorem dL_cell_15 : decode cL_cell 15 = .ok (.sipush 1307, 3) := by decide +kernel
theorem dL_cell_18 : decode cL_cell 18 = .ok (.iadd, 1) := by decide +kernel
theorem dL_cell_19 : decode cL_cell 19 = .ok (.imul, 1) := by decide +kernel
theorem dL_cell_20 : decode cL_cell 20 = .ok (.ireturn, 1) := by decide +kernel
theorem dL_up_0 : decode cL_up 0 = .ok (.iload_n 0, 1) := by decide +kernel
theorem dL_up_1 : decode cL_up 1 = .ok (.ldc 8, 2) := by decide +kernel
theorem dL_up_3 : decode cL_up 3 = .ok (.iand, 1) := by decide +kernel
theorem dL_up_4 : decode cL_up 4 = .ok (.iload_n 1, 1) := by decide +kernel
theorem dL_up_5 : decode cL_up 5 = .ok (.irem, 1) := by decide +kernel
theorem dL_up_6 : decode cL_up 6 = .ok (.ireturn, 1) := by decide +kernel
set_option maxRecDepth 20000 in
theorem ggL_number_X5_type : GoodIn wsL_number wsX5_type := goodIn_r _ [5, 6, 7, 8, 9, 10, 11, 12, 13, 14, 15, 16, 17, 18, 19, 20, 21, 22, 23, 24, 25, 26, 27] (by decide +kernel) (by decide +kernel)
set_option maxRecDepth 20000 in
theorem gL_number_X5_type : GoodIn wsL_number (wsV RL 9 RX5 yX5_type wsX5_type) := goodIn_app (goodIn_of _ (by decide +kernel)) ggL_number_X5_type
theorem dL_number_0 : decode cL_number 0 = .ok (.iload_n 1, 1) := by decide +kernel
theorem dL_number_1 : decode cL_number 1 = .ok (.bipush 100, 2) := by decide +kernel
theorem dL_number_3 : decode cL_number 3 = .ok (.if_icmp .lt 18, 3) := by decide +kernel
theorem dL_number_6 : decode cL_number 6 = .ok (.aload_n 0, 1) := by decide +kernel
theorem dL_number_7 : decode cL_number 7 = .ok (.bipush 48, 2) := by decide +kernel
theorem dL_number_9 : decode cL_number 9 = .ok (.iload_n 1, 1) := by decide +kernel
theorem dL_number_10 : decode cL_number 10 = .ok (.bipush 100, 2) := by decide +kernel
theorem dL_number_12 : decode cL_number 12 = .ok (.idiv, 1) := by decide +kernel
theorem dL_number_13 : decode cL_number 13 = .ok (.iadd, 1) := by decide +kernel
theorem dL_number_14 : decode cL_number 14 = .ok (.i2c, 1) := by decide +kernel
theorem dL_number_15 : decode cL_number 15 = .ok (.invokevirtual 9, 3) := by decide +kernel
theorem dL_number_18 : decode cL_number 18 = .ok (.ifCond .le 46, 3) := by decide +kernel
theorem dL_number_21 : decode cL_number 21 = .ok (.iload_n 1, 1) := by decide +kernel
theorem dL_number_22 : decode cL_number 22 = .ok (.bipush 10, 2) := by decide +kernel
theorem dL_number_24 : decode cL_number 24 = .ok (.if_icmp .lt 21, 3) := by decide +kernel
theorem dL_number_27 : decode cL_number 27 = .ok (.aload_n 0, 1) := by decide +kernel
theorem dL_number_28 : decode cL_number 28 = .ok (.bipush 48, 2) := by decide +kernel
theorem dL_number_30 : decode cL_number 30 = .ok (.iload_n 1, 1) := by decide +kernel
theorem dL_number_31 : decode cL_number 31 = .ok (.bipush 10, 2) := by decide +kernel
theorem dL_number_33 : decode cL_number 33 = .ok (.idiv, 1) := by decide +kernel
theorem dL_number_34 : decode cL_number 34 = .ok (.bipush 10, 2) := by decide +kernel
theorem dL_number_36 : decode cL_number 36 = .ok (.irem, 1) := by decide +kernel
theorem dL_number_37 : decode cL_number 37 = .ok (.iadd, 1) := by decide +kernel
theorem dL_number_38 : decode cL_number 38 = .ok (.i2c, 1) := by decide +kernel
theorem dL_number_39 : decode cL_number 39 = .ok (.invokevirtual 9, 3) := by decide +kernel
theorem dL_number_42 : decode cL_number 42 = .ok (.ifCond .le 22, 3) := by decide +kernel
theorem dL_number_45 : decode cL_number 45 = .ok (.aload_n 0, 1) := by decide +kernel
theorem dL_number_46 : decode cL_number 46 = .ok (.bipush 48, 2) := by decide +kernel
theorem dL_number_48 : decode cL_number 48 = .ok (.iload_n 1, 1) := by decide +kernel
theorem dL_number_49 : decode cL_number 49 = .ok (.bipush 10, 2) := by decide +kernel
theorem dL_number_51 : decode cL_number 51 = .ok (.irem, 1) := by decide +kernel
theorem dL_number_52 : decode cL_number 52 = .ok (.iadd, 1) := by decide +kernel
theorem dL_number_53 : decode cL_number 53 = .ok (.i2c, 1) := by decide +kernel
theorem dL_number_54 : decode cL_number 54 = .ok (.invokevirtual 9, 3) := by decide +kernel
theorem dL_number_57 : decode cL_number 57 = .ok (.ifCond .le 7, 3) := by decide +kernel
theorem dL_number_60 : decode cL_number 60 = .ok (.iconst 1, 1) := by decide +kernel
theorem dL_number_61 : decode cL_number 61 = .ok (.goto 4, 3) := by decide +kernel
theorem dL_number_64 : decode cL_number 64 = .ok (.iconst 0, 1) := by decide +kernel
theorem dL_number_65 : decode cL_number 65 = .ok (.ireturn, 1) := by decide +kernel
set_option maxRecDepth 20000 in
theorem ggL_isAskedByText_X5_clearText : GoodIn wsL_isAskedByText wsX5_clearText := goodIn_r _ [5, 6, 7, 105, 106, 107, 108, 109, 110, 111, 112, 113, 114, 115, 116, 117] (by decide +kernel) (by decide +kernel)
set_option maxRecDepth 20000 in
theorem gL_isAskedByText_X5_clearText : GoodIn wsL_isAskedByText (wsV RL 15 RX5 yX5_clearText wsX5_clearText) := goodIn_app (goodIn_of _ (by decide +kernel)) ggL_isAskedByText_X5_clearText
set_option maxRecDepth 20000 in
theorem ggL_isAskedByText_L_number : GoodIn wsL_isAskedByText wsL_number := goodIn_r _ [11, 12, 13, 14, 4, 15, 6, 7, 16, 17, 18, 19, 20, 21, 22, 105, 106, 107, 108, 109, 110, 111, 112, 113, 114, 115, 116, 117] (by decide +kernel) (by decide +kernel)
set_option maxRecDepth 20000 in
theorem gL_isAskedByText_L_number : GoodIn wsL_isAskedByText (va_wsS RL 19 yL_number wsL_number) := goodIn_app (goodIn_of _ (by decide +kernel)) ggL_isAskedByText_L_number
set_option maxRecDepth 20000 in
theorem ggL_isAskedByText_X5_type : GoodIn wsL_isAskedByText wsX5_type := goodIn_r _ [15, 6, 7, 16, 17, 18, 19, 20, 21, 22, 105, 106, 107, 108, 109, 110, 111, 112, 113, 114, 115, 116, 117] (by decide +kernel) (by decide +kernel)
set_option maxRecDepth 20000 in
theorem gL_isAskedByText_X5_type : GoodIn wsL_isAskedByText (wsV RL 9 RX5 yX5_type wsX5_type) := goodIn_app (goodIn_of _ (by decide +kernel)) ggL_isAskedByText_X5_type
set_option maxRecDepth 20000 in
theorem ggL_isAskedByText_X5_fault : GoodIn wsL_isAskedByText wsX5_fault := goodIn_r _ [26, 6, 27, 28, 29, 19, 30, 31, 21, 22, 32, 33, 34, 35, 36, 37, 38, 39, 40, 41, 42, 105, 106, 107, 108, 109, 110, 111, 112, 113, 114, 115, 116, 117] (by decide +kernel) (by decide +kernel)
set_option maxRecDepth 20000 in
theorem gL_isAskedByText_X5_fault : GoodIn wsL_isAskedByText (wsV RL 25 RX5 yX5_fault wsX5_fault) := goodIn_app (goodIn_of _ (by decide +kernel)) ggL_isAskedByText_X5_fault
set_option maxRecDepth 20000 in
theorem ggL_isAskedByText_X5_askAll : GoodIn wsL_isAskedByText wsX5_askAll := goodIn_r _ [46, 6, 47, 48, 27, 28, 29, 19, 30, 31, 21, 22, 32, 33, 34, 35, 36, 37, 38, 39, 40, 41, 42, 49, 50, 51, 52, 53, 54, 55, 56, 57, 58, 59, 60, 61, 62, 63, 64, 65, 66, 67, 68, 69, 70, 71, 72, 73, 74, 75, 4, 76, 77, 78, 79, 80, 81, 82, 83, 84, 85, 86, 87, 88, 89, 90, 91, 92, 93, 94, 95, 96, 97, 98, 99, 100, 101, 102, 103, 104, 105, 106, 107, 108, 109, 110, 111, 112, 113, 114, 115, 116, 117, 118, 119, 120, 121, 122, 123, 124, 125, 126, 127] (by decide +kernel) (by decide +kernel)
set_option maxRecDepth 20000 in
theorem gL_isAskedByText_X5_askAll : GoodIn wsL_isAskedByText (wsV RL 28 RX5 yX5_askAll wsX5_askAll) := goodIn_app (goodIn_of _ (by decide +kernel)) ggL_isAskedByText_X5_askAll
theorem dL_isAskedByText_0 : decode cL_isAskedByText 0 = .ok (.aload_n 0, 1) := by decide +kernel
theorem dL_isAskedByText_1 : decode cL_isAskedByText 1 = .ok (.invokevirtual 15, 3) := by decide +kernel
theorem dL_isAskedByText_4 : decode cL_isAskedByText 4 = .ok (.ifCond .lt 103, 3) := by decide +kernel
theorem dL_isAskedByText_7 : decode cL_isAskedByText 7 = .ok (.aload_n 0, 1) := by decide +kernel
theorem dL_isAskedByText_8 : decode cL_isAskedByText 8 = .ok (.iload_n 1, 1) := by decide +kernel
theorem dL_isAskedByText_9 : decode cL_isAskedByText 9 = .ok (.invokestatic 19, 3) := by decide +kernel
theorem dL_isAskedByText_12 : decode cL_isAskedByText 12 = .ok (.ifCond .eq 95, 3) := by decide +kernel
theorem dL_isAskedByText_15 : decode cL_isAskedByText 15 = .ok (.aload_n 0, 1) := by decide +kernel
theorem dL_isAskedByText_16 : decode cL_isAskedByText 16 = .ok (.bipush 44, 2) := by decide +kernel
theorem dL_isAskedByText_18 : decode cL_isAskedByText 18 = .ok (.invokevirtual 9, 3) := by decide +kernel
theorem dL_isAskedByText_21 : decode cL_isAskedByText 21 = .ok (.ifCond .le 86, 3) := by decide +kernel
theorem dL_isAskedByText_24 : decode cL_isAskedByText 24 = .ok (.aload_n 0, 1) := by decide +kernel
theorem dL_isAskedByText_25 : decode cL_isAskedByText 25 = .ok (.iload_n 2, 1) := by decide +kernel
theorem dL_isAskedByText_26 : decode cL_isAskedByText 26 = .ok (.invokestatic 19, 3) := by decide +kernel
theorem dL_isAskedByText_29 : decode cL_isAskedByText 29 = .ok (.ifCond .eq 78, 3) := by decide +kernel
theorem dL_isAskedByText_32 : decode cL_isAskedByText 32 = .ok (.aload_n 0, 1) := by decide +kernel
theorem dL_isAskedByText_33 : decode cL_isAskedByText 33 = .ok (.bipush 43, 2) := by decide +kernel
theorem dL_isAskedByText_35 : decode cL_isAskedByText 35 = .ok (.invokevirtual 9, 3) := by decide +kernel
theorem dL_isAskedByText_38 : decode cL_isAskedByText 38 = .ok (.ifCond .le 69, 3) := by decide +kernel
theorem dL_isAskedByText_41 : decode cL_isAskedByText 41 = .ok (.aload_n 0, 1) := by decide +kernel
theorem dL_isAskedByText_42 : decode cL_isAskedByText 42 = .ok (.iload_n 3, 1) := by decide +kernel
theorem dL_isAskedByText_43 : decode cL_isAskedByText 43 = .ok (.invokestatic 19, 3) := by decide +kernel
theorem dL_isAskedByText_46 : decode cL_isAskedByText 46 = .ok (.ifCond .eq 61, 3) := by decide +kernel
theorem dL_isAskedByText_49 : decode cL_isAskedByText 49 = .ok (.aload_n 0, 1) := by decide +kernel
theorem dL_isAskedByText_50 : decode cL_isAskedByText 50 = .ok (.bipush 120, 2) := by decide +kernel
theorem dL_isAskedByText_52 : decode cL_isAskedByText 52 = .ok (.invokevirtual 9, 3) := by decide +kernel
theorem dL_isAskedByText_55 : decode cL_isAskedByText 55 = .ok (.ifCond .le 52, 3) := by decide +kernel
theorem dL_isAskedByText_58 : decode cL_isAskedByText 58 = .ok (.aload_n 0, 1) := by decide +kernel
theorem dL_isAskedByText_59 : decode cL_isAskedByText 59 = .ok (.iload 4, 2) := by decide +kernel
theorem dL_isAskedByText_61 : decode cL_isAskedByText 61 = .ok (.invokestatic 19, 3) := by decide +kernel
theorem dL_isAskedByText_64 : decode cL_isAskedByText 64 = .ok (.ifCond .eq 43, 3) := by decide +kernel
theorem dL_isAskedByText_67 : decode cL_isAskedByText 67 = .ok (.aload_n 0, 1) := by decide +kernel
theorem dL_isAskedByText_68 : decode cL_isAskedByText 68 = .ok (.bipush 61, 2) := by decide +kernel
theorem dL_isAskedByText_70 : decode cL_isAskedByText 70 = .ok (.invokevirtual 9, 3) := by decide +kernel
theorem dL_isAskedByText_73 : decode cL_isAskedByText 73 = .ok (.ifCond .le 34, 3) := by decide +kernel
theorem dL_isAskedByText_76 : decode cL_isAskedByText 76 = .ok (.aload_n 0, 1) := by decide +kernel
theorem dL_isAskedByText_77 : decode cL_isAskedByText 77 = .ok (.iload 5, 2) := by decide +kernel
theorem dL_isAskedByText_79 : decode cL_isAskedByText 79 = .ok (.invokestatic 19, 3) := by decide +kernel
theorem dL_isAskedByText_82 : decode cL_isAskedByText 82 = .ok (.ifCond .eq 25, 3) := by decide +kernel
theorem dL_isAskedByText_85 : decode cL_isAskedByText 85 = .ok (.aload_n 0, 1) := by decide +kernel
theorem dL_isAskedByText_86 : decode cL_isAskedByText 86 = .ok (.invokevirtual 25, 3) := by decide +kernel
theorem dL_isAskedByText_89 : decode cL_isAskedByText 89 = .ok (.bipush (-5), 2) := by decide +kernel
theorem dL_isAskedByText_91 : decode cL_isAskedByText 91 = .ok (.if_icmp .ne 16, 3) := by decide +kernel
theorem dL_isAskedByText_94 : decode cL_isAskedByText 94 = .ok (.aload_n 0, 1) := by decide +kernel
theorem dL_isAskedByText_95 : decode cL_isAskedByText 95 = .ok (.invokevirtual 28, 3) := by decide +kernel
theorem dL_isAskedByText_98 : decode cL_isAskedByText 98 = .ok (.iload 6, 2) := by decide +kernel
theorem dL_isAskedByText_100 : decode cL_isAskedByText 100 = .ok (.if_icmp .ne 7, 3) := by decide +kernel
theorem dL_isAskedByText_103 : decode cL_isAskedByText 103 = .ok (.iconst 1, 1) := by decide +kernel
theorem dL_isAskedByText_104 : decode cL_isAskedByText 104 = .ok (.goto 4, 3) := by decide +kernel
theorem dL_isAskedByText_107 : decode cL_isAskedByText 107 = .ok (.iconst 0, 1) := by decide +kernel
theorem dL_isAskedByText_108 : decode cL_isAskedByText 108 = .ok (.ireturn, 1) := by decide +kernel
set_option maxRecDepth 20000 in
theorem ggL_isStep_X5_count : GoodIn wsL_isStep wsX5_count := goodIn_r _ [5, 6, 7, 8, 9, 10, 11, 12, 13, 14, 15, 16, 17, 18, 19, 20, 21, 22, 23, 24, 25, 26, 27, 28, 4, 29, 30, 31, 32, 33, 34, 35, 36, 37, 38, 39, 40, 41, 42, 43, 44, 45, 46, 47, 48, 49, 50, 51, 52, 53, 54, 55, 56, 57, 58, 59, 60, 61, 62, 63, 64, 65, 66, 67, 68, 69, 70, 71, 72, 73, 74, 75, 76, 77, 78, 79, 80, 81, 82, 83, 84, 85, 86, 87, 88, 89, 90, 91, 92, 93, 94, 95, 96, 97, 98, 99, 100, 101, 102, 103, 104, 105, 106, 107, 108, 109, 110, 111, 112, 113, 114, 115, 116, 117, 118, 119, 120, 121, 122, 123, 124, 125, 126, 127, 128, 129, 130, 131, 132, 133, 134, 135, 136, 137, 138, 139, 140, 141, 142, 143, 144, 145, 146, 147, 148, 149, 150, 151, 152, 153, 154, 155, 156, 157, 158, 159, 160, 161, 162, 163, 354, 355, 356, 357, 358, 359, 360, 361, 362, 363, 364, 365, 366, 367, 368, 369, 370, 371, 372, 373, 374, 375, 376, 377, 378, 379, 380, 381, 382, 383] (by decide +kernel) (by decide +kernel)
set_option maxRecDepth 20000 in
theorem gL_isStep_X5_count : GoodIn wsL_isStep (wsV RL 31 RX5 yX5_count wsX5_count) := goodIn_app (goodIn_of _ (by decide +kernel)) ggL_isStep_X5_count
set_option maxRecDepth 20000 in
theorem ggL_isStep_L_up : GoodIn wsL_isStep wsL_up := goodIn_r _ [167, 168] (by decide +kernel) (by decide +kernel)
set_option maxRecDepth 20000 in
theorem gL_isStep_L_up : GoodIn wsL_isStep (va_wsS RL 35 yL_up wsL_up) := goodIn_app (goodIn_of _ (by decide +kernel)) ggL_isStep_L_up
set_option maxRecDepth 20000 in
theorem ggL_isStep_X5_set : GoodIn wsL_isStep wsX5_set := goodIn_r _ [172, 173, 174, 6, 7, 11, 175, 176, 177, 178, 179, 180, 181, 182, 183, 184, 185, 18, 186, 53, 187, 188, 189, 190, 20, 84, 25, 191, 192, 193, 354, 355, 356, 357, 358, 359, 360, 361, 362, 363, 364, 365, 366, 367, 368, 369, 370, 371, 372] (by decide +kernel) (by decide +kernel)
set_option maxRecDepth 20000 in
theorem gL_isStep_X5_set : GoodIn wsL_isStep (wsV RL 39 RX5 yX5_set wsX5_set) := goodIn_app (goodIn_of _ (by decide +kernel)) ggL_isStep_X5_set
set_option maxRecDepth 20000 in
theorem ggL_isStep_X5_zone : GoodIn wsL_isStep wsX5_zone := goodIn_r _ [197, 6, 32, 30, 31, 198, 119, 120, 121, 199, 200, 4, 201, 40, 41, 42, 43, 44, 45, 46, 47, 48, 49, 50, 51, 18, 52, 53, 54, 38, 35, 39, 55, 56, 57, 58, 59, 60, 61, 62, 63, 64, 65, 66, 67, 68, 69, 70, 71, 72, 73, 74, 75, 76, 77, 78, 79, 80, 81, 82, 83, 84, 85, 86, 33, 34, 36, 37, 87, 88, 89, 90, 91, 92, 93, 94, 95, 96, 97, 98, 99, 100, 101, 102, 103, 104, 105, 106, 107, 108, 109, 110, 111, 112, 113, 114, 202, 144, 145, 146, 20, 147, 203, 204, 205, 206, 207, 208, 127, 209, 129, 130, 131, 132, 133, 134, 135, 136, 137, 138, 139, 140, 141, 142, 143, 148, 149, 150, 151, 152, 153, 154, 155, 156, 157, 158, 159, 160, 161, 162, 163, 354, 355, 356, 357, 358, 359, 360, 361, 362, 363, 364, 365, 366, 367, 368, 369, 377, 378, 379, 380, 381, 382, 383] (by decide +kernel) (by decide +kernel)
set_option maxRecDepth 20000 in
theorem gL_isStep_X5_zone : GoodIn wsL_isStep (wsV RL 42 RX5 yX5_zone wsX5_zone) := goodIn_app (goodIn_of _ (by decide +kernel)) ggL_isStep_X5_zone
set_option maxRecDepth 20000 in
theorem ggL_isStep_X5_kill : GoodIn wsL_isStep wsX5_kill := goodIn_r _ [213, 6, 198, 11, 32, 199, 200, 4, 201, 175, 176, 177, 178, 179, 180, 181, 182, 183, 184, 185, 18, 186, 53, 187, 188, 189, 190, 20, 84, 25, 191, 192, 193, 354, 355, 356, 357, 358, 359, 360, 361, 362, 363, 364, 365, 366, 367, 368, 369, 370, 371, 372] (by decide +kernel) (by decide +kernel)
set_option maxRecDepth 20000 in
theorem gL_isStep_X5_kill : GoodIn wsL_isStep (wsV RL 45 RX5 yX5_kill wsX5_kill) := goodIn_app (goodIn_of _ (by decide +kernel)) ggL_isStep_X5_kill
set_option maxRecDepth 20000 in
theorem ggL_isStep_X5_move : GoodIn wsL_isStep wsX5_move := goodIn_r _ [217, 11, 6, 218, 219, 220, 175, 176, 177, 178, 179, 180, 181, 182, 183, 184, 185, 18, 186, 53, 187, 188, 189, 190, 20, 84, 25, 191, 192, 193, 221, 222, 223, 4, 224, 225, 226, 227, 228, 229, 230, 231, 232, 58, 59, 233, 234, 235, 236, 354, 355, 356, 357, 358, 359, 360, 361, 362, 370, 371, 372, 363, 364, 365, 366, 367, 368, 369] (by decide +kernel) (by decide +kernel)
set_option maxRecDepth 20000 in
theorem gL_isStep_X5_move : GoodIn wsL_isStep (wsV RL 49 RX5 yX5_move wsX5_move) := goodIn_app (goodIn_of _ (by decide +kernel)) ggL_isStep_X5_move
set_option maxRecDepth 20000 in
theorem ggL_isStep_X5_spot : GoodIn wsL_isStep wsX5_spot := goodIn_r _ [240, 6, 225, 241, 231, 4, 232, 57, 58, 59, 202, 144, 145, 18, 146, 20, 147, 81, 82, 83, 84, 85, 86, 33, 34, 35, 36, 37, 38, 39, 87, 88, 89, 65, 66, 242, 152, 153, 154, 97, 98, 243, 149, 150, 151, 54, 155, 112, 113, 114, 244, 162, 163, 354, 355, 356, 357, 358, 359, 360, 361, 362, 363, 364, 365, 366, 367, 368, 369] (by decide +kernel) (by decide +kernel)
set_option maxRecDepth 20000 in
theorem gL_isStep_X5_spot : GoodIn wsL_isStep (wsV RL 52 RX5 yX5_spot wsX5_spot) := goodIn_app (goodIn_of _ (by decide +kernel)) ggL_isStep_X5_spot
set_option maxRecDepth 20000 in
theorem ggL_isStep_X5_restsIn : GoodIn wsL_isStep wsX5_restsIn := goodIn_r _ [248, 6, 7, 26, 27, 28, 4, 29, 30, 31, 32, 33, 34, 35, 36, 37, 38, 39, 40, 41, 42, 43, 44, 45, 46, 47, 48, 49, 50, 51, 18, 52, 53, 54, 55, 56, 57, 58, 59, 60, 61, 62, 63, 64, 65, 66, 67, 68, 69, 70, 71, 72, 73, 74, 75, 76, 77, 78, 79, 80, 81, 82, 83, 84, 85, 86, 87, 88, 89, 90, 91, 92, 93, 94, 95, 96, 97, 98, 99, 100, 101, 102, 103, 104, 105, 106, 107, 108, 109, 110, 111, 112, 113, 114, 154, 354, 355, 356, 357, 358, 359, 360, 361, 362, 363, 364, 365, 366, 367, 368, 369, 377, 378] (by decide +kernel) (by decide +kernel)
set_option maxRecDepth 20000 in
theorem gL_isStep_X5_restsIn : GoodIn wsL_isStep (wsV RL 56 RX5 yX5_restsIn wsX5_restsIn) := goodIn_app (goodIn_of _ (by decide +kernel)) ggL_isStep_X5_restsIn
set_option maxRecDepth 20000 in
theorem ggL_isStep_X5_pass : GoodIn wsL_isStep wsX5_pass := goodIn_r _ [252, 11, 6, 30, 31, 175, 176, 177, 178, 179, 180, 181, 182, 183, 184, 185, 18, 186, 53, 187, 188, 189, 190, 20, 84, 25, 191, 192, 193, 40, 41, 42, 43, 44, 45, 46, 47, 48, 49, 50, 51, 52, 54, 38, 35, 39, 55, 4, 56, 57, 58, 59, 60, 61, 62, 63, 64, 65, 66, 67, 68, 69, 70, 71, 72, 73, 74, 75, 76, 77, 78, 79, 80, 81, 82, 83, 85, 86, 33, 34, 36, 37, 87, 88, 89, 90, 91, 92, 93, 94, 95, 96, 97, 98, 99, 100, 101, 102, 103, 104, 105, 106, 107, 108, 109, 110, 111, 112, 113, 114, 253, 254, 255, 256, 257, 258, 259, 16, 17, 19, 15, 354, 355, 356, 357, 358, 359, 360, 361, 362, 377, 378, 370, 371, 372, 363, 364, 365, 366, 367, 368, 369] (by decide +kernel) (by decide +kernel)
set_option maxRecDepth 20000 in
theorem gL_isStep_X5_pass : GoodIn wsL_isStep (wsV RL 59 RX5 yX5_pass wsX5_pass) := goodIn_app (goodIn_of _ (by decide +kernel)) ggL_isStep_X5_pass
set_option maxRecDepth 20000 in
theorem ggL_isStep_L_areAlike : GoodIn wsL_isStep wsL_areAlike := goodIn_r _ [262, 263, 264, 265, 4, 266, 119, 6, 267, 268, 124, 125, 126, 127, 128, 129, 130, 131, 132, 133, 134, 135, 136, 137, 138, 139, 140, 141, 142, 143, 144, 145, 18, 146, 20, 147, 81, 82, 83, 84, 85, 86, 33, 34, 35, 36, 37, 38, 39, 87, 88, 89, 65, 66, 55, 56, 57, 58, 59, 148, 149, 150, 151, 54, 152, 153, 154, 97, 98, 155, 112, 113, 114, 156, 157, 158, 159, 160, 161, 162, 163, 245, 246, 247, 248, 7, 26, 27, 28, 29, 30, 31, 32, 40, 41, 42, 43, 44, 45, 46, 47, 48, 49, 50, 51, 52, 53, 60, 61, 62, 63, 64, 67, 68, 69, 70, 71, 72, 73, 74, 75, 76, 77, 78, 79, 80, 90, 91, 92, 93, 94, 95, 96, 99, 100, 101, 102, 103, 104, 105, 106, 107, 108, 109, 110, 111, 269, 270, 271, 272, 273, 122, 274, 184, 185, 186, 187, 188, 189, 190, 25, 191, 192, 193, 275, 276, 277, 278, 226, 15, 16, 17, 19, 279, 280, 281, 282, 1, 2, 3, 5, 8, 9, 10, 11, 12, 13, 14, 21, 22, 23, 24, 115, 116, 117, 118, 120, 121, 123, 194, 195, 196, 197, 198, 199, 200, 201, 202, 203, 204, 205, 206, 207, 208, 209, 354, 355, 356, 357, 358, 359, 360, 361, 362, 379, 380, 381, 382, 383, 363, 364, 365, 366, 367, 368, 369, 377, 378, 370, 371, 372, 373, 374, 375, 376] (by decide +kernel) (by decide +kernel)
set_option maxRecDepth 20000 in
theorem gL_isStep_L_areAlike : GoodIn wsL_isStep (va_wsS RL 62 yL_areAlike wsL_areAlike) := goodIn_app (goodIn_of _ (by decide +kernel)) ggL_isStep_L_areAlike
set_option maxRecDepth 20000 in
theorem ggL_isStep_X5_keep : GoodIn wsL_isStep wsX5_keep := goodIn_r _ [286, 287, 6, 288, 8, 274, 184, 185, 18, 186, 53, 187, 188, 189, 190, 20, 84, 25, 191, 192, 193, 354, 355, 356, 357, 358, 359, 360, 361, 362, 363, 364, 365, 366, 367, 368, 369] (by decide +kernel) (by decide +kernel)
set_option maxRecDepth 20000 in
theorem gL_isStep_X5_keep : GoodIn wsL_isStep (wsV RL 66 RX5 yX5_keep wsX5_keep) := goodIn_app (goodIn_of _ (by decide +kernel)) ggL_isStep_X5_keep
set_option maxRecDepth 20000 in
theorem ggL_isStep_X5_restore : GoodIn wsL_isStep wsX5_restore := goodIn_r _ [292, 288, 11, 6, 287, 8, 175, 176, 177, 178, 179, 180, 181, 182, 183, 184, 185, 18, 186, 53, 187, 188, 189, 190, 20, 84, 25, 191, 192, 193, 274, 354, 355, 356, 357, 358, 359, 360, 361, 362, 363, 364, 365, 366, 367, 368, 369, 370, 371, 372] (by decide +kernel) (by decide +kernel)
set_option maxRecDepth 20000 in
theorem gL_isStep_X5_restore : GoodIn wsL_isStep (wsV RL 69 RX5 yX5_restore wsX5_restore) := goodIn_app (goodIn_of _ (by decide +kernel)) ggL_isStep_X5_restore
set_option maxRecDepth 20000 in
theorem ggL_isStep_X5_ask : GoodIn wsL_isStep wsX5_ask := goodIn_r _ [296, 6, 225, 11, 241, 231, 4, 232, 57, 58, 59, 175, 176, 177, 178, 179, 180, 181, 182, 183, 184, 185, 18, 186, 53, 187, 188, 189, 190, 20, 84, 25, 191, 192, 193, 354, 355, 356, 357, 358, 359, 360, 361, 362, 363, 364, 365, 366, 367, 368, 369, 370, 371, 372] (by decide +kernel) (by decide +kernel)
set_option maxRecDepth 20000 in
theorem gL_isStep_X5_ask : GoodIn wsL_isStep (wsV RL 72 RX5 yX5_ask wsX5_ask) := goodIn_app (goodIn_of _ (by decide +kernel)) ggL_isStep_X5_ask
set_option maxRecDepth 20000 in
theorem ggL_isStep_L_isAskedByText : GoodIn wsL_isStep wsL_isAskedByText := goodIn_r _ [299, 300, 301, 302, 4, 303, 13, 14, 304, 305, 166, 306, 307, 308, 309, 310, 311, 312, 313, 314, 315, 316, 317, 318, 319, 320, 321, 322, 323, 324, 325, 326, 327, 328, 329, 330, 331, 332, 333, 334, 335, 336, 337, 338, 339, 340, 341, 11, 6, 175, 176, 177, 178, 179, 180, 181, 182, 183, 184, 185, 18, 186, 53, 187, 188, 189, 190, 20, 84, 25, 191, 192, 193, 221, 222, 223, 224, 225, 218, 226, 342, 343, 344, 345, 346, 347, 348, 349, 350, 351, 352, 353, 257, 65, 35, 66, 54, 38, 39, 58, 59, 233, 234, 235, 236, 354, 355, 356, 357, 358, 359, 360, 361, 362, 373, 374, 375, 376, 370, 371, 372, 363, 364, 365, 366, 367, 368, 369] (by decide +kernel) (by decide +kernel)
set_option maxRecDepth 20000 in
theorem gL_isStep_L_isAskedByText : GoodIn wsL_isStep (va_wsS RL 75 yL_isAskedByText wsL_isAskedByText) := goodIn_app (goodIn_of _ (by decide +kernel)) ggL_isStep_L_isAskedByText
theorem dL_isStep_0 : decode cL_isStep 0 = .ok (.iload_n 2, 1) := by decide +kernel
theorem dL_isStep_1 : decode cL_isStep 1 = .ok (.iconst 4, 1) := by decide +kernel
theorem dL_isStep_2 : decode cL_isStep 2 = .ok (.ishr, 1) := by decide +kernel
theorem dL_isStep_3 : decode cL_isStep 3 = .ok (.istore 4, 2) := by decide +kernel
theorem dL_isStep_5 : decode cL_isStep 5 = .ok (.aload_n 0, 1) := by decide +kernel
theorem dL_isStep_6 : decode cL_isStep 6 = .ok (.iconst 1, 1) := by decide +kernel
theorem dL_isStep_7 : decode cL_isStep 7 = .ok (.invokevirtual 31, 3) := by decide +kernel
theorem dL_isStep_10 : decode cL_isStep 10 = .ok (.istore 5, 2) := by decide +kernel
theorem dL_isStep_12 : decode cL_isStep 12 = .ok (.aload_n 0, 1) := by decide +kernel
theorem dL_isStep_13 : decode cL_isStep 13 = .ok (.iconst 2, 1) := by decide +kernel
theorem dL_isStep_14 : decode cL_isStep 14 = .ok (.invokevirtual 31, 3) := by decide +kernel
theorem dL_isStep_17 : decode cL_isStep 17 = .ok (.istore 6, 2) := by decide +kernel
theorem dL_isStep_19 : decode cL_isStep 19 = .ok (.iload_n 2, 1) := by decide +kernel
theorem dL_isStep_20 : decode cL_isStep 20 = .ok (.bipush 14, 2) := by decide +kernel
theorem dL_isStep_22 : decode cL_isStep 22 = .ok (.invokestatic 35, 3) := by decide +kernel
theorem dL_isStep_25 : decode cL_isStep 25 = .ok (.tableswitch 775 0 9 #[55, 55, 261, 261, 380, 550, 550, 550, 725, 731], 55) := by decide +kernel
theorem dL_isStep_80 : decode cL_isStep 80 = .ok (.iload 4, 2) := by decide +kernel
theorem dL_isStep_82 : decode cL_isStep 82 = .ok (.bipush 8, 2) := by decide +kernel
theorem dL_isStep_84 : decode cL_isStep 84 = .ok (.invokestatic 35, 3) := by decide +kernel
theorem dL_isStep_87 : decode cL_isStep 87 = .ok (.istore 7, 2) := by decide +kernel
theorem dL_isStep_89 : decode cL_isStep 89 = .ok (.iload 7, 2) := by decide +kernel
theorem dL_isStep_91 : decode cL_isStep 91 = .ok (.ifCond .ne 16, 3) := by decide +kernel
theorem dL_isStep_94 : decode cL_isStep 94 = .ok (.bipush 100, 2) := by decide +kernel
theorem dL_isStep_96 : decode cL_isStep 96 = .ok (.iload_n 3, 1) := by decide +kernel
theorem dL_isStep_97 : decode cL_isStep 97 = .ok (.sipush 157, 3) := by decide +kernel
theorem dL_isStep_100 : decode cL_isStep 100 = .ok (.invokestatic 35, 3) := by decide +kernel
theorem dL_isStep_103 : decode cL_isStep 103 = .ok (.iadd, 1) := by decide +kernel
theorem dL_isStep_104 : decode cL_isStep 104 = .ok (.goto 107, 3) := by decide +kernel
theorem dL_isStep_107 : decode cL_isStep 107 = .ok (.iload 7, 2) := by decide +kernel
theorem dL_isStep_109 : decode cL_isStep 109 = .ok (.iconst 1, 1) := by decide +kernel
theorem dL_isStep_110 : decode cL_isStep 110 = .ok (.if_icmp .ne 12, 3) := by decide +kernel
theorem dL_isStep_113 : decode cL_isStep 113 = .ok (.iload_n 3, 1) := by decide +kernel
theorem dL_isStep_114 : decode cL_isStep 114 = .ok (.bipush 31, 2) := by decide +kernel
theorem dL_isStep_116 : decode cL_isStep 116 = .ok (.invokestatic 35, 3) := by decide +kernel
theorem dL_isStep_119 : decode cL_isStep 119 = .ok (.goto 92, 3) := by decide +kernel
theorem dL_isStep_122 : decode cL_isStep 122 = .ok (.iload 7, 2) := by decide +kernel
theorem dL_isStep_124 : decode cL_isStep 124 = .ok (.iconst 2, 1) := by decide +kernel
theorem dL_isStep_125 : decode cL_isStep 125 = .ok (.if_icmp .eq 9, 3) := by decide +kernel
theorem dL_isStep_128 : decode cL_isStep 128 = .ok (.iload 7, 2) := by decide +kernel
theorem dL_isStep_130 : decode cL_isStep 130 = .ok (.iconst 4, 1) := by decide +kernel
theorem dL_isStep_131 : decode cL_isStep 131 = .ok (.if_icmp .ne 12, 3) := by decide +kernel
theorem dL_isStep_134 : decode cL_isStep 134 = .ok (.iload_n 3, 1) := by decide +kernel
theorem dL_isStep_135 : decode cL_isStep 135 = .ok (.bipush 10, 2) := by decide +kernel
theorem dL_isStep_137 : decode cL_isStep 137 = .ok (.invokestatic 35, 3) := by decide +kernel
theorem dL_isStep_140 : decode cL_isStep 140 = .ok (.goto 71, 3) := by decide +kernel
theorem dL_isStep_143 : decode cL_isStep 143 = .ok (.iload 7, 2) := by decide +kernel
theorem dL_isStep_145 : decode cL_isStep 145 = .ok (.iconst 3, 1) := by decide +kernel
theorem dL_isStep_146 : decode cL_isStep 146 = .ok (.if_icmp .ne 11, 3) := by decide +kernel
theorem dL_isStep_149 : decode cL_isStep 149 = .ok (.iload_n 3, 1) := by decide +kernel
theorem dL_isStep_150 : decode cL_isStep 150 = .ok (.iconst 3, 1) := by decide +kernel
theorem dL_isStep_151 : decode cL_isStep 151 = .ok (.invokestatic 35, 3) := by decide +kernel
theorem dL_isStep_154 : decode cL_isStep 154 = .ok (.goto 57, 3) := by decide +kernel
theorem dL_isStep_157 : decode cL_isStep 157 = .ok (.iload 7, 2) := by decide +kernel
theorem dL_isStep_159 : decode cL_isStep 159 = .ok (.iconst 5, 1) := by decide +kernel
theorem dL_isStep_160 : decode cL_isStep 160 = .ok (.if_icmp .ne 12, 3) := by decide +kernel
theorem dL_isStep_163 : decode cL_isStep 163 = .ok (.iload_n 3, 1) := by decide +kernel
theorem dL_isStep_164 : decode cL_isStep 164 = .ok (.bipush 51, 2) := by decide +kernel
theorem dL_isStep_166 : decode cL_isStep 166 = .ok (.invokestatic 35, 3) := by decide +kernel
theorem dL_isStep_169 : decode cL_isStep 169 = .ok (.goto 42, 3) := by decide +kernel
theorem dL_isStep_172 : decode cL_isStep 172 = .ok (.iload 7, 2) := by decide +kernel
theorem dL_isStep_174 : decode cL_isStep 174 = .ok (.bipush 6, 2) := by decide +kernel
theorem dL_isStep_176 : decode cL_isStep 176 = .ok (.if_icmp .ne 12, 3) := by decide +kernel
theorem dL_isStep_179 : decode cL_isStep 179 = .ok (.iload_n 3, 1) := by decide +kernel
theorem dL_isStep_180 : decode cL_isStep 180 = .ok (.bipush 21, 2) := by decide +kernel
theorem dL_isStep_182 : decode cL_isStep 182 = .ok (.invokestatic 35, 3) := by decide +kernel
theorem dL_isStep_185 : decode cL_isStep 185 = .ok (.goto 26, 3) := by decide +kernel
theorem dL_isStep_188 : decode cL_isStep 188 = .ok (.iconst 1, 1) := by decide +kernel
theorem dL_isStep_189 : decode cL_isStep 189 = .ok (.iload_n 3, 1) := by decide +kernel
theorem dL_isStep_190 : decode cL_isStep 190 = .ok (.iload 4, 2) := by decide +kernel
theorem dL_isStep_192 : decode cL_isStep 192 = .ok (.iconst 2, 1) := by decide +kernel
theorem dL_isStep_193 : decode cL_isStep 193 = .ok (.invokestatic 35, 3) := by decide +kernel
theorem dL_isStep_196 : decode cL_isStep 196 = .ok (.ifCond .ne 9, 3) := by decide +kernel
theorem dL_isStep_199 : decode cL_isStep 199 = .ok (.sipush 255, 3) := by decide +kernel
theorem dL_isStep_202 : decode cL_isStep 202 = .ok (.goto 5, 3) := by decide +kernel
theorem dL_isStep_205 : decode cL_isStep 205 = .ok (.bipush 30, 2) := by decide +kernel
theorem dL_isStep_207 : decode cL_isStep 207 = .ok (.invokestatic 35, 3) := by decide +kernel
theorem dL_isStep_210 : decode cL_isStep 210 = .ok (.iadd, 1) := by decide +kernel
theorem dL_isStep_211 : decode cL_isStep 211 = .ok (.istore 8, 2) := by decide +kernel
theorem dL_isStep_213 : decode cL_isStep 213 = .ok (.aload_n 0, 1) := by decide +kernel
theorem dL_isStep_214 : decode cL_isStep 214 = .ok (.bipush 13, 2) := by decide +kernel
theorem dL_isStep_216 : decode cL_isStep 216 = .ok (.iload 7, 2) := by decide +kernel
theorem dL_isStep_218 : decode cL_isStep 218 = .ok (.iadd, 1) := by decide +kernel
theorem dL_isStep_219 : decode cL_isStep 219 = .ok (.invokevirtual 31, 3) := by decide +kernel
theorem dL_isStep_222 : decode cL_isStep 222 = .ok (.istore 9, 2) := by decide +kernel
theorem dL_isStep_224 : decode cL_isStep 224 = .ok (.aload_n 0, 1) := by decide +kernel
theorem dL_isStep_225 : decode cL_isStep 225 = .ok (.iload 7, 2) := by decide +kernel
theorem dL_isStep_227 : decode cL_isStep 227 = .ok (.iload 8, 2) := by decide +kernel
theorem dL_isStep_229 : decode cL_isStep 229 = .ok (.invokevirtual 39, 3) := by decide +kernel
theorem dL_isStep_232 : decode cL_isStep 232 = .ok (.istore 10, 2) := by decide +kernel
theorem dL_isStep_234 : decode cL_isStep 234 = .ok (.iload 10, 2) := by decide +kernel
theorem dL_isStep_236 : decode cL_isStep 236 = .ok (.aload_n 1, 1) := by decide +kernel
theorem dL_isStep_237 : decode cL_isStep 237 = .ok (.iload 7, 2) := by decide +kernel
theorem dL_isStep_239 : decode cL_isStep 239 = .ok (.iload 8, 2) := by decide +kernel
theorem dL_isStep_241 : decode cL_isStep 241 = .ok (.invokevirtual 39, 3) := by decide +kernel
theorem dL_isStep_244 : decode cL_isStep 244 = .ok (.if_icmp .ne 40, 3) := by decide +kernel
theorem dL_isStep_247 : decode cL_isStep 247 = .ok (.iload 10, 2) := by decide +kernel
theorem dL_isStep_249 : decode cL_isStep 249 = .ok (.iload 9, 2) := by decide +kernel
theorem dL_isStep_251 : decode cL_isStep 251 = .ok (.iload 8, 2) := by decide +kernel
theorem dL_isStep_253 : decode cL_isStep 253 = .ok (.if_icmp .ne 8, 3) := by decide +kernel
theorem dL_isStep_256 : decode cL_isStep 256 = .ok (.bipush (-5), 2) := by decide +kernel
theorem dL_isStep_258 : decode cL_isStep 258 = .ok (.goto 5, 3) := by decide +kernel
theorem dL_isStep_261 : decode cL_isStep 261 = .ok (.iload 9, 2) := by decide +kernel
theorem dL_isStep_263 : decode cL_isStep 263 = .ok (.if_icmp .ne 21, 3) := by decide +kernel
theorem dL_isStep_266 : decode cL_isStep 266 = .ok (.aload_n 0, 1) := by decide +kernel
theorem dL_isStep_267 : decode cL_isStep 267 = .ok (.bipush 13, 2) := by decide +kernel
theorem dL_isStep_269 : decode cL_isStep 269 = .ok (.iload 7, 2) := by decide +kernel
theorem dL_isStep_271 : decode cL_isStep 271 = .ok (.iadd, 1) := by decide +kernel
theorem dL_isStep_272 : decode cL_isStep 272 = .ok (.invokevirtual 31, 3) := by decide +kernel
theorem dL_isStep_275 : decode cL_isStep 275 = .ok (.iload 8, 2) := by decide +kernel
theorem dL_isStep_277 : decode cL_isStep 277 = .ok (.if_icmp .ne 7, 3) := by decide +kernel
theorem dL_isStep_280 : decode cL_isStep 280 = .ok (.iconst 1, 1) := by decide +kernel
theorem dL_isStep_281 : decode cL_isStep 281 = .ok (.goto 4, 3) := by decide +kernel
theorem dL_isStep_284 : decode cL_isStep 284 = .ok (.iconst 0, 1) := by decide +kernel
theorem dL_isStep_285 : decode cL_isStep 285 = .ok (.ireturn, 1) := by decide +kernel
theorem dL_isStep_286 : decode cL_isStep 286 = .ok (.iload_n 3, 1) := by decide +kernel
theorem dL_isStep_287 : decode cL_isStep 287 = .ok (.bipush 18, 2) := by decide +kernel
theorem dL_isStep_289 : decode cL_isStep 289 = .ok (.invokestatic 35, 3) := by decide +kernel
theorem dL_isStep_292 : decode cL_isStep 292 = .ok (.istore 7, 2) := by decide +kernel
theorem dL_isStep_294 : decode cL_isStep 294 = .ok (.aload_n 0, 1) := by decide +kernel
theorem dL_isStep_295 : decode cL_isStep 295 = .ok (.iload 7, 2) := by decide +kernel
theorem dL_isStep_297 : decode cL_isStep 297 = .ok (.iconst 0, 1) := by decide +kernel
theorem dL_isStep_298 : decode cL_isStep 298 = .ok (.invokevirtual 42, 3) := by decide +kernel
theorem dL_isStep_301 : decode cL_isStep 301 = .ok (.istore 8, 2) := by decide +kernel
theorem dL_isStep_303 : decode cL_isStep 303 = .ok (.aload_n 0, 1) := by decide +kernel
theorem dL_isStep_304 : decode cL_isStep 304 = .ok (.iload 7, 2) := by decide +kernel
theorem dL_isStep_306 : decode cL_isStep 306 = .ok (.iconst 3, 1) := by decide +kernel
theorem dL_isStep_307 : decode cL_isStep 307 = .ok (.invokevirtual 42, 3) := by decide +kernel
theorem dL_isStep_310 : decode cL_isStep 310 = .ok (.ifCond .ne 7, 3) := by decide +kernel
theorem dL_isStep_313 : decode cL_isStep 313 = .ok (.iconst 1, 1) := by decide +kernel
theorem dL_isStep_314 : decode cL_isStep 314 = .ok (.goto 4, 3) := by decide +kernel
theorem dL_isStep_317 : decode cL_isStep 317 = .ok (.iconst 0, 1) := by decide +kernel
theorem dL_isStep_318 : decode cL_isStep 318 = .ok (.istore 9, 2) := by decide +kernel
theorem dL_isStep_320 : decode cL_isStep 320 = .ok (.aload_n 0, 1) := by decide +kernel
theorem dL_isStep_321 : decode cL_isStep 321 = .ok (.iload 7, 2) := by decide +kernel
theorem dL_isStep_323 : decode cL_isStep 323 = .ok (.iload 9, 2) := by decide +kernel
theorem dL_isStep_325 : decode cL_isStep 325 = .ok (.invokevirtual 45, 3) := by decide +kernel
theorem dL_isStep_328 : decode cL_isStep 328 = .ok (.iload 8, 2) := by decide +kernel
theorem dL_isStep_330 : decode cL_isStep 330 = .ok (.if_icmp .ne 73, 3) := by decide +kernel
theorem dL_isStep_333 : decode cL_isStep 333 = .ok (.aload_n 1, 1) := by decide +kernel
theorem dL_isStep_334 : decode cL_isStep 334 = .ok (.iload 7, 2) := by decide +kernel
theorem dL_isStep_336 : decode cL_isStep 336 = .ok (.iload 9, 2) := by decide +kernel
theorem dL_isStep_338 : decode cL_isStep 338 = .ok (.invokevirtual 45, 3) := by decide +kernel
theorem dL_isStep_341 : decode cL_isStep 341 = .ok (.iload 8, 2) := by decide +kernel
theorem dL_isStep_343 : decode cL_isStep 343 = .ok (.if_icmp .ne 60, 3) := by decide +kernel
theorem dL_isStep_346 : decode cL_isStep 346 = .ok (.aload_n 0, 1) := by decide +kernel
theorem dL_isStep_347 : decode cL_isStep 347 = .ok (.iload 7, 2) := by decide +kernel
theorem dL_isStep_349 : decode cL_isStep 349 = .ok (.iconst 0, 1) := by decide +kernel
theorem dL_isStep_350 : decode cL_isStep 350 = .ok (.invokevirtual 42, 3) := by decide +kernel
theorem dL_isStep_353 : decode cL_isStep 353 = .ok (.ifCond .ne 50, 3) := by decide +kernel
theorem dL_isStep_356 : decode cL_isStep 356 = .ok (.aload_n 0, 1) := by decide +kernel
theorem dL_isStep_357 : decode cL_isStep 357 = .ok (.iload 7, 2) := by decide +kernel
theorem dL_isStep_359 : decode cL_isStep 359 = .ok (.iconst 3, 1) := by decide +kernel
theorem dL_isStep_360 : decode cL_isStep 360 = .ok (.invokevirtual 42, 3) := by decide +kernel
theorem dL_isStep_363 : decode cL_isStep 363 = .ok (.iload 9, 2) := by decide +kernel
theorem dL_isStep_365 : decode cL_isStep 365 = .ok (.ifCond .eq 7, 3) := by decide +kernel
theorem dL_isStep_368 : decode cL_isStep 368 = .ok (.iconst 1, 1) := by decide +kernel
theorem dL_isStep_369 : decode cL_isStep 369 = .ok (.goto 4, 3) := by decide +kernel
theorem dL_isStep_372 : decode cL_isStep 372 = .ok (.iconst 0, 1) := by decide +kernel
theorem dL_isStep_373 : decode cL_isStep 373 = .ok (.if_icmp .ne 30, 3) := by decide +kernel
theorem dL_isStep_376 : decode cL_isStep 376 = .ok (.aload_n 0, 1) := by decide +kernel
theorem dL_isStep_377 : decode cL_isStep 377 = .ok (.iconst 1, 1) := by decide +kernel
theorem dL_isStep_378 : decode cL_isStep 378 = .ok (.invokevirtual 31, 3) := by decide +kernel
theorem dL_isStep_381 : decode cL_isStep 381 = .ok (.iload 5, 2) := by decide +kernel
theorem dL_isStep_383 : decode cL_isStep 383 = .ok (.iload 8, 2) := by decide +kernel
theorem dL_isStep_385 : decode cL_isStep 385 = .ok (.isub, 1) := by decide +kernel
theorem dL_isStep_386 : decode cL_isStep 386 = .ok (.if_icmp .ne 17, 3) := by decide +kernel
theorem dL_isStep_389 : decode cL_isStep 389 = .ok (.aload_n 0, 1) := by decide +kernel
theorem dL_isStep_390 : decode cL_isStep 390 = .ok (.iconst 2, 1) := by decide +kernel
theorem dL_isStep_391 : decode cL_isStep 391 = .ok (.invokevirtual 31, 3) := by decide +kernel
theorem dL_isStep_394 : decode cL_isStep 394 = .ok (.iload 6, 2) := by decide +kernel
theorem dL_isStep_396 : decode cL_isStep 396 = .ok (.if_icmp .ne 7, 3) := by decide +kernel
theorem dL_isStep_399 : decode cL_isStep 399 = .ok (.iconst 1, 1) := by decide +kernel
theorem dL_isStep_400 : decode cL_isStep 400 = .ok (.goto 4, 3) := by decide +kernel
theorem dL_isStep_403 : decode cL_isStep 403 = .ok (.iconst 0, 1) := by decide +kernel
theorem dL_isStep_404 : decode cL_isStep 404 = .ok (.ireturn, 1) := by decide +kernel
theorem dL_isStep_405 : decode cL_isStep 405 = .ok (.iload 4, 2) := by decide +kernel
theorem dL_isStep_407 : decode cL_isStep 407 = .ok (.iconst 4, 1) := by decide +kernel
theorem dL_isStep_408 : decode cL_isStep 408 = .ok (.invokestatic 35, 3) := by decide +kernel
theorem dL_isStep_411 : decode cL_isStep 411 = .ok (.istore 7, 2) := by decide +kernel
theorem dL_isStep_413 : decode cL_isStep 413 = .ok (.aload_n 0, 1) := by decide +kernel
theorem dL_isStep_414 : decode cL_isStep 414 = .ok (.iload 7, 2) := by decide +kernel
theorem dL_isStep_416 : decode cL_isStep 416 = .ok (.invokevirtual 49, 3) := by decide +kernel
theorem dL_isStep_419 : decode cL_isStep 419 = .ok (.istore 8, 2) := by decide +kernel
theorem dL_isStep_421 : decode cL_isStep 421 = .ok (.iload 8, 2) := by decide +kernel
theorem dL_isStep_423 : decode cL_isStep 423 = .ok (.aload_n 1, 1) := by decide +kernel
theorem dL_isStep_424 : decode cL_isStep 424 = .ok (.iload 7, 2) := by decide +kernel
theorem dL_isStep_426 : decode cL_isStep 426 = .ok (.invokevirtual 49, 3) := by decide +kernel
theorem dL_isStep_429 : decode cL_isStep 429 = .ok (.if_icmp .ne 12, 3) := by decide +kernel
theorem dL_isStep_432 : decode cL_isStep 432 = .ok (.iload 8, 2) := by decide +kernel
theorem dL_isStep_434 : decode cL_isStep 434 = .ok (.ifCond .lt 7, 3) := by decide +kernel
theorem dL_isStep_437 : decode cL_isStep 437 = .ok (.iconst 1, 1) := by decide +kernel
theorem dL_isStep_438 : decode cL_isStep 438 = .ok (.goto 4, 3) := by decide +kernel
theorem dL_isStep_441 : decode cL_isStep 441 = .ok (.iconst 0, 1) := by decide +kernel
theorem dL_isStep_442 : decode cL_isStep 442 = .ok (.istore 9, 2) := by decide +kernel
theorem dL_isStep_444 : decode cL_isStep 444 = .ok (.iload 7, 2) := by decide +kernel
theorem dL_isStep_446 : decode cL_isStep 446 = .ok (.iconst 1, 1) := by decide +kernel
theorem dL_isStep_447 : decode cL_isStep 447 = .ok (.ixor, 1) := by decide +kernel
theorem dL_isStep_448 : decode cL_isStep 448 = .ok (.istore 10, 2) := by decide +kernel
theorem dL_isStep_450 : decode cL_isStep 450 = .ok (.iload 9, 2) := by decide +kernel
theorem dL_isStep_452 : decode cL_isStep 452 = .ok (.ifCond .eq 25, 3) := by decide +kernel
theorem dL_isStep_455 : decode cL_isStep 455 = .ok (.aload_n 0, 1) := by decide +kernel
theorem dL_isStep_456 : decode cL_isStep 456 = .ok (.iload 10, 2) := by decide +kernel
theorem dL_isStep_458 : decode cL_isStep 458 = .ok (.invokevirtual 49, 3) := by decide +kernel
theorem dL_isStep_461 : decode cL_isStep 461 = .ok (.ifCond .lt 16, 3) := by decide +kernel
theorem dL_isStep_464 : decode cL_isStep 464 = .ok (.aload_n 1, 1) := by decide +kernel
theorem dL_isStep_465 : decode cL_isStep 465 = .ok (.iload 10, 2) := by decide +kernel
theorem dL_isStep_467 : decode cL_isStep 467 = .ok (.invokevirtual 49, 3) := by decide +kernel
theorem dL_isStep_470 : decode cL_isStep 470 = .ok (.ifCond .lt 7, 3) := by decide +kernel
theorem dL_isStep_473 : decode cL_isStep 473 = .ok (.iconst 1, 1) := by decide +kernel
theorem dL_isStep_474 : decode cL_isStep 474 = .ok (.goto 4, 3) := by decide +kernel
theorem dL_isStep_477 : decode cL_isStep 477 = .ok (.iconst 0, 1) := by decide +kernel
theorem dL_isStep_478 : decode cL_isStep 478 = .ok (.istore 9, 2) := by decide +kernel
theorem dL_isStep_480 : decode cL_isStep 480 = .ok (.iconst 0, 1) := by decide +kernel
theorem dL_isStep_481 : decode cL_isStep 481 = .ok (.istore 11, 2) := by decide +kernel
theorem dL_isStep_483 : decode cL_isStep 483 = .ok (.iload 11, 2) := by decide +kernel
theorem dL_isStep_485 : decode cL_isStep 485 = .ok (.bipush 24, 2) := by decide +kernel
theorem dL_isStep_487 : decode cL_isStep 487 = .ok (.if_icmp .ge 85, 3) := by decide +kernel
theorem dL_isStep_490 : decode cL_isStep 490 = .ok (.iload 7, 2) := by decide +kernel
theorem dL_isStep_492 : decode cL_isStep 492 = .ok (.ifCond .ne 7, 3) := by decide +kernel
theorem dL_isStep_495 : decode cL_isStep 495 = .ok (.iconst 0, 1) := by decide +kernel
theorem dL_isStep_496 : decode cL_isStep 496 = .ok (.goto 16, 3) := by decide +kernel
theorem dL_isStep_499 : decode cL_isStep 499 = .ok (.iload 7, 2) := by decide +kernel
theorem dL_isStep_501 : decode cL_isStep 501 = .ok (.iconst 1, 1) := by decide +kernel
theorem dL_isStep_502 : decode cL_isStep 502 = .ok (.if_icmp .ne 8, 3) := by decide +kernel
theorem dL_isStep_505 : decode cL_isStep 505 = .ok (.bipush 23, 2) := by decide +kernel
theorem dL_isStep_507 : decode cL_isStep 507 = .ok (.goto 5, 3) := by decide +kernel
theorem dL_isStep_510 : decode cL_isStep 510 = .ok (.iload 11, 2) := by decide +kernel
theorem dL_isStep_512 : decode cL_isStep 512 = .ok (.istore 12, 2) := by decide +kernel
theorem dL_isStep_514 : decode cL_isStep 514 = .ok (.iload 7, 2) := by decide +kernel
theorem dL_isStep_516 : decode cL_isStep 516 = .ok (.iconst 2, 1) := by decide +kernel
theorem dL_isStep_517 : decode cL_isStep 517 = .ok (.if_icmp .ne 7, 3) := by decide +kernel
theorem dL_isStep_520 : decode cL_isStep 520 = .ok (.iconst 0, 1) := by decide +kernel
theorem dL_isStep_521 : decode cL_isStep 521 = .ok (.goto 19, 3) := by decide +kernel
theorem dL_isStep_524 : decode cL_isStep 524 = .ok (.iload 7, 2) := by decide +kernel
theorem dL_isStep_526 : decode cL_isStep 526 = .ok (.iconst 3, 1) := by decide +kernel
theorem dL_isStep_527 : decode cL_isStep 527 = .ok (.if_icmp .ne 8, 3) := by decide +kernel
theorem dL_isStep_530 : decode cL_isStep 530 = .ok (.bipush 11, 2) := by decide +kernel
theorem dL_isStep_532 : decode cL_isStep 532 = .ok (.goto 8, 3) := by decide +kernel
theorem dL_isStep_535 : decode cL_isStep 535 = .ok (.iload 11, 2) := by decide +kernel
theorem dL_isStep_537 : decode cL_isStep 537 = .ok (.bipush 12, 2) := by decide +kernel
theorem dL_isStep_539 : decode cL_isStep 539 = .ok (.irem, 1) := by decide +kernel
theorem dL_isStep_540 : decode cL_isStep 540 = .ok (.istore 13, 2) := by decide +kernel
theorem dL_isStep_542 : decode cL_isStep 542 = .ok (.iload 9, 2) := by decide +kernel
theorem dL_isStep_544 : decode cL_isStep 544 = .ok (.ifCond .eq 19, 3) := by decide +kernel
theorem dL_isStep_547 : decode cL_isStep 547 = .ok (.aload_n 0, 1) := by decide +kernel
theorem dL_isStep_548 : decode cL_isStep 548 = .ok (.iload 12, 2) := by decide +kernel
theorem dL_isStep_550 : decode cL_isStep 550 = .ok (.iload 13, 2) := by decide +kernel
theorem dL_isStep_552 : decode cL_isStep 552 = .ok (.iconst 0, 1) := by decide +kernel
theorem dL_isStep_553 : decode cL_isStep 553 = .ok (.invokevirtual 52, 3) := by decide +kernel
theorem dL_isStep_556 : decode cL_isStep 556 = .ok (.ifCond .ne 7, 3) := by decide +kernel
theorem dL_isStep_559 : decode cL_isStep 559 = .ok (.iconst 1, 1) := by decide +kernel
theorem dL_isStep_560 : decode cL_isStep 560 = .ok (.goto 4, 3) := by decide +kernel
theorem dL_isStep_563 : decode cL_isStep 563 = .ok (.iconst 0, 1) := by decide +kernel
theorem dL_isStep_564 : decode cL_isStep 564 = .ok (.istore 9, 2) := by decide +kernel
theorem dL_isStep_566 : decode cL_isStep 566 = .ok (.iinc 11 1, 3) := by decide +kernel
theorem dL_isStep_569 : decode cL_isStep 569 = .ok (.goto (-86), 3) := by decide +kernel
theorem dL_isStep_572 : decode cL_isStep 572 = .ok (.iload 9, 2) := by decide +kernel
theorem dL_isStep_574 : decode cL_isStep 574 = .ok (.ireturn, 1) := by decide +kernel
theorem dL_isStep_575 : decode cL_isStep 575 = .ok (.iconst 1, 1) := by decide +kernel
theorem dL_isStep_576 : decode cL_isStep 576 = .ok (.iload_n 3, 1) := by decide +kernel
theorem dL_isStep_577 : decode cL_isStep 577 = .ok (.iload 4, 2) := by decide +kernel
theorem dL_isStep_579 : decode cL_isStep 579 = .ok (.iconst 3, 1) := by decide +kernel
theorem dL_isStep_580 : decode cL_isStep 580 = .ok (.invokestatic 35, 3) := by decide +kernel
theorem dL_isStep_583 : decode cL_isStep 583 = .ok (.ifCond .ne 8, 3) := by decide +kernel
