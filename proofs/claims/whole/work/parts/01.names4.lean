theorem dX5_settleTrial_11 : decode cX5_settleTrial 11 = .ok (.aload_n 0, 1) := by decide +kernel
theorem dX5_settleTrial_12 : decode cX5_settleTrial 12 = .ok (.getfield 43, 3) := by decide +kernel
theorem dX5_settleTrial_15 : decode cX5_settleTrial 15 = .ok (.getfield 117, 3) := by decide +kernel
theorem dX5_settleTrial_18 : decode cX5_settleTrial 18 = .ok (.iconst 0, 1) := by decide +kernel
theorem dX5_settleTrial_19 : decode cX5_settleTrial 19 = .ok (.aload_n 0, 1) := by decide +kernel
theorem dX5_settleTrial_20 : decode cX5_settleTrial 20 = .ok (.getfield 37, 3) := by decide +kernel
theorem dX5_settleTrial_23 : decode cX5_settleTrial 23 = .ok (.getfield 111, 3) := by decide +kernel
theorem dX5_settleTrial_26 : decode cX5_settleTrial 26 = .ok (.iconst 0, 1) := by decide +kernel
theorem dX5_settleTrial_27 : decode cX5_settleTrial 27 = .ok (.bipush 18, 2) := by decide +kernel
theorem dX5_settleTrial_29 : decode cX5_settleTrial 29 = .ok (.invokestatic 218, 3) := by decide +kernel
theorem dX5_settleTrial_32 : decode cX5_settleTrial 32 = .ok (.aload_n 0, 1) := by decide +kernel
theorem dX5_settleTrial_33 : decode cX5_settleTrial 33 = .ok (.getfield 50, 3) := by decide +kernel
theorem dX5_settleTrial_36 : decode cX5_settleTrial 36 = .ok (.aload_n 0, 1) := by decide +kernel
theorem dX5_settleTrial_37 : decode cX5_settleTrial 37 = .ok (.getfield 37, 3) := by decide +kernel
theorem dX5_settleTrial_40 : decode cX5_settleTrial 40 = .ok (.invokevirtual 202, 3) := by decide +kernel
theorem dX5_settleTrial_43 : decode cX5_settleTrial 43 = .ok (.return_, 1) := by decide +kernel
theorem dX5_onScreen_0 : decode cX5_onScreen 0 = .ok (.iload_n 0, 1) := by decide +kernel
theorem dX5_onScreen_1 : decode cX5_onScreen 1 = .ok (.ifCond .lt 23, 3) := by decide +kernel
theorem dX5_onScreen_4 : decode cX5_onScreen 4 = .ok (.iload_n 0, 1) := by decide +kernel
theorem dX5_onScreen_5 : decode cX5_onScreen 5 = .ok (.bipush 24, 2) := by decide +kernel
theorem dX5_onScreen_7 : decode cX5_onScreen 7 = .ok (.if_icmp .ge 17, 3) := by decide +kernel
theorem dX5_onScreen_10 : decode cX5_onScreen 10 = .ok (.iload_n 1, 1) := by decide +kernel
theorem dX5_onScreen_11 : decode cX5_onScreen 11 = .ok (.ifCond .lt 13, 3) := by decide +kernel
theorem dX5_onScreen_14 : decode cX5_onScreen 14 = .ok (.iload_n 1, 1) := by decide +kernel
theorem dX5_onScreen_15 : decode cX5_onScreen 15 = .ok (.bipush 12, 2) := by decide +kernel
theorem dX5_onScreen_17 : decode cX5_onScreen 17 = .ok (.if_icmp .ge 7, 3) := by decide +kernel
theorem dX5_onScreen_20 : decode cX5_onScreen 20 = .ok (.iconst 1, 1) := by decide +kernel
theorem dX5_onScreen_21 : decode cX5_onScreen 21 = .ok (.goto 4, 3) := by decide +kernel
theorem dX5_onScreen_24 : decode cX5_onScreen 24 = .ok (.iconst 0, 1) := by decide +kernel
theorem dX5_onScreen_25 : decode cX5_onScreen 25 = .ok (.ireturn, 1) := by decide +kernel
theorem dX5_isZone_0 : decode cX5_isZone 0 = .ok (.iload_n 0, 1) := by decide +kernel
theorem dX5_isZone_1 : decode cX5_isZone 1 = .ok (.ifCond .lt 13, 3) := by decide +kernel
theorem dX5_isZone_4 : decode cX5_isZone 4 = .ok (.iload_n 0, 1) := by decide +kernel
theorem dX5_isZone_5 : decode cX5_isZone 5 = .ok (.bipush 18, 2) := by decide +kernel
theorem dX5_isZone_7 : decode cX5_isZone 7 = .ok (.if_icmp .ge 7, 3) := by decide +kernel
theorem dX5_isZone_10 : decode cX5_isZone 10 = .ok (.iconst 1, 1) := by decide +kernel
theorem dX5_isZone_11 : decode cX5_isZone 11 = .ok (.goto 4, 3) := by decide +kernel
theorem dX5_isZone_14 : decode cX5_isZone 14 = .ok (.iconst 0, 1) := by decide +kernel
theorem dX5_isZone_15 : decode cX5_isZone 15 = .ok (.ireturn, 1) := by decide +kernel
theorem dX5_spotAt_0 : decode cX5_spotAt 0 = .ok (.iload_n 1, 1) := by decide +kernel
theorem dX5_spotAt_1 : decode cX5_spotAt 1 = .ok (.bipush 24, 2) := by decide +kernel
theorem dX5_spotAt_3 : decode cX5_spotAt 3 = .ok (.imul, 1) := by decide +kernel
theorem dX5_spotAt_4 : decode cX5_spotAt 4 = .ok (.iload_n 0, 1) := by decide +kernel
theorem dX5_spotAt_5 : decode cX5_spotAt 5 = .ok (.iadd, 1) := by decide +kernel
theorem dX5_spotAt_6 : decode cX5_spotAt 6 = .ok (.ireturn, 1) := by decide +kernel
set_option maxRecDepth 20000 in
theorem ggX5_spotOfZone_X5_spotAt : GoodIn wsX5_spotOfZone wsX5_spotAt := goodIn_r _ [4] (by decide +kernel) (by decide +kernel)
set_option maxRecDepth 20000 in
theorem gX5_spotOfZone_X5_spotAt : GoodIn wsX5_spotOfZone (va_wsS RX5 62 yX5_spotAt wsX5_spotAt) := goodIn_app (goodIn_of _ (by decide +kernel)) ggX5_spotOfZone_X5_spotAt
theorem dX5_spotOfZone_0 : decode cX5_spotOfZone 0 = .ok (.iload_n 0, 1) := by decide +kernel
theorem dX5_spotOfZone_1 : decode cX5_spotOfZone 1 = .ok (.bipush 6, 2) := by decide +kernel
theorem dX5_spotOfZone_3 : decode cX5_spotOfZone 3 = .ok (.irem, 1) := by decide +kernel
theorem dX5_spotOfZone_4 : decode cX5_spotOfZone 4 = .ok (.iconst 4, 1) := by decide +kernel
theorem dX5_spotOfZone_5 : decode cX5_spotOfZone 5 = .ok (.imul, 1) := by decide +kernel
theorem dX5_spotOfZone_6 : decode cX5_spotOfZone 6 = .ok (.iload_n 1, 1) := by decide +kernel
theorem dX5_spotOfZone_7 : decode cX5_spotOfZone 7 = .ok (.iconst 4, 1) := by decide +kernel
theorem dX5_spotOfZone_8 : decode cX5_spotOfZone 8 = .ok (.irem, 1) := by decide +kernel
theorem dX5_spotOfZone_9 : decode cX5_spotOfZone 9 = .ok (.iadd, 1) := by decide +kernel
theorem dX5_spotOfZone_10 : decode cX5_spotOfZone 10 = .ok (.istore_n 2, 1) := by decide +kernel
theorem dX5_spotOfZone_11 : decode cX5_spotOfZone 11 = .ok (.iload_n 0, 1) := by decide +kernel
theorem dX5_spotOfZone_12 : decode cX5_spotOfZone 12 = .ok (.bipush 6, 2) := by decide +kernel
theorem dX5_spotOfZone_14 : decode cX5_spotOfZone 14 = .ok (.idiv, 1) := by decide +kernel
theorem dX5_spotOfZone_15 : decode cX5_spotOfZone 15 = .ok (.iconst 4, 1) := by decide +kernel
theorem dX5_spotOfZone_16 : decode cX5_spotOfZone 16 = .ok (.imul, 1) := by decide +kernel
theorem dX5_spotOfZone_17 : decode cX5_spotOfZone 17 = .ok (.iload_n 1, 1) := by decide +kernel
theorem dX5_spotOfZone_18 : decode cX5_spotOfZone 18 = .ok (.iconst 4, 1) := by decide +kernel
theorem dX5_spotOfZone_19 : decode cX5_spotOfZone 19 = .ok (.idiv, 1) := by decide +kernel
theorem dX5_spotOfZone_20 : decode cX5_spotOfZone 20 = .ok (.iadd, 1) := by decide +kernel
theorem dX5_spotOfZone_21 : decode cX5_spotOfZone 21 = .ok (.istore_n 3, 1) := by decide +kernel
theorem dX5_spotOfZone_22 : decode cX5_spotOfZone 22 = .ok (.iload_n 2, 1) := by decide +kernel
theorem dX5_spotOfZone_23 : decode cX5_spotOfZone 23 = .ok (.iload_n 3, 1) := by decide +kernel
theorem dX5_spotOfZone_24 : decode cX5_spotOfZone 24 = .ok (.invokestatic 62, 3) := by decide +kernel
theorem dX5_spotOfZone_27 : decode cX5_spotOfZone 27 = .ok (.ireturn, 1) := by decide +kernel
theorem dX5_zonesApart_0 : decode cX5_zonesApart 0 = .ok (.iload_n 0, 1) := by decide +kernel
theorem dX5_zonesApart_1 : decode cX5_zonesApart 1 = .ok (.bipush 6, 2) := by decide +kernel
theorem dX5_zonesApart_3 : decode cX5_zonesApart 3 = .ok (.irem, 1) := by decide +kernel
theorem dX5_zonesApart_4 : decode cX5_zonesApart 4 = .ok (.iload_n 1, 1) := by decide +kernel
theorem dX5_zonesApart_5 : decode cX5_zonesApart 5 = .ok (.bipush 6, 2) := by decide +kernel
theorem dX5_zonesApart_7 : decode cX5_zonesApart 7 = .ok (.irem, 1) := by decide +kernel
theorem dX5_zonesApart_8 : decode cX5_zonesApart 8 = .ok (.isub, 1) := by decide +kernel
theorem dX5_zonesApart_9 : decode cX5_zonesApart 9 = .ok (.invokestatic 227, 3) := by decide +kernel
theorem dX5_zonesApart_12 : decode cX5_zonesApart 12 = .ok (.istore_n 2, 1) := by decide +kernel
theorem dX5_zonesApart_13 : decode cX5_zonesApart 13 = .ok (.iload_n 0, 1) := by decide +kernel
theorem dX5_zonesApart_14 : decode cX5_zonesApart 14 = .ok (.bipush 6, 2) := by decide +kernel
theorem dX5_zonesApart_16 : decode cX5_zonesApart 16 = .ok (.idiv, 1) := by decide +kernel
theorem dX5_zonesApart_17 : decode cX5_zonesApart 17 = .ok (.iload_n 1, 1) := by decide +kernel
theorem dX5_zonesApart_18 : decode cX5_zonesApart 18 = .ok (.bipush 6, 2) := by decide +kernel
theorem dX5_zonesApart_20 : decode cX5_zonesApart 20 = .ok (.idiv, 1) := by decide +kernel
theorem dX5_zonesApart_21 : decode cX5_zonesApart 21 = .ok (.isub, 1) := by decide +kernel
theorem dX5_zonesApart_22 : decode cX5_zonesApart 22 = .ok (.invokestatic 227, 3) := by decide +kernel
theorem dX5_zonesApart_25 : decode cX5_zonesApart 25 = .ok (.istore_n 3, 1) := by decide +kernel
theorem dX5_zonesApart_26 : decode cX5_zonesApart 26 = .ok (.iload_n 2, 1) := by decide +kernel
theorem dX5_zonesApart_27 : decode cX5_zonesApart 27 = .ok (.iload_n 3, 1) := by decide +kernel
theorem dX5_zonesApart_28 : decode cX5_zonesApart 28 = .ok (.invokestatic 232, 3) := by decide +kernel
theorem dX5_zonesApart_31 : decode cX5_zonesApart 31 = .ok (.ireturn, 1) := by decide +kernel
theorem dX5_roundedUp_0 : decode cX5_roundedUp 0 = .ok (.iload_n 1, 1) := by decide +kernel
theorem dX5_roundedUp_1 : decode cX5_roundedUp 1 = .ok (.ifCond .le 13, 3) := by decide +kernel
theorem dX5_roundedUp_4 : decode cX5_roundedUp 4 = .ok (.iload_n 0, 1) := by decide +kernel
theorem dX5_roundedUp_5 : decode cX5_roundedUp 5 = .ok (.iload_n 1, 1) := by decide +kernel
theorem dX5_roundedUp_6 : decode cX5_roundedUp 6 = .ok (.iadd, 1) := by decide +kernel
theorem dX5_roundedUp_7 : decode cX5_roundedUp 7 = .ok (.iconst 1, 1) := by decide +kernel
theorem dX5_roundedUp_8 : decode cX5_roundedUp 8 = .ok (.isub, 1) := by decide +kernel
theorem dX5_roundedUp_9 : decode cX5_roundedUp 9 = .ok (.iload_n 1, 1) := by decide +kernel
theorem dX5_roundedUp_10 : decode cX5_roundedUp 10 = .ok (.idiv, 1) := by decide +kernel
theorem dX5_roundedUp_11 : decode cX5_roundedUp 11 = .ok (.goto 4, 3) := by decide +kernel
theorem dX5_roundedUp_14 : decode cX5_roundedUp 14 = .ok (.iconst 0, 1) := by decide +kernel
theorem dX5_roundedUp_15 : decode cX5_roundedUp 15 = .ok (.ireturn, 1) := by decide +kernel
theorem dX5_lightOf_0 : decode cX5_lightOf 0 = .ok (.sipush 255, 3) := by decide +kernel
theorem dX5_lightOf_3 : decode cX5_lightOf 3 = .ok (.iload_n 0, 1) := by decide +kernel
theorem dX5_lightOf_4 : decode cX5_lightOf 4 = .ok (.sipush 256, 3) := by decide +kernel
theorem dX5_lightOf_7 : decode cX5_lightOf 7 = .ok (.idiv, 1) := by decide +kernel
theorem dX5_lightOf_8 : decode cX5_lightOf 8 = .ok (.invokestatic 235, 3) := by decide +kernel
theorem dX5_lightOf_11 : decode cX5_lightOf 11 = .ok (.ireturn, 1) := by decide +kernel
set_option maxRecDepth 20000 in
theorem ggX5_glassFor_X5_roundedUp : GoodIn wsX5_glassFor wsX5_roundedUp := goodIn_r _ [8] (by decide +kernel) (by decide +kernel)
set_option maxRecDepth 20000 in
theorem gX5_glassFor_X5_roundedUp : GoodIn wsX5_glassFor (va_wsS RX5 209 yX5_roundedUp wsX5_roundedUp) := goodIn_app (goodIn_of _ (by decide +kernel)) ggX5_glassFor_X5_roundedUp
theorem dX5_glassFor_0 : decode cX5_glassFor 0 = .ok (.sipush 255, 3) := by decide +kernel
theorem dX5_glassFor_3 : decode cX5_glassFor 3 = .ok (.iload_n 0, 1) := by decide +kernel
theorem dX5_glassFor_4 : decode cX5_glassFor 4 = .ok (.sipush 255, 3) := by decide +kernel
theorem dX5_glassFor_7 : decode cX5_glassFor 7 = .ok (.imul, 1) := by decide +kernel
theorem dX5_glassFor_8 : decode cX5_glassFor 8 = .ok (.iload_n 1, 1) := by decide +kernel
theorem dX5_glassFor_9 : decode cX5_glassFor 9 = .ok (.invokestatic 209, 3) := by decide +kernel
theorem dX5_glassFor_12 : decode cX5_glassFor 12 = .ok (.invokestatic 235, 3) := by decide +kernel
theorem dX5_glassFor_15 : decode cX5_glassFor 15 = .ok (.ireturn, 1) := by decide +kernel
theorem dX5_verdict_0 : decode cX5_verdict 0 = .ok (.iload_n 1, 1) := by decide +kernel
theorem dX5_verdict_1 : decode cX5_verdict 1 = .ok (.iload_n 0, 1) := by decide +kernel
theorem dX5_verdict_2 : decode cX5_verdict 2 = .ok (.if_icmp .ne 5, 3) := by decide +kernel
theorem dX5_verdict_5 : decode cX5_verdict 5 = .ok (.iconst 0, 1) := by decide +kernel
theorem dX5_verdict_6 : decode cX5_verdict 6 = .ok (.ireturn, 1) := by decide +kernel
theorem dX5_verdict_7 : decode cX5_verdict 7 = .ok (.iload_n 1, 1) := by decide +kernel
theorem dX5_verdict_8 : decode cX5_verdict 8 = .ok (.iload_n 0, 1) := by decide +kernel
theorem dX5_verdict_9 : decode cX5_verdict 9 = .ok (.if_icmp .ge 7, 3) := by decide +kernel
theorem dX5_verdict_12 : decode cX5_verdict 12 = .ok (.iconst 1, 1) := by decide +kernel
theorem dX5_verdict_13 : decode cX5_verdict 13 = .ok (.goto 4, 3) := by decide +kernel
theorem dX5_verdict_16 : decode cX5_verdict 16 = .ok (.iconst 2, 1) := by decide +kernel
theorem dX5_verdict_17 : decode cX5_verdict 17 = .ok (.ireturn, 1) := by decide +kernel
theorem dX6_init_0 : decode cX6_init 0 = .ok (.aload_n 0, 1) := by decide +kernel
theorem dX6_init_1 : decode cX6_init 1 = .ok (.invokespecial 1, 3) := by decide +kernel
theorem dX6_init_4 : decode cX6_init 4 = .ok (.aload_n 0, 1) := by decide +kernel
theorem dX6_init_5 : decode cX6_init 5 = .ok (.sipush 335, 3) := by decide +kernel
theorem dX6_init_8 : decode cX6_init 8 = .ok (.newarray .int, 2) := by decide +kernel
theorem dX6_init_10 : decode cX6_init 10 = .ok (.putfield 7, 3) := by decide +kernel
theorem dX6_init_13 : decode cX6_init 13 = .ok (.aload_n 0, 1) := by decide +kernel
theorem dX6_init_14 : decode cX6_init 14 = .ok (.sipush 1340, 3) := by decide +kernel
theorem dX6_init_17 : decode cX6_init 17 = .ok (.newarray .int, 2) := by decide +kernel
theorem dX6_init_19 : decode cX6_init 19 = .ok (.putfield 13, 3) := by decide +kernel
theorem dX6_init_22 : decode cX6_init 22 = .ok (.aload_n 0, 1) := by decide +kernel
theorem dX6_init_23 : decode cX6_init 23 = .ok (.sipush 335, 3) := by decide +kernel
theorem dX6_init_26 : decode cX6_init 26 = .ok (.newarray .int, 2) := by decide +kernel
theorem dX6_init_28 : decode cX6_init 28 = .ok (.putfield 16, 3) := by decide +kernel
theorem dX6_init_31 : decode cX6_init 31 = .ok (.aload_n 0, 1) := by decide +kernel
theorem dX6_init_32 : decode cX6_init 32 = .ok (.bipush 18, 2) := by decide +kernel
theorem dX6_init_34 : decode cX6_init 34 = .ok (.newarray .int, 2) := by decide +kernel
theorem dX6_init_36 : decode cX6_init 36 = .ok (.putfield 19, 3) := by decide +kernel
theorem dX6_init_39 : decode cX6_init 39 = .ok (.aload_n 0, 1) := by decide +kernel
theorem dX6_init_40 : decode cX6_init 40 = .ok (.bipush 60, 2) := by decide +kernel
theorem dX6_init_42 : decode cX6_init 42 = .ok (.newarray .int, 2) := by decide +kernel
theorem dX6_init_44 : decode cX6_init 44 = .ok (.putfield 22, 3) := by decide +kernel
theorem dX6_init_47 : decode cX6_init 47 = .ok (.aload_n 0, 1) := by decide +kernel
theorem dX6_init_48 : decode cX6_init 48 = .ok (.iconst 5, 1) := by decide +kernel
theorem dX6_init_49 : decode cX6_init 49 = .ok (.newarray .int, 2) := by decide +kernel
theorem dX6_init_51 : decode cX6_init 51 = .ok (.putfield 25, 3) := by decide +kernel
theorem dX6_init_54 : decode cX6_init 54 = .ok (.aload_n 0, 1) := by decide +kernel
theorem dX6_init_55 : decode cX6_init 55 = .ok (.getfield 7, 3) := by decide +kernel
theorem dX6_init_58 : decode cX6_init 58 = .ok (.sipush 324, 3) := by decide +kernel
theorem dX6_init_61 : decode cX6_init 61 = .ok (.sipush 180, 3) := by decide +kernel
theorem dX6_init_64 : decode cX6_init 64 = .ok (.iastore, 1) := by decide +kernel
theorem dX6_init_65 : decode cX6_init 65 = .ok (.aload_n 0, 1) := by decide +kernel
theorem dX6_init_66 : decode cX6_init 66 = .ok (.getfield 7, 3) := by decide +kernel
theorem dX6_init_69 : decode cX6_init 69 = .ok (.sipush 325, 3) := by decide +kernel
theorem dX6_init_72 : decode cX6_init 72 = .ok (.bipush 9, 2) := by decide +kernel
theorem dX6_init_74 : decode cX6_init 74 = .ok (.iastore, 1) := by decide +kernel
theorem dX6_init_75 : decode cX6_init 75 = .ok (.aload_n 0, 1) := by decide +kernel
theorem dX6_init_76 : decode cX6_init 76 = .ok (.getfield 7, 3) := by decide +kernel
theorem dX6_init_79 : decode cX6_init 79 = .ok (.sipush 326, 3) := by decide +kernel
theorem dX6_init_82 : decode cX6_init 82 = .ok (.iconst 1, 1) := by decide +kernel
theorem dX6_init_83 : decode cX6_init 83 = .ok (.iastore, 1) := by decide +kernel
theorem dX6_init_84 : decode cX6_init 84 = .ok (.aload_n 0, 1) := by decide +kernel
theorem dX6_init_85 : decode cX6_init 85 = .ok (.getfield 7, 3) := by decide +kernel
theorem dX6_init_88 : decode cX6_init 88 = .ok (.sipush 328, 3) := by decide +kernel
theorem dX6_init_91 : decode cX6_init 91 = .ok (.iconst 3, 1) := by decide +kernel
theorem dX6_init_92 : decode cX6_init 92 = .ok (.iastore, 1) := by decide +kernel
theorem dX6_init_93 : decode cX6_init 93 = .ok (.aload_n 0, 1) := by decide +kernel
theorem dX6_init_94 : decode cX6_init 94 = .ok (.getfield 7, 3) := by decide +kernel
theorem dX6_init_97 : decode cX6_init 97 = .ok (.sipush 329, 3) := by decide +kernel
theorem dX6_init_100 : decode cX6_init 100 = .ok (.iconst 4, 1) := by decide +kernel
theorem dX6_init_101 : decode cX6_init 101 = .ok (.iastore, 1) := by decide +kernel
theorem dX6_init_102 : decode cX6_init 102 = .ok (.aload_n 0, 1) := by decide +kernel
theorem dX6_init_103 : decode cX6_init 103 = .ok (.getfield 7, 3) := by decide +kernel
theorem dX6_init_106 : decode cX6_init 106 = .ok (.sipush 330, 3) := by decide +kernel
theorem dX6_init_109 : decode cX6_init 109 = .ok (.iconst 2, 1) := by decide +kernel
theorem dX6_init_110 : decode cX6_init 110 = .ok (.iastore, 1) := by decide +kernel
theorem dX6_init_111 : decode cX6_init 111 = .ok (.aload_n 0, 1) := by decide +kernel
theorem dX6_init_112 : decode cX6_init 112 = .ok (.getfield 7, 3) := by decide +kernel
theorem dX6_init_115 : decode cX6_init 115 = .ok (.sipush 331, 3) := by decide +kernel
theorem dX6_init_118 : decode cX6_init 118 = .ok (.sipush 255, 3) := by decide +kernel
theorem dX6_init_121 : decode cX6_init 121 = .ok (.iastore, 1) := by decide +kernel
theorem dX6_init_122 : decode cX6_init 122 = .ok (.return_, 1) := by decide +kernel
theorem dX6_in_0 : decode cX6_in 0 = .ok (.lload_n 0, 1) := by decide +kernel
theorem dX6_in_1 : decode cX6_in 1 = .ok (.lload_n 2, 1) := by decide +kernel
theorem dX6_in_2 : decode cX6_in 2 = .ok (.lcmp, 1) := by decide +kernel
theorem dX6_in_3 : decode cX6_in 3 = .ok (.ifCond .lt 14, 3) := by decide +kernel
theorem dX6_in_6 : decode cX6_in 6 = .ok (.lload_n 0, 1) := by decide +kernel
theorem dX6_in_7 : decode cX6_in 7 = .ok (.lload 4, 2) := by decide +kernel
theorem dX6_in_9 : decode cX6_in 9 = .ok (.lcmp, 1) := by decide +kernel
theorem dX6_in_10 : decode cX6_in 10 = .ok (.ifCond .gt 7, 3) := by decide +kernel
theorem dX6_in_13 : decode cX6_in 13 = .ok (.iconst 1, 1) := by decide +kernel
theorem dX6_in_14 : decode cX6_in 14 = .ok (.goto 4, 3) := by decide +kernel
theorem dX6_in_17 : decode cX6_in 17 = .ok (.iconst 0, 1) := by decide +kernel
theorem dX6_in_18 : decode cX6_in 18 = .ok (.ireturn, 1) := by decide +kernel
theorem dX6_lesser_0 : decode cX6_lesser 0 = .ok (.iload_n 0, 1) := by decide +kernel
theorem dX6_lesser_1 : decode cX6_lesser 1 = .ok (.iload_n 1, 1) := by decide +kernel
theorem dX6_lesser_2 : decode cX6_lesser 2 = .ok (.if_icmp .ge 7, 3) := by decide +kernel
theorem dX6_lesser_5 : decode cX6_lesser 5 = .ok (.iload_n 0, 1) := by decide +kernel
theorem dX6_lesser_6 : decode cX6_lesser 6 = .ok (.goto 4, 3) := by decide +kernel
theorem dX6_lesser_9 : decode cX6_lesser 9 = .ok (.iload_n 1, 1) := by decide +kernel
theorem dX6_lesser_10 : decode cX6_lesser 10 = .ok (.ireturn, 1) := by decide +kernel
theorem dX6_off_0 : decode cX6_off 0 = .ok (.iload_n 0, 1) := by decide +kernel
theorem dX6_off_1 : decode cX6_off 1 = .ok (.ifCond .ge 8, 3) := by decide +kernel
theorem dX6_off_4 : decode cX6_off 4 = .ok (.iload_n 0, 1) := by decide +kernel
theorem dX6_off_5 : decode cX6_off 5 = .ok (.ineg, 1) := by decide +kernel
theorem dX6_off_6 : decode cX6_off 6 = .ok (.goto 4, 3) := by decide +kernel
theorem dX6_off_9 : decode cX6_off 9 = .ok (.iload_n 0, 1) := by decide +kernel
theorem dX6_off_10 : decode cX6_off 10 = .ok (.ireturn, 1) := by decide +kernel
theorem dX6_acts_0 : decode cX6_acts 0 = .ok (.aload_n 0, 1) := by decide +kernel
theorem dX6_acts_1 : decode cX6_acts 1 = .ok (.getfield 28, 3) := by decide +kernel
theorem dX6_acts_4 : decode cX6_acts 4 = .ok (.iconst 4, 1) := by decide +kernel
theorem dX6_acts_5 : decode cX6_acts 5 = .ok (.if_icmp .ne 44, 3) := by decide +kernel
theorem dX6_acts_8 : decode cX6_acts 8 = .ok (.iconst 0, 1) := by decide +kernel
theorem dX6_acts_9 : decode cX6_acts 9 = .ok (.istore_n 1, 1) := by decide +kernel
theorem dX6_acts_10 : decode cX6_acts 10 = .ok (.iload_n 1, 1) := by decide +kernel
theorem dX6_acts_11 : decode cX6_acts 11 = .ok (.sipush 1005, 3) := by decide +kernel
theorem dX6_acts_14 : decode cX6_acts 14 = .ok (.if_icmp .ge 25, 3) := by decide +kernel
theorem dX6_acts_17 : decode cX6_acts 17 = .ok (.aload_n 0, 1) := by decide +kernel
theorem dX6_acts_18 : decode cX6_acts 18 = .ok (.getfield 13, 3) := by decide +kernel
theorem dX6_acts_21 : decode cX6_acts 21 = .ok (.iload_n 1, 1) := by decide +kernel
theorem dX6_acts_22 : decode cX6_acts 22 = .ok (.aload_n 0, 1) := by decide +kernel
theorem dX6_acts_23 : decode cX6_acts 23 = .ok (.getfield 13, 3) := by decide +kernel
theorem dX6_acts_26 : decode cX6_acts 26 = .ok (.iload_n 1, 1) := by decide +kernel
theorem dX6_acts_27 : decode cX6_acts 27 = .ok (.sipush 335, 3) := by decide +kernel
theorem dX6_acts_30 : decode cX6_acts 30 = .ok (.iadd, 1) := by decide +kernel
theorem dX6_acts_31 : decode cX6_acts 31 = .ok (.iaload, 1) := by decide +kernel
theorem dX6_acts_32 : decode cX6_acts 32 = .ok (.iastore, 1) := by decide +kernel
theorem dX6_acts_33 : decode cX6_acts 33 = .ok (.iinc 1 1, 3) := by decide +kernel
theorem dX6_acts_36 : decode cX6_acts 36 = .ok (.goto (-26), 3) := by decide +kernel
theorem dX6_acts_39 : decode cX6_acts 39 = .ok (.aload_n 0, 1) := by decide +kernel
theorem dX6_acts_40 : decode cX6_acts 40 = .ok (.dup, 1) := by decide +kernel
theorem dX6_acts_41 : decode cX6_acts 41 = .ok (.getfield 28, 3) := by decide +kernel
theorem dX6_acts_44 : decode cX6_acts 44 = .ok (.iconst 1, 1) := by decide +kernel
theorem dX6_acts_45 : decode cX6_acts 45 = .ok (.isub, 1) := by decide +kernel
theorem dX6_acts_46 : decode cX6_acts 46 = .ok (.putfield 28, 3) := by decide +kernel
theorem dX6_acts_49 : decode cX6_acts 49 = .ok (.iconst 0, 1) := by decide +kernel
theorem dX6_acts_50 : decode cX6_acts 50 = .ok (.istore_n 1, 1) := by decide +kernel
theorem dX6_acts_51 : decode cX6_acts 51 = .ok (.iload_n 1, 1) := by decide +kernel
theorem dX6_acts_52 : decode cX6_acts 52 = .ok (.sipush 335, 3) := by decide +kernel
theorem dX6_acts_55 : decode cX6_acts 55 = .ok (.if_icmp .ge 30, 3) := by decide +kernel
theorem dX6_acts_58 : decode cX6_acts 58 = .ok (.aload_n 0, 1) := by decide +kernel
theorem dX6_acts_59 : decode cX6_acts 59 = .ok (.getfield 13, 3) := by decide +kernel
theorem dX6_acts_62 : decode cX6_acts 62 = .ok (.sipush 335, 3) := by decide +kernel
theorem dX6_acts_65 : decode cX6_acts 65 = .ok (.aload_n 0, 1) := by decide +kernel
theorem dX6_acts_66 : decode cX6_acts 66 = .ok (.getfield 28, 3) := by decide +kernel
theorem dX6_acts_69 : decode cX6_acts 69 = .ok (.imul, 1) := by decide +kernel
theorem dX6_acts_70 : decode cX6_acts 70 = .ok (.iload_n 1, 1) := by decide +kernel
theorem dX6_acts_71 : decode cX6_acts 71 = .ok (.iadd, 1) := by decide +kernel
theorem dX6_acts_72 : decode cX6_acts 72 = .ok (.aload_n 0, 1) := by decide +kernel
theorem dX6_acts_73 : decode cX6_acts 73 = .ok (.getfield 7, 3) := by decide +kernel
theorem dX6_acts_76 : decode cX6_acts 76 = .ok (.iload_n 1, 1) := by decide +kernel
theorem dX6_acts_77 : decode cX6_acts 77 = .ok (.iaload, 1) := by decide +kernel
theorem dX6_acts_78 : decode cX6_acts 78 = .ok (.iastore, 1) := by decide +kernel
theorem dX6_acts_79 : decode cX6_acts 79 = .ok (.iinc 1 1, 3) := by decide +kernel
theorem dX6_acts_82 : decode cX6_acts 82 = .ok (.goto (-31), 3) := by decide +kernel
theorem dX6_acts_85 : decode cX6_acts 85 = .ok (.aload_n 0, 1) := by decide +kernel
theorem dX6_acts_86 : decode cX6_acts 86 = .ok (.dup, 1) := by decide +kernel
theorem dX6_acts_87 : decode cX6_acts 87 = .ok (.getfield 28, 3) := by decide +kernel
theorem dX6_acts_90 : decode cX6_acts 90 = .ok (.iconst 1, 1) := by decide +kernel
theorem dX6_acts_91 : decode cX6_acts 91 = .ok (.iadd, 1) := by decide +kernel
theorem dX6_acts_92 : decode cX6_acts 92 = .ok (.putfield 28, 3) := by decide +kernel
theorem dX6_acts_95 : decode cX6_acts 95 = .ok (.return_, 1) := by decide +kernel
set_option maxRecDepth 20000 in
theorem ggX6_isSpot_X6_in : GoodIn wsX6_isSpot wsX6_in := goodIn_r _ [6] (by decide +kernel) (by decide +kernel)
set_option maxRecDepth 20000 in
theorem gX6_isSpot_X6_in : GoodIn wsX6_isSpot (va_wsS RX6 34 yX6_in wsX6_in) := goodIn_app (goodIn_of _ (by decide +kernel)) ggX6_isSpot_X6_in
theorem dX6_isSpot_0 : decode cX6_isSpot 0 = .ok (.iload_n 0, 1) := by decide +kernel
theorem dX6_isSpot_1 : decode cX6_isSpot 1 = .ok (.i2l, 1) := by decide +kernel
theorem dX6_isSpot_2 : decode cX6_isSpot 2 = .ok (.lconst 0, 1) := by decide +kernel
theorem dX6_isSpot_3 : decode cX6_isSpot 3 = .ok (.ldc2_w 32, 3) := by decide +kernel
theorem dX6_isSpot_6 : decode cX6_isSpot 6 = .ok (.invokestatic 34, 3) := by decide +kernel
theorem dX6_isSpot_9 : decode cX6_isSpot 9 = .ok (.ifCond .eq 19, 3) := by decide +kernel
theorem dX6_isSpot_12 : decode cX6_isSpot 12 = .ok (.iload_n 1, 1) := by decide +kernel
theorem dX6_isSpot_13 : decode cX6_isSpot 13 = .ok (.i2l, 1) := by decide +kernel
theorem dX6_isSpot_14 : decode cX6_isSpot 14 = .ok (.lconst 0, 1) := by decide +kernel
theorem dX6_isSpot_15 : decode cX6_isSpot 15 = .ok (.ldc2_w 38, 3) := by decide +kernel
theorem dX6_isSpot_18 : decode cX6_isSpot 18 = .ok (.invokestatic 34, 3) := by decide +kernel
theorem dX6_isSpot_21 : decode cX6_isSpot 21 = .ok (.ifCond .eq 7, 3) := by decide +kernel
theorem dX6_isSpot_24 : decode cX6_isSpot 24 = .ok (.iconst 1, 1) := by decide +kernel
theorem dX6_isSpot_25 : decode cX6_isSpot 25 = .ok (.goto 4, 3) := by decide +kernel
theorem dX6_isSpot_28 : decode cX6_isSpot 28 = .ok (.iconst 0, 1) := by decide +kernel
theorem dX6_isSpot_29 : decode cX6_isSpot 29 = .ok (.ireturn, 1) := by decide +kernel
set_option maxRecDepth 20000 in
theorem ggX6_isZone_X6_in : GoodIn wsX6_isZone wsX6_in := goodIn_r _ [5] (by decide +kernel) (by decide +kernel)
set_option maxRecDepth 20000 in
theorem gX6_isZone_X6_in : GoodIn wsX6_isZone (va_wsS RX6 34 yX6_in wsX6_in) := goodIn_app (goodIn_of _ (by decide +kernel)) ggX6_isZone_X6_in
theorem dX6_isZone_0 : decode cX6_isZone 0 = .ok (.iload_n 0, 1) := by decide +kernel
theorem dX6_isZone_1 : decode cX6_isZone 1 = .ok (.i2l, 1) := by decide +kernel
theorem dX6_isZone_2 : decode cX6_isZone 2 = .ok (.lconst 0, 1) := by decide +kernel
theorem dX6_isZone_3 : decode cX6_isZone 3 = .ok (.ldc2_w 40, 3) := by decide +kernel
theorem dX6_isZone_6 : decode cX6_isZone 6 = .ok (.invokestatic 34, 3) := by decide +kernel
theorem dX6_isZone_9 : decode cX6_isZone 9 = .ok (.ireturn, 1) := by decide +kernel
theorem dX6_spotIn_0 : decode cX6_spotIn 0 = .ok (.bipush 24, 2) := by decide +kernel
theorem dX6_spotIn_2 : decode cX6_spotIn 2 = .ok (.iload_n 0, 1) := by decide +kernel
theorem dX6_spotIn_3 : decode cX6_spotIn 3 = .ok (.bipush 6, 2) := by decide +kernel
theorem dX6_spotIn_5 : decode cX6_spotIn 5 = .ok (.idiv, 1) := by decide +kernel
theorem dX6_spotIn_6 : decode cX6_spotIn 6 = .ok (.iconst 4, 1) := by decide +kernel
theorem dX6_spotIn_7 : decode cX6_spotIn 7 = .ok (.imul, 1) := by decide +kernel
theorem dX6_spotIn_8 : decode cX6_spotIn 8 = .ok (.iload_n 1, 1) := by decide +kernel
theorem dX6_spotIn_9 : decode cX6_spotIn 9 = .ok (.iconst 4, 1) := by decide +kernel
theorem dX6_spotIn_10 : decode cX6_spotIn 10 = .ok (.idiv, 1) := by decide +kernel
theorem dX6_spotIn_11 : decode cX6_spotIn 11 = .ok (.iadd, 1) := by decide +kernel
theorem dX6_spotIn_12 : decode cX6_spotIn 12 = .ok (.imul, 1) := by decide +kernel
theorem dX6_spotIn_13 : decode cX6_spotIn 13 = .ok (.iload_n 0, 1) := by decide +kernel
theorem dX6_spotIn_14 : decode cX6_spotIn 14 = .ok (.bipush 6, 2) := by decide +kernel
theorem dX6_spotIn_16 : decode cX6_spotIn 16 = .ok (.irem, 1) := by decide +kernel
theorem dX6_spotIn_17 : decode cX6_spotIn 17 = .ok (.iconst 4, 1) := by decide +kernel
theorem dX6_spotIn_18 : decode cX6_spotIn 18 = .ok (.imul, 1) := by decide +kernel
theorem dX6_spotIn_19 : decode cX6_spotIn 19 = .ok (.iadd, 1) := by decide +kernel
theorem dX6_spotIn_20 : decode cX6_spotIn 20 = .ok (.iload_n 1, 1) := by decide +kernel
theorem dX6_spotIn_21 : decode cX6_spotIn 21 = .ok (.iconst 4, 1) := by decide +kernel
theorem dX6_spotIn_22 : decode cX6_spotIn 22 = .ok (.irem, 1) := by decide +kernel
theorem dX6_spotIn_23 : decode cX6_spotIn 23 = .ok (.iadd, 1) := by decide +kernel
theorem dX6_spotIn_24 : decode cX6_spotIn 24 = .ok (.ireturn, 1) := by decide +kernel
theorem dX6_zoneOf_0 : decode cX6_zoneOf 0 = .ok (.iload_n 0, 1) := by decide +kernel
theorem dX6_zoneOf_1 : decode cX6_zoneOf 1 = .ok (.bipush 24, 2) := by decide +kernel
theorem dX6_zoneOf_3 : decode cX6_zoneOf 3 = .ok (.idiv, 1) := by decide +kernel
theorem dX6_zoneOf_4 : decode cX6_zoneOf 4 = .ok (.iconst 4, 1) := by decide +kernel
theorem dX6_zoneOf_5 : decode cX6_zoneOf 5 = .ok (.idiv, 1) := by decide +kernel
theorem dX6_zoneOf_6 : decode cX6_zoneOf 6 = .ok (.bipush 6, 2) := by decide +kernel
theorem dX6_zoneOf_8 : decode cX6_zoneOf 8 = .ok (.imul, 1) := by decide +kernel
theorem dX6_zoneOf_9 : decode cX6_zoneOf 9 = .ok (.iload_n 0, 1) := by decide +kernel
theorem dX6_zoneOf_10 : decode cX6_zoneOf 10 = .ok (.bipush 24, 2) := by decide +kernel
theorem dX6_zoneOf_12 : decode cX6_zoneOf 12 = .ok (.irem, 1) := by decide +kernel
theorem dX6_zoneOf_13 : decode cX6_zoneOf 13 = .ok (.iconst 4, 1) := by decide +kernel
theorem dX6_zoneOf_14 : decode cX6_zoneOf 14 = .ok (.idiv, 1) := by decide +kernel
theorem dX6_zoneOf_15 : decode cX6_zoneOf 15 = .ok (.iadd, 1) := by decide +kernel
theorem dX6_zoneOf_16 : decode cX6_zoneOf 16 = .ok (.ireturn, 1) := by decide +kernel
set_option maxRecDepth 20000 in
theorem ggX6_apart_X6_off : GoodIn wsX6_apart wsX6_off := goodIn_r _ [4] (by decide +kernel) (by decide +kernel)
set_option maxRecDepth 20000 in
theorem gX6_apart_X6_off : GoodIn wsX6_apart (va_wsS RX6 42 yX6_off wsX6_off) := goodIn_app (goodIn_of _ (by decide +kernel)) ggX6_apart_X6_off
theorem dX6_apart_0 : decode cX6_apart 0 = .ok (.iload_n 0, 1) := by decide +kernel
theorem dX6_apart_1 : decode cX6_apart 1 = .ok (.bipush 6, 2) := by decide +kernel
theorem dX6_apart_3 : decode cX6_apart 3 = .ok (.irem, 1) := by decide +kernel
theorem dX6_apart_4 : decode cX6_apart 4 = .ok (.iload_n 1, 1) := by decide +kernel
theorem dX6_apart_5 : decode cX6_apart 5 = .ok (.bipush 6, 2) := by decide +kernel
theorem dX6_apart_7 : decode cX6_apart 7 = .ok (.irem, 1) := by decide +kernel
theorem dX6_apart_8 : decode cX6_apart 8 = .ok (.isub, 1) := by decide +kernel
theorem dX6_apart_9 : decode cX6_apart 9 = .ok (.invokestatic 42, 3) := by decide +kernel
theorem dX6_apart_12 : decode cX6_apart 12 = .ok (.istore_n 2, 1) := by decide +kernel
theorem dX6_apart_13 : decode cX6_apart 13 = .ok (.iload_n 0, 1) := by decide +kernel
theorem dX6_apart_14 : decode cX6_apart 14 = .ok (.bipush 6, 2) := by decide +kernel
theorem dX6_apart_16 : decode cX6_apart 16 = .ok (.idiv, 1) := by decide +kernel
theorem dX6_apart_17 : decode cX6_apart 17 = .ok (.iload_n 1, 1) := by decide +kernel
theorem dX6_apart_18 : decode cX6_apart 18 = .ok (.bipush 6, 2) := by decide +kernel
theorem dX6_apart_20 : decode cX6_apart 20 = .ok (.idiv, 1) := by decide +kernel
theorem dX6_apart_21 : decode cX6_apart 21 = .ok (.isub, 1) := by decide +kernel
theorem dX6_apart_22 : decode cX6_apart 22 = .ok (.invokestatic 42, 3) := by decide +kernel
theorem dX6_apart_25 : decode cX6_apart 25 = .ok (.istore_n 3, 1) := by decide +kernel
theorem dX6_apart_26 : decode cX6_apart 26 = .ok (.iload_n 2, 1) := by decide +kernel
theorem dX6_apart_27 : decode cX6_apart 27 = .ok (.iload_n 3, 1) := by decide +kernel
theorem dX6_apart_28 : decode cX6_apart 28 = .ok (.if_icmp .le 7, 3) := by decide +kernel
theorem dX6_apart_31 : decode cX6_apart 31 = .ok (.iload_n 2, 1) := by decide +kernel
theorem dX6_apart_32 : decode cX6_apart 32 = .ok (.goto 4, 3) := by decide +kernel
theorem dX6_apart_35 : decode cX6_apart 35 = .ok (.iload_n 3, 1) := by decide +kernel
theorem dX6_apart_36 : decode cX6_apart 36 = .ok (.ireturn, 1) := by decide +kernel
theorem dX6_shareAt_0 : decode cX6_shareAt 0 = .ok (.iload_n 1, 1) := by decide +kernel
theorem dX6_shareAt_1 : decode cX6_shareAt 1 = .ok (.iconst 3, 1) := by decide +kernel
theorem dX6_shareAt_2 : decode cX6_shareAt 2 = .ok (.if_icmp .ge 16, 3) := by decide +kernel
theorem dX6_shareAt_5 : decode cX6_shareAt 5 = .ok (.aload_n 0, 1) := by decide +kernel
theorem dX6_shareAt_6 : decode cX6_shareAt 6 = .ok (.getfield 7, 3) := by decide +kernel
theorem dX6_shareAt_9 : decode cX6_shareAt 9 = .ok (.sipush 324, 3) := by decide +kernel
theorem dX6_shareAt_12 : decode cX6_shareAt 12 = .ok (.iload_n 1, 1) := by decide +kernel
theorem dX6_shareAt_13 : decode cX6_shareAt 13 = .ok (.iadd, 1) := by decide +kernel
theorem dX6_shareAt_14 : decode cX6_shareAt 14 = .ok (.iaload, 1) := by decide +kernel
theorem dX6_shareAt_15 : decode cX6_shareAt 15 = .ok (.goto 4, 3) := by decide +kernel
theorem dX6_shareAt_18 : decode cX6_shareAt 18 = .ok (.iconst 0, 1) := by decide +kernel
theorem dX6_shareAt_19 : decode cX6_shareAt 19 = .ok (.ireturn, 1) := by decide +kernel
set_option maxRecDepth 20000 in
theorem ggX6_light_X6_apart : GoodIn wsX6_light wsX6_apart := goodIn_r _ [6, 7, 8, 5, 9] (by decide +kernel) (by decide +kernel)
set_option maxRecDepth 20000 in
theorem gX6_light_X6_apart : GoodIn wsX6_light (va_wsS RX6 46 yX6_apart wsX6_apart) := goodIn_app (goodIn_of _ (by decide +kernel)) ggX6_light_X6_apart
set_option maxRecDepth 20000 in
theorem ggX6_light_X6_shareAt : GoodIn wsX6_light wsX6_shareAt := goodIn_r _ [13, 2, 17, 18, 19, 20, 21, 22, 23, 24, 25, 26] (by decide +kernel) (by decide +kernel)
set_option maxRecDepth 20000 in
theorem gX6_light_X6_shareAt : GoodIn wsX6_light (wsV RX6 50 RX6 yX6_shareAt wsX6_shareAt) := goodIn_app (goodIn_of _ (by decide +kernel)) ggX6_light_X6_shareAt
set_option maxRecDepth 20000 in
theorem ggX6_light_X6_lesser : GoodIn wsX6_light wsX6_lesser := goodIn_r _ [16] (by decide +kernel) (by decide +kernel)
set_option maxRecDepth 20000 in
theorem gX6_light_X6_lesser : GoodIn wsX6_light (va_wsS RX6 53 yX6_lesser wsX6_lesser) := goodIn_app (goodIn_of _ (by decide +kernel)) ggX6_light_X6_lesser
theorem dX6_light_0 : decode cX6_light 0 = .ok (.iconst 0, 1) := by decide +kernel
theorem dX6_light_1 : decode cX6_light 1 = .ok (.istore_n 3, 1) := by decide +kernel
theorem dX6_light_2 : decode cX6_light 2 = .ok (.iconst 0, 1) := by decide +kernel
theorem dX6_light_3 : decode cX6_light 3 = .ok (.istore 4, 2) := by decide +kernel
theorem dX6_light_5 : decode cX6_light 5 = .ok (.iload 4, 2) := by decide +kernel
theorem dX6_light_7 : decode cX6_light 7 = .ok (.bipush 18, 2) := by decide +kernel
theorem dX6_light_9 : decode cX6_light 9 = .ok (.if_icmp .ge 48, 3) := by decide +kernel
theorem dX6_light_12 : decode cX6_light 12 = .ok (.iload_n 3, 1) := by decide +kernel
theorem dX6_light_13 : decode cX6_light 13 = .ok (.iload_n 2, 1) := by decide +kernel
theorem dX6_light_14 : decode cX6_light 14 = .ok (.ifCond .eq 13, 3) := by decide +kernel
theorem dX6_light_17 : decode cX6_light 17 = .ok (.aload_n 0, 1) := by decide +kernel
theorem dX6_light_18 : decode cX6_light 18 = .ok (.getfield 19, 3) := by decide +kernel
theorem dX6_light_21 : decode cX6_light 21 = .ok (.iload 4, 2) := by decide +kernel
theorem dX6_light_23 : decode cX6_light 23 = .ok (.iaload, 1) := by decide +kernel
theorem dX6_light_24 : decode cX6_light 24 = .ok (.goto 14, 3) := by decide +kernel
theorem dX6_light_27 : decode cX6_light 27 = .ok (.aload_n 0, 1) := by decide +kernel
theorem dX6_light_28 : decode cX6_light 28 = .ok (.getfield 7, 3) := by decide +kernel
theorem dX6_light_31 : decode cX6_light 31 = .ok (.sipush 288, 3) := by decide +kernel
theorem dX6_light_34 : decode cX6_light 34 = .ok (.iload 4, 2) := by decide +kernel
theorem dX6_light_36 : decode cX6_light 36 = .ok (.iadd, 1) := by decide +kernel
theorem dX6_light_37 : decode cX6_light 37 = .ok (.iaload, 1) := by decide +kernel
theorem dX6_light_38 : decode cX6_light 38 = .ok (.aload_n 0, 1) := by decide +kernel
theorem dX6_light_39 : decode cX6_light 39 = .ok (.iload_n 1, 1) := by decide +kernel
theorem dX6_light_40 : decode cX6_light 40 = .ok (.iload 4, 2) := by decide +kernel
theorem dX6_light_42 : decode cX6_light 42 = .ok (.invokestatic 46, 3) := by decide +kernel
theorem dX6_light_45 : decode cX6_light 45 = .ok (.invokevirtual 50, 3) := by decide +kernel
theorem dX6_light_48 : decode cX6_light 48 = .ok (.imul, 1) := by decide +kernel
theorem dX6_light_49 : decode cX6_light 49 = .ok (.iadd, 1) := by decide +kernel
theorem dX6_light_50 : decode cX6_light 50 = .ok (.istore_n 3, 1) := by decide +kernel
theorem dX6_light_51 : decode cX6_light 51 = .ok (.iinc 4 1, 3) := by decide +kernel
theorem dX6_light_54 : decode cX6_light 54 = .ok (.goto (-49), 3) := by decide +kernel
theorem dX6_light_57 : decode cX6_light 57 = .ok (.sipush 255, 3) := by decide +kernel
theorem dX6_light_60 : decode cX6_light 60 = .ok (.iload_n 3, 1) := by decide +kernel
theorem dX6_light_61 : decode cX6_light 61 = .ok (.sipush 256, 3) := by decide +kernel
theorem dX6_light_64 : decode cX6_light 64 = .ok (.idiv, 1) := by decide +kernel
theorem dX6_light_65 : decode cX6_light 65 = .ok (.invokestatic 53, 3) := by decide +kernel
theorem dX6_light_68 : decode cX6_light 68 = .ok (.ireturn, 1) := by decide +kernel
theorem dX6_leakOf_0 : decode cX6_leakOf 0 = .ok (.iload_n 1, 1) := by decide +kernel
theorem dX6_leakOf_1 : decode cX6_leakOf 1 = .ok (.aload_n 0, 1) := by decide +kernel
theorem dX6_leakOf_2 : decode cX6_leakOf 2 = .ok (.getfield 7, 3) := by decide +kernel
theorem dX6_leakOf_5 : decode cX6_leakOf 5 = .ok (.sipush 329, 3) := by decide +kernel
theorem dX6_leakOf_8 : decode cX6_leakOf 8 = .ok (.iaload, 1) := by decide +kernel
theorem dX6_leakOf_9 : decode cX6_leakOf 9 = .ok (.imul, 1) := by decide +kernel
theorem dX6_leakOf_10 : decode cX6_leakOf 10 = .ok (.sipush 1000, 3) := by decide +kernel
theorem dX6_leakOf_13 : decode cX6_leakOf 13 = .ok (.idiv, 1) := by decide +kernel
theorem dX6_leakOf_14 : decode cX6_leakOf 14 = .ok (.ireturn, 1) := by decide +kernel
set_option maxRecDepth 20000 in
theorem ggX6_glass_X6_lesser : GoodIn wsX6_glass wsX6_lesser := goodIn_r _ [4] (by decide +kernel) (by decide +kernel)
set_option maxRecDepth 20000 in
theorem gX6_glass_X6_lesser : GoodIn wsX6_glass (va_wsS RX6 53 yX6_lesser wsX6_lesser) := goodIn_app (goodIn_of _ (by decide +kernel)) ggX6_glass_X6_lesser
theorem dX6_glass_0 : decode cX6_glass 0 = .ok (.iload_n 1, 1) := by decide +kernel
theorem dX6_glass_1 : decode cX6_glass 1 = .ok (.ifCond .ne 7, 3) := by decide +kernel
theorem dX6_glass_4 : decode cX6_glass 4 = .ok (.iconst 0, 1) := by decide +kernel
theorem dX6_glass_5 : decode cX6_glass 5 = .ok (.goto 20, 3) := by decide +kernel
theorem dX6_glass_8 : decode cX6_glass 8 = .ok (.sipush 255, 3) := by decide +kernel
theorem dX6_glass_11 : decode cX6_glass 11 = .ok (.iload_n 0, 1) := by decide +kernel
theorem dX6_glass_12 : decode cX6_glass 12 = .ok (.sipush 255, 3) := by decide +kernel
theorem dX6_glass_15 : decode cX6_glass 15 = .ok (.imul, 1) := by decide +kernel
theorem dX6_glass_16 : decode cX6_glass 16 = .ok (.iload_n 1, 1) := by decide +kernel
theorem dX6_glass_17 : decode cX6_glass 17 = .ok (.iadd, 1) := by decide +kernel
theorem dX6_glass_18 : decode cX6_glass 18 = .ok (.iconst 1, 1) := by decide +kernel
theorem dX6_glass_19 : decode cX6_glass 19 = .ok (.isub, 1) := by decide +kernel
theorem dX6_glass_20 : decode cX6_glass 20 = .ok (.iload_n 1, 1) := by decide +kernel
theorem dX6_glass_21 : decode cX6_glass 21 = .ok (.idiv, 1) := by decide +kernel
theorem dX6_glass_22 : decode cX6_glass 22 = .ok (.invokestatic 53, 3) := by decide +kernel
theorem dX6_glass_25 : decode cX6_glass 25 = .ok (.ireturn, 1) := by decide +kernel
set_option maxRecDepth 20000 in
theorem ggX6_shown_X6_glass : GoodIn wsX6_shown wsX6_glass := goodIn_r _ [4, 5, 6, 3, 7] (by decide +kernel) (by decide +kernel)
set_option maxRecDepth 20000 in
theorem gX6_shown_X6_glass : GoodIn wsX6_shown (va_wsS RX6 56 yX6_glass wsX6_glass) := goodIn_app (goodIn_of _ (by decide +kernel)) ggX6_shown_X6_glass
set_option maxRecDepth 20000 in
theorem ggX6_shown_X6_leakOf : GoodIn wsX6_shown wsX6_leakOf := goodIn_r _ [11, 12, 13, 14, 15, 16, 17, 18, 19, 20, 21, 22] (by decide +kernel) (by decide +kernel)
set_option maxRecDepth 20000 in
theorem gX6_shown_X6_leakOf : GoodIn wsX6_shown (wsV RX6 59 RX6 yX6_leakOf wsX6_leakOf) := goodIn_app (goodIn_of _ (by decide +kernel)) ggX6_shown_X6_leakOf
theorem dX6_shown_0 : decode cX6_shown 0 = .ok (.iload_n 2, 1) := by decide +kernel
theorem dX6_shown_1 : decode cX6_shown 1 = .ok (.iload_n 1, 1) := by decide +kernel
theorem dX6_shown_2 : decode cX6_shown 2 = .ok (.iload_n 2, 1) := by decide +kernel
theorem dX6_shown_3 : decode cX6_shown 3 = .ok (.invokestatic 56, 3) := by decide +kernel
theorem dX6_shown_6 : decode cX6_shown 6 = .ok (.imul, 1) := by decide +kernel
theorem dX6_shown_7 : decode cX6_shown 7 = .ok (.sipush 255, 3) := by decide +kernel
theorem dX6_shown_10 : decode cX6_shown 10 = .ok (.idiv, 1) := by decide +kernel
theorem dX6_shown_11 : decode cX6_shown 11 = .ok (.istore_n 3, 1) := by decide +kernel
theorem dX6_shown_12 : decode cX6_shown 12 = .ok (.iload_n 3, 1) := by decide +kernel
theorem dX6_shown_13 : decode cX6_shown 13 = .ok (.aload_n 0, 1) := by decide +kernel
theorem dX6_shown_14 : decode cX6_shown 14 = .ok (.iload_n 2, 1) := by decide +kernel
theorem dX6_shown_15 : decode cX6_shown 15 = .ok (.invokevirtual 59, 3) := by decide +kernel
theorem dX6_shown_18 : decode cX6_shown 18 = .ok (.if_icmp .le 7, 3) := by decide +kernel
theorem dX6_shown_21 : decode cX6_shown 21 = .ok (.iload_n 3, 1) := by decide +kernel
theorem dX6_shown_22 : decode cX6_shown 22 = .ok (.goto 8, 3) := by decide +kernel
theorem dX6_shown_25 : decode cX6_shown 25 = .ok (.aload_n 0, 1) := by decide +kernel
theorem dX6_shown_26 : decode cX6_shown 26 = .ok (.iload_n 2, 1) := by decide +kernel
theorem dX6_shown_27 : decode cX6_shown 27 = .ok (.invokevirtual 59, 3) := by decide +kernel
theorem dX6_shown_30 : decode cX6_shown 30 = .ok (.ireturn, 1) := by decide +kernel
set_option maxRecDepth 20000 in
theorem ggX6_greatestIn_X6_spotIn : GoodIn wsX6_greatestIn wsX6_spotIn := goodIn_r _ [5] (by decide +kernel) (by decide +kernel)
set_option maxRecDepth 20000 in
theorem gX6_greatestIn_X6_spotIn : GoodIn wsX6_greatestIn (va_wsS RX6 62 yX6_spotIn wsX6_spotIn) := goodIn_app (goodIn_of _ (by decide +kernel)) ggX6_greatestIn_X6_spotIn
theorem dX6_greatestIn_0 : decode cX6_greatestIn 0 = .ok (.iconst 0, 1) := by decide +kernel
theorem dX6_greatestIn_1 : decode cX6_greatestIn 1 = .ok (.istore_n 2, 1) := by decide +kernel
theorem dX6_greatestIn_2 : decode cX6_greatestIn 2 = .ok (.iconst 0, 1) := by decide +kernel
theorem dX6_greatestIn_3 : decode cX6_greatestIn 3 = .ok (.istore_n 3, 1) := by decide +kernel
theorem dX6_greatestIn_4 : decode cX6_greatestIn 4 = .ok (.iload_n 3, 1) := by decide +kernel
theorem dX6_greatestIn_5 : decode cX6_greatestIn 5 = .ok (.bipush 16, 2) := by decide +kernel
theorem dX6_greatestIn_7 : decode cX6_greatestIn 7 = .ok (.if_icmp .ge 34, 3) := by decide +kernel
theorem dX6_greatestIn_10 : decode cX6_greatestIn 10 = .ok (.aload_n 0, 1) := by decide +kernel
theorem dX6_greatestIn_11 : decode cX6_greatestIn 11 = .ok (.getfield 7, 3) := by decide +kernel
theorem dX6_greatestIn_14 : decode cX6_greatestIn 14 = .ok (.iload_n 1, 1) := by decide +kernel
theorem dX6_greatestIn_15 : decode cX6_greatestIn 15 = .ok (.iload_n 3, 1) := by decide +kernel
theorem dX6_greatestIn_16 : decode cX6_greatestIn 16 = .ok (.invokestatic 62, 3) := by decide +kernel
theorem dX6_greatestIn_19 : decode cX6_greatestIn 19 = .ok (.iaload, 1) := by decide +kernel
theorem dX6_greatestIn_20 : decode cX6_greatestIn 20 = .ok (.istore 4, 2) := by decide +kernel
theorem dX6_greatestIn_22 : decode cX6_greatestIn 22 = .ok (.iload 4, 2) := by decide +kernel
theorem dX6_greatestIn_24 : decode cX6_greatestIn 24 = .ok (.iload_n 2, 1) := by decide +kernel
theorem dX6_greatestIn_25 : decode cX6_greatestIn 25 = .ok (.if_icmp .le 8, 3) := by decide +kernel
theorem dX6_greatestIn_28 : decode cX6_greatestIn 28 = .ok (.iload 4, 2) := by decide +kernel
theorem dX6_greatestIn_30 : decode cX6_greatestIn 30 = .ok (.goto 4, 3) := by decide +kernel
theorem dX6_greatestIn_33 : decode cX6_greatestIn 33 = .ok (.iload_n 2, 1) := by decide +kernel
theorem dX6_greatestIn_34 : decode cX6_greatestIn 34 = .ok (.istore_n 2, 1) := by decide +kernel
theorem dX6_greatestIn_35 : decode cX6_greatestIn 35 = .ok (.iinc 3 1, 3) := by decide +kernel
theorem dX6_greatestIn_38 : decode cX6_greatestIn 38 = .ok (.goto (-34), 3) := by decide +kernel
theorem dX6_greatestIn_41 : decode cX6_greatestIn 41 = .ok (.iload_n 2, 1) := by decide +kernel
theorem dX6_greatestIn_42 : decode cX6_greatestIn 42 = .ok (.ireturn, 1) := by decide +kernel
set_option maxRecDepth 20000 in
theorem ggX6_meanIn_X6_spotIn : GoodIn wsX6_meanIn wsX6_spotIn := goodIn_r _ [5] (by decide +kernel) (by decide +kernel)
set_option maxRecDepth 20000 in
theorem gX6_meanIn_X6_spotIn : GoodIn wsX6_meanIn (va_wsS RX6 62 yX6_spotIn wsX6_spotIn) := goodIn_app (goodIn_of _ (by decide +kernel)) ggX6_meanIn_X6_spotIn
theorem dX6_meanIn_0 : decode cX6_meanIn 0 = .ok (.iconst 0, 1) := by decide +kernel
theorem dX6_meanIn_1 : decode cX6_meanIn 1 = .ok (.istore_n 2, 1) := by decide +kernel
theorem dX6_meanIn_2 : decode cX6_meanIn 2 = .ok (.iconst 0, 1) := by decide +kernel
theorem dX6_meanIn_3 : decode cX6_meanIn 3 = .ok (.istore_n 3, 1) := by decide +kernel
theorem dX6_meanIn_4 : decode cX6_meanIn 4 = .ok (.iload_n 3, 1) := by decide +kernel
theorem dX6_meanIn_5 : decode cX6_meanIn 5 = .ok (.bipush 16, 2) := by decide +kernel
theorem dX6_meanIn_7 : decode cX6_meanIn 7 = .ok (.if_icmp .ge 22, 3) := by decide +kernel
theorem dX6_meanIn_10 : decode cX6_meanIn 10 = .ok (.iload_n 2, 1) := by decide +kernel
theorem dX6_meanIn_11 : decode cX6_meanIn 11 = .ok (.aload_n 0, 1) := by decide +kernel
theorem dX6_meanIn_12 : decode cX6_meanIn 12 = .ok (.getfield 7, 3) := by decide +kernel
theorem dX6_meanIn_15 : decode cX6_meanIn 15 = .ok (.iload_n 1, 1) := by decide +kernel
theorem dX6_meanIn_16 : decode cX6_meanIn 16 = .ok (.iload_n 3, 1) := by decide +kernel
theorem dX6_meanIn_17 : decode cX6_meanIn 17 = .ok (.invokestatic 62, 3) := by decide +kernel
theorem dX6_meanIn_20 : decode cX6_meanIn 20 = .ok (.iaload, 1) := by decide +kernel
theorem dX6_meanIn_21 : decode cX6_meanIn 21 = .ok (.iadd, 1) := by decide +kernel
theorem dX6_meanIn_22 : decode cX6_meanIn 22 = .ok (.istore_n 2, 1) := by decide +kernel
theorem dX6_meanIn_23 : decode cX6_meanIn 23 = .ok (.iinc 3 1, 3) := by decide +kernel
theorem dX6_meanIn_26 : decode cX6_meanIn 26 = .ok (.goto (-22), 3) := by decide +kernel
theorem dX6_meanIn_29 : decode cX6_meanIn 29 = .ok (.iload_n 2, 1) := by decide +kernel
theorem dX6_meanIn_30 : decode cX6_meanIn 30 = .ok (.bipush 16, 2) := by decide +kernel
theorem dX6_meanIn_32 : decode cX6_meanIn 32 = .ok (.idiv, 1) := by decide +kernel
theorem dX6_meanIn_33 : decode cX6_meanIn 33 = .ok (.ireturn, 1) := by decide +kernel
set_option maxRecDepth 20000 in
theorem ggX6_hasBlack_X6_spotIn : GoodIn wsX6_hasBlack wsX6_spotIn := goodIn_r _ [5] (by decide +kernel) (by decide +kernel)
set_option maxRecDepth 20000 in
theorem gX6_hasBlack_X6_spotIn : GoodIn wsX6_hasBlack (va_wsS RX6 62 yX6_spotIn wsX6_spotIn) := goodIn_app (goodIn_of _ (by decide +kernel)) ggX6_hasBlack_X6_spotIn
theorem dX6_hasBlack_0 : decode cX6_hasBlack 0 = .ok (.iconst 0, 1) := by decide +kernel
theorem dX6_hasBlack_1 : decode cX6_hasBlack 1 = .ok (.istore_n 2, 1) := by decide +kernel
theorem dX6_hasBlack_2 : decode cX6_hasBlack 2 = .ok (.iconst 0, 1) := by decide +kernel
theorem dX6_hasBlack_3 : decode cX6_hasBlack 3 = .ok (.istore_n 3, 1) := by decide +kernel
theorem dX6_hasBlack_4 : decode cX6_hasBlack 4 = .ok (.iload_n 3, 1) := by decide +kernel
theorem dX6_hasBlack_5 : decode cX6_hasBlack 5 = .ok (.bipush 16, 2) := by decide +kernel
theorem dX6_hasBlack_7 : decode cX6_hasBlack 7 = .ok (.if_icmp .ge 32, 3) := by decide +kernel
theorem dX6_hasBlack_10 : decode cX6_hasBlack 10 = .ok (.iload_n 2, 1) := by decide +kernel
theorem dX6_hasBlack_11 : decode cX6_hasBlack 11 = .ok (.ifCond .ne 16, 3) := by decide +kernel
theorem dX6_hasBlack_14 : decode cX6_hasBlack 14 = .ok (.aload_n 0, 1) := by decide +kernel
theorem dX6_hasBlack_15 : decode cX6_hasBlack 15 = .ok (.getfield 7, 3) := by decide +kernel
theorem dX6_hasBlack_18 : decode cX6_hasBlack 18 = .ok (.iload_n 1, 1) := by decide +kernel
theorem dX6_hasBlack_19 : decode cX6_hasBlack 19 = .ok (.iload_n 3, 1) := by decide +kernel
theorem dX6_hasBlack_20 : decode cX6_hasBlack 20 = .ok (.invokestatic 62, 3) := by decide +kernel
theorem dX6_hasBlack_23 : decode cX6_hasBlack 23 = .ok (.iaload, 1) := by decide +kernel
theorem dX6_hasBlack_24 : decode cX6_hasBlack 24 = .ok (.ifCond .ne 7, 3) := by decide +kernel
theorem dX6_hasBlack_27 : decode cX6_hasBlack 27 = .ok (.iconst 1, 1) := by decide +kernel
theorem dX6_hasBlack_28 : decode cX6_hasBlack 28 = .ok (.goto 4, 3) := by decide +kernel
theorem dX6_hasBlack_31 : decode cX6_hasBlack 31 = .ok (.iconst 0, 1) := by decide +kernel
theorem dX6_hasBlack_32 : decode cX6_hasBlack 32 = .ok (.istore_n 2, 1) := by decide +kernel
theorem dX6_hasBlack_33 : decode cX6_hasBlack 33 = .ok (.iinc 3 1, 3) := by decide +kernel
theorem dX6_hasBlack_36 : decode cX6_hasBlack 36 = .ok (.goto (-32), 3) := by decide +kernel
theorem dX6_hasBlack_39 : decode cX6_hasBlack 39 = .ok (.iload_n 2, 1) := by decide +kernel
theorem dX6_hasBlack_40 : decode cX6_hasBlack 40 = .ok (.ireturn, 1) := by decide +kernel
set_option maxRecDepth 20000 in
theorem ggX6_beginning_X6_greatestIn : GoodIn wsX6_beginning wsX6_greatestIn := goodIn_r _ [6, 1, 7, 8, 5, 9, 17, 18, 19, 20, 21, 22, 23, 24, 25, 26] (by decide +kernel) (by decide +kernel)
set_option maxRecDepth 20000 in
theorem gX6_beginning_X6_greatestIn : GoodIn wsX6_beginning (wsV RX6 65 RX6 yX6_greatestIn wsX6_greatestIn) := goodIn_app (goodIn_of _ (by decide +kernel)) ggX6_beginning_X6_greatestIn
set_option maxRecDepth 20000 in
theorem ggX6_beginning_X6_meanIn : GoodIn wsX6_beginning wsX6_meanIn := goodIn_r _ [13, 1, 7, 8, 5, 9, 17, 18, 19, 20, 21, 22, 23, 24, 25, 26] (by decide +kernel) (by decide +kernel)
set_option maxRecDepth 20000 in
theorem gX6_beginning_X6_meanIn : GoodIn wsX6_beginning (wsV RX6 68 RX6 yX6_meanIn wsX6_meanIn) := goodIn_app (goodIn_of _ (by decide +kernel)) ggX6_beginning_X6_meanIn
set_option maxRecDepth 20000 in
theorem ggX6_beginning_X6_lesser : GoodIn wsX6_beginning wsX6_lesser := goodIn_r _ [16] (by decide +kernel) (by decide +kernel)
set_option maxRecDepth 20000 in
theorem gX6_beginning_X6_lesser : GoodIn wsX6_beginning (va_wsS RX6 53 yX6_lesser wsX6_lesser) := goodIn_app (goodIn_of _ (by decide +kernel)) ggX6_beginning_X6_lesser
theorem dX6_beginning_0 : decode cX6_beginning 0 = .ok (.aload_n 0, 1) := by decide +kernel
theorem dX6_beginning_1 : decode cX6_beginning 1 = .ok (.iload_n 1, 1) := by decide +kernel
theorem dX6_beginning_2 : decode cX6_beginning 2 = .ok (.invokevirtual 65, 3) := by decide +kernel
theorem dX6_beginning_5 : decode cX6_beginning 5 = .ok (.istore_n 3, 1) := by decide +kernel
theorem dX6_beginning_6 : decode cX6_beginning 6 = .ok (.iload_n 2, 1) := by decide +kernel
theorem dX6_beginning_7 : decode cX6_beginning 7 = .ok (.ifCond .ne 7, 3) := by decide +kernel
theorem dX6_beginning_10 : decode cX6_beginning 10 = .ok (.iload_n 3, 1) := by decide +kernel
theorem dX6_beginning_11 : decode cX6_beginning 11 = .ok (.goto 25, 3) := by decide +kernel
theorem dX6_beginning_14 : decode cX6_beginning 14 = .ok (.iload_n 2, 1) := by decide +kernel
theorem dX6_beginning_15 : decode cX6_beginning 15 = .ok (.iconst 1, 1) := by decide +kernel
theorem dX6_beginning_16 : decode cX6_beginning 16 = .ok (.if_icmp .ne 15, 3) := by decide +kernel
theorem dX6_beginning_19 : decode cX6_beginning 19 = .ok (.iload_n 3, 1) := by decide +kernel
theorem dX6_beginning_20 : decode cX6_beginning 20 = .ok (.aload_n 0, 1) := by decide +kernel
theorem dX6_beginning_21 : decode cX6_beginning 21 = .ok (.iload_n 1, 1) := by decide +kernel
theorem dX6_beginning_22 : decode cX6_beginning 22 = .ok (.invokevirtual 68, 3) := by decide +kernel
theorem dX6_beginning_25 : decode cX6_beginning 25 = .ok (.iadd, 1) := by decide +kernel
theorem dX6_beginning_26 : decode cX6_beginning 26 = .ok (.iconst 2, 1) := by decide +kernel
theorem dX6_beginning_27 : decode cX6_beginning 27 = .ok (.idiv, 1) := by decide +kernel
theorem dX6_beginning_28 : decode cX6_beginning 28 = .ok (.goto 8, 3) := by decide +kernel
theorem dX6_beginning_31 : decode cX6_beginning 31 = .ok (.aload_n 0, 1) := by decide +kernel
theorem dX6_beginning_32 : decode cX6_beginning 32 = .ok (.iload_n 1, 1) := by decide +kernel
theorem dX6_beginning_33 : decode cX6_beginning 33 = .ok (.invokevirtual 68, 3) := by decide +kernel
theorem dX6_beginning_36 : decode cX6_beginning 36 = .ok (.istore 4, 2) := by decide +kernel
theorem dX6_beginning_38 : decode cX6_beginning 38 = .ok (.sipush 255, 3) := by decide +kernel
theorem dX6_beginning_41 : decode cX6_beginning 41 = .ok (.iload 4, 2) := by decide +kernel
theorem dX6_beginning_43 : decode cX6_beginning 43 = .ok (.sipush 256, 3) := by decide +kernel
theorem dX6_beginning_46 : decode cX6_beginning 46 = .ok (.imul, 1) := by decide +kernel
theorem dX6_beginning_47 : decode cX6_beginning 47 = .ok (.aload_n 0, 1) := by decide +kernel
theorem dX6_beginning_48 : decode cX6_beginning 48 = .ok (.getfield 7, 3) := by decide +kernel
theorem dX6_beginning_51 : decode cX6_beginning 51 = .ok (.sipush 324, 3) := by decide +kernel
theorem dX6_beginning_54 : decode cX6_beginning 54 = .ok (.iaload, 1) := by decide +kernel
theorem dX6_beginning_55 : decode cX6_beginning 55 = .ok (.idiv, 1) := by decide +kernel
theorem dX6_beginning_56 : decode cX6_beginning 56 = .ok (.invokestatic 53, 3) := by decide +kernel
theorem dX6_beginning_59 : decode cX6_beginning 59 = .ok (.ireturn, 1) := by decide +kernel
set_option maxRecDepth 20000 in
theorem ggX6_raises_X6_lesser : GoodIn wsX6_raises wsX6_lesser := goodIn_r _ [5] (by decide +kernel) (by decide +kernel)
set_option maxRecDepth 20000 in
theorem gX6_raises_X6_lesser : GoodIn wsX6_raises (va_wsS RX6 53 yX6_lesser wsX6_lesser) := goodIn_app (goodIn_of _ (by decide +kernel)) ggX6_raises_X6_lesser
theorem dX6_raises_0 : decode cX6_raises 0 = .ok (.aload_n 0, 1) := by decide +kernel
theorem dX6_raises_1 : decode cX6_raises 1 = .ok (.getfield 19, 3) := by decide +kernel
theorem dX6_raises_4 : decode cX6_raises 4 = .ok (.iload_n 1, 1) := by decide +kernel
theorem dX6_raises_5 : decode cX6_raises 5 = .ok (.sipush 255, 3) := by decide +kernel
theorem dX6_raises_8 : decode cX6_raises 8 = .ok (.aload_n 0, 1) := by decide +kernel
theorem dX6_raises_9 : decode cX6_raises 9 = .ok (.getfield 19, 3) := by decide +kernel
theorem dX6_raises_12 : decode cX6_raises 12 = .ok (.iload_n 1, 1) := by decide +kernel
theorem dX6_raises_13 : decode cX6_raises 13 = .ok (.iaload, 1) := by decide +kernel
theorem dX6_raises_14 : decode cX6_raises 14 = .ok (.iload_n 2, 1) := by decide +kernel
theorem dX6_raises_15 : decode cX6_raises 15 = .ok (.sipush 256, 3) := by decide +kernel
theorem dX6_raises_18 : decode cX6_raises 18 = .ok (.imul, 1) := by decide +kernel
theorem dX6_raises_19 : decode cX6_raises 19 = .ok (.iload_n 3, 1) := by decide +kernel
theorem dX6_raises_20 : decode cX6_raises 20 = .ok (.iadd, 1) := by decide +kernel
theorem dX6_raises_21 : decode cX6_raises 21 = .ok (.iconst 1, 1) := by decide +kernel
theorem dX6_raises_22 : decode cX6_raises 22 = .ok (.isub, 1) := by decide +kernel
theorem dX6_raises_23 : decode cX6_raises 23 = .ok (.iload_n 3, 1) := by decide +kernel
theorem dX6_raises_24 : decode cX6_raises 24 = .ok (.idiv, 1) := by decide +kernel
theorem dX6_raises_25 : decode cX6_raises 25 = .ok (.iadd, 1) := by decide +kernel
theorem dX6_raises_26 : decode cX6_raises 26 = .ok (.invokestatic 53, 3) := by decide +kernel
theorem dX6_raises_29 : decode cX6_raises 29 = .ok (.iastore, 1) := by decide +kernel
theorem dX6_raises_30 : decode cX6_raises 30 = .ok (.return_, 1) := by decide +kernel
set_option maxRecDepth 20000 in
theorem ggX6_isLiveBeside_X6_apart : GoodIn wsX6_isLiveBeside wsX6_apart := goodIn_r _ [5, 6, 7, 4, 8] (by decide +kernel) (by decide +kernel)
set_option maxRecDepth 20000 in
theorem gX6_isLiveBeside_X6_apart : GoodIn wsX6_isLiveBeside (va_wsS RX6 46 yX6_apart wsX6_apart) := goodIn_app (goodIn_of _ (by decide +kernel)) ggX6_isLiveBeside_X6_apart
theorem dX6_isLiveBeside_0 : decode cX6_isLiveBeside 0 = .ok (.iload_n 1, 1) := by decide +kernel
theorem dX6_isLiveBeside_1 : decode cX6_isLiveBeside 1 = .ok (.iload_n 2, 1) := by decide +kernel
theorem dX6_isLiveBeside_2 : decode cX6_isLiveBeside 2 = .ok (.invokestatic 46, 3) := by decide +kernel
theorem dX6_isLiveBeside_5 : decode cX6_isLiveBeside 5 = .ok (.iconst 1, 1) := by decide +kernel
theorem dX6_isLiveBeside_6 : decode cX6_isLiveBeside 6 = .ok (.if_icmp .ne 20, 3) := by decide +kernel
theorem dX6_isLiveBeside_9 : decode cX6_isLiveBeside 9 = .ok (.aload_n 0, 1) := by decide +kernel
theorem dX6_isLiveBeside_10 : decode cX6_isLiveBeside 10 = .ok (.getfield 7, 3) := by decide +kernel
theorem dX6_isLiveBeside_13 : decode cX6_isLiveBeside 13 = .ok (.sipush 306, 3) := by decide +kernel
theorem dX6_isLiveBeside_16 : decode cX6_isLiveBeside 16 = .ok (.iload_n 2, 1) := by decide +kernel
theorem dX6_isLiveBeside_17 : decode cX6_isLiveBeside 17 = .ok (.iadd, 1) := by decide +kernel
theorem dX6_isLiveBeside_18 : decode cX6_isLiveBeside 18 = .ok (.iaload, 1) := by decide +kernel
theorem dX6_isLiveBeside_19 : decode cX6_isLiveBeside 19 = .ok (.ifCond .ne 7, 3) := by decide +kernel
theorem dX6_isLiveBeside_22 : decode cX6_isLiveBeside 22 = .ok (.iconst 1, 1) := by decide +kernel
theorem dX6_isLiveBeside_23 : decode cX6_isLiveBeside 23 = .ok (.goto 4, 3) := by decide +kernel
theorem dX6_isLiveBeside_26 : decode cX6_isLiveBeside 26 = .ok (.iconst 0, 1) := by decide +kernel
theorem dX6_isLiveBeside_27 : decode cX6_isLiveBeside 27 = .ok (.ireturn, 1) := by decide +kernel
set_option maxRecDepth 20000 in
theorem ggX6_raisesBeside_X6_isLiveBeside : GoodIn wsX6_raisesBeside wsX6_isLiveBeside := goodIn_r _ [6, 1, 7, 8, 5, 9, 10, 11, 12, 21, 22, 23, 24, 25, 26, 27, 28, 29, 30] (by decide +kernel) (by decide +kernel)
set_option maxRecDepth 20000 in
theorem gX6_raisesBeside_X6_isLiveBeside : GoodIn wsX6_raisesBeside (wsV RX6 71 RX6 yX6_isLiveBeside wsX6_isLiveBeside) := goodIn_app (goodIn_of _ (by decide +kernel)) ggX6_raisesBeside_X6_isLiveBeside
set_option maxRecDepth 20000 in
theorem ggX6_raisesBeside_X6_raises : GoodIn wsX6_raisesBeside wsX6_raises := goodIn_r _ [16, 17, 18, 19, 5, 20, 21, 22, 23, 24, 25, 26, 27, 28, 29, 30] (by decide +kernel) (by decide +kernel)
set_option maxRecDepth 20000 in
theorem gX6_raisesBeside_X6_raises : GoodIn wsX6_raisesBeside (wsV RX6 75 RX6 yX6_raises wsX6_raises) := goodIn_app (goodIn_of _ (by decide +kernel)) ggX6_raisesBeside_X6_raises
theorem dX6_raisesBeside_0 : decode cX6_raisesBeside 0 = .ok (.iconst 0, 1) := by decide +kernel
theorem dX6_raisesBeside_1 : decode cX6_raisesBeside 1 = .ok (.istore_n 3, 1) := by decide +kernel
theorem dX6_raisesBeside_2 : decode cX6_raisesBeside 2 = .ok (.iconst 0, 1) := by decide +kernel
theorem dX6_raisesBeside_3 : decode cX6_raisesBeside 3 = .ok (.istore 4, 2) := by decide +kernel
theorem dX6_raisesBeside_5 : decode cX6_raisesBeside 5 = .ok (.iload 4, 2) := by decide +kernel
theorem dX6_raisesBeside_7 : decode cX6_raisesBeside 7 = .ok (.bipush 18, 2) := by decide +kernel
theorem dX6_raisesBeside_9 : decode cX6_raisesBeside 9 = .ok (.if_icmp .ge 27, 3) := by decide +kernel
theorem dX6_raisesBeside_12 : decode cX6_raisesBeside 12 = .ok (.iload_n 3, 1) := by decide +kernel
theorem dX6_raisesBeside_13 : decode cX6_raisesBeside 13 = .ok (.aload_n 0, 1) := by decide +kernel
theorem dX6_raisesBeside_14 : decode cX6_raisesBeside 14 = .ok (.iload_n 1, 1) := by decide +kernel
theorem dX6_raisesBeside_15 : decode cX6_raisesBeside 15 = .ok (.iload 4, 2) := by decide +kernel
theorem dX6_raisesBeside_17 : decode cX6_raisesBeside 17 = .ok (.invokevirtual 71, 3) := by decide +kernel
theorem dX6_raisesBeside_20 : decode cX6_raisesBeside 20 = .ok (.ifCond .eq 7, 3) := by decide +kernel
theorem dX6_raisesBeside_23 : decode cX6_raisesBeside 23 = .ok (.iconst 1, 1) := by decide +kernel
theorem dX6_raisesBeside_24 : decode cX6_raisesBeside 24 = .ok (.goto 4, 3) := by decide +kernel
theorem dX6_raisesBeside_27 : decode cX6_raisesBeside 27 = .ok (.iconst 0, 1) := by decide +kernel
theorem dX6_raisesBeside_28 : decode cX6_raisesBeside 28 = .ok (.iadd, 1) := by decide +kernel
theorem dX6_raisesBeside_29 : decode cX6_raisesBeside 29 = .ok (.istore_n 3, 1) := by decide +kernel
theorem dX6_raisesBeside_30 : decode cX6_raisesBeside 30 = .ok (.iinc 4 1, 3) := by decide +kernel
theorem dX6_raisesBeside_33 : decode cX6_raisesBeside 33 = .ok (.goto (-28), 3) := by decide +kernel
theorem dX6_raisesBeside_36 : decode cX6_raisesBeside 36 = .ok (.aload_n 0, 1) := by decide +kernel
theorem dX6_raisesBeside_37 : decode cX6_raisesBeside 37 = .ok (.getfield 7, 3) := by decide +kernel
theorem dX6_raisesBeside_40 : decode cX6_raisesBeside 40 = .ok (.sipush 325, 3) := by decide +kernel
theorem dX6_raisesBeside_43 : decode cX6_raisesBeside 43 = .ok (.iaload, 1) := by decide +kernel
theorem dX6_raisesBeside_44 : decode cX6_raisesBeside 44 = .ok (.iload_n 3, 1) := by decide +kernel
theorem dX6_raisesBeside_45 : decode cX6_raisesBeside 45 = .ok (.imul, 1) := by decide +kernel
theorem dX6_raisesBeside_46 : decode cX6_raisesBeside 46 = .ok (.istore 4, 2) := by decide +kernel
theorem dX6_raisesBeside_48 : decode cX6_raisesBeside 48 = .ok (.iconst 0, 1) := by decide +kernel
theorem dX6_raisesBeside_49 : decode cX6_raisesBeside 49 = .ok (.istore 5, 2) := by decide +kernel
theorem dX6_raisesBeside_51 : decode cX6_raisesBeside 51 = .ok (.iload 5, 2) := by decide +kernel
theorem dX6_raisesBeside_53 : decode cX6_raisesBeside 53 = .ok (.bipush 18, 2) := by decide +kernel
theorem dX6_raisesBeside_55 : decode cX6_raisesBeside 55 = .ok (.if_icmp .ge 33, 3) := by decide +kernel
theorem dX6_raisesBeside_58 : decode cX6_raisesBeside 58 = .ok (.iload 4, 2) := by decide +kernel
theorem dX6_raisesBeside_60 : decode cX6_raisesBeside 60 = .ok (.ifCond .le 28, 3) := by decide +kernel
theorem dX6_raisesBeside_63 : decode cX6_raisesBeside 63 = .ok (.aload_n 0, 1) := by decide +kernel
theorem dX6_raisesBeside_64 : decode cX6_raisesBeside 64 = .ok (.iload_n 1, 1) := by decide +kernel
theorem dX6_raisesBeside_65 : decode cX6_raisesBeside 65 = .ok (.iload 5, 2) := by decide +kernel
theorem dX6_raisesBeside_67 : decode cX6_raisesBeside 67 = .ok (.invokevirtual 71, 3) := by decide +kernel
theorem dX6_raisesBeside_70 : decode cX6_raisesBeside 70 = .ok (.ifCond .eq 12, 3) := by decide +kernel
theorem dX6_raisesBeside_73 : decode cX6_raisesBeside 73 = .ok (.aload_n 0, 1) := by decide +kernel
theorem dX6_raisesBeside_74 : decode cX6_raisesBeside 74 = .ok (.iload 5, 2) := by decide +kernel
theorem dX6_raisesBeside_76 : decode cX6_raisesBeside 76 = .ok (.iload_n 2, 1) := by decide +kernel
theorem dX6_raisesBeside_77 : decode cX6_raisesBeside 77 = .ok (.iload 4, 2) := by decide +kernel
theorem dX6_raisesBeside_79 : decode cX6_raisesBeside 79 = .ok (.invokevirtual 75, 3) := by decide +kernel
theorem dX6_raisesBeside_82 : decode cX6_raisesBeside 82 = .ok (.iinc 5 1, 3) := by decide +kernel
theorem dX6_raisesBeside_85 : decode cX6_raisesBeside 85 = .ok (.goto (-34), 3) := by decide +kernel
theorem dX6_raisesBeside_88 : decode cX6_raisesBeside 88 = .ok (.return_, 1) := by decide +kernel
set_option maxRecDepth 20000 in
theorem ggX6_round_X6_greatestIn : GoodIn wsX6_round wsX6_greatestIn := goodIn_r _ [6, 1, 7, 8, 5, 9, 40, 41, 42, 43, 44, 45, 46, 47, 48, 49] (by decide +kernel) (by decide +kernel)
set_option maxRecDepth 20000 in
theorem gX6_round_X6_greatestIn : GoodIn wsX6_round (wsV RX6 65 RX6 yX6_greatestIn wsX6_greatestIn) := goodIn_app (goodIn_of _ (by decide +kernel)) ggX6_round_X6_greatestIn
set_option maxRecDepth 20000 in
theorem ggX6_round_X6_light : GoodIn wsX6_round wsX6_light := goodIn_r _ [13, 14, 1, 15, 16, 5, 17, 18, 19, 20, 21, 22, 23, 24, 25, 26, 27, 40, 41, 42, 43, 44, 45, 46, 47, 48, 49] (by decide +kernel) (by decide +kernel)
set_option maxRecDepth 20000 in
theorem gX6_round_X6_light : GoodIn wsX6_round (wsV RX6 79 RX6 yX6_light wsX6_light) := goodIn_app (goodIn_of _ (by decide +kernel)) ggX6_round_X6_light
set_option maxRecDepth 20000 in
theorem ggX6_round_X6_raises : GoodIn wsX6_round wsX6_raises := goodIn_r _ [31, 14, 25, 26, 5, 27, 40, 41, 42, 43, 44, 45, 46, 47, 48, 49] (by decide +kernel) (by decide +kernel)
set_option maxRecDepth 20000 in
theorem gX6_round_X6_raises : GoodIn wsX6_round (wsV RX6 75 RX6 yX6_raises wsX6_raises) := goodIn_app (goodIn_of _ (by decide +kernel)) ggX6_round_X6_raises
set_option maxRecDepth 20000 in
theorem ggX6_round_X6_raisesBeside : GoodIn wsX6_round wsX6_raisesBeside := goodIn_r _ [35, 1, 36, 37, 38, 5, 39, 15, 16, 17, 18, 19, 20, 28, 29, 30, 31, 14, 25, 26, 27, 40, 41, 42, 43, 44, 45, 46, 47, 48, 49] (by decide +kernel) (by decide +kernel)
set_option maxRecDepth 20000 in
theorem gX6_round_X6_raisesBeside : GoodIn wsX6_round (wsV RX6 83 RX6 yX6_raisesBeside wsX6_raisesBeside) := goodIn_app (goodIn_of _ (by decide +kernel)) ggX6_round_X6_raisesBeside
theorem dX6_round_0 : decode cX6_round 0 = .ok (.iconst 0, 1) := by decide +kernel
theorem dX6_round_1 : decode cX6_round 1 = .ok (.istore_n 1, 1) := by decide +kernel
theorem dX6_round_2 : decode cX6_round 2 = .ok (.iload_n 1, 1) := by decide +kernel
theorem dX6_round_3 : decode cX6_round 3 = .ok (.bipush 18, 2) := by decide +kernel
theorem dX6_round_5 : decode cX6_round 5 = .ok (.if_icmp .ge 66, 3) := by decide +kernel
theorem dX6_round_8 : decode cX6_round 8 = .ok (.aload_n 0, 1) := by decide +kernel
theorem dX6_round_9 : decode cX6_round 9 = .ok (.iload_n 1, 1) := by decide +kernel
theorem dX6_round_10 : decode cX6_round 10 = .ok (.invokevirtual 65, 3) := by decide +kernel
theorem dX6_round_13 : decode cX6_round 13 = .ok (.aload_n 0, 1) := by decide +kernel
theorem dX6_round_14 : decode cX6_round 14 = .ok (.iload_n 1, 1) := by decide +kernel
theorem dX6_round_15 : decode cX6_round 15 = .ok (.iconst 1, 1) := by decide +kernel
theorem dX6_round_16 : decode cX6_round 16 = .ok (.invokevirtual 79, 3) := by decide +kernel
theorem dX6_round_19 : decode cX6_round 19 = .ok (.isub, 1) := by decide +kernel
theorem dX6_round_20 : decode cX6_round 20 = .ok (.istore_n 2, 1) := by decide +kernel
theorem dX6_round_21 : decode cX6_round 21 = .ok (.iload_n 2, 1) := by decide +kernel
theorem dX6_round_22 : decode cX6_round 22 = .ok (.ifCond .le 33, 3) := by decide +kernel
theorem dX6_round_25 : decode cX6_round 25 = .ok (.aload_n 0, 1) := by decide +kernel
theorem dX6_round_26 : decode cX6_round 26 = .ok (.getfield 7, 3) := by decide +kernel
theorem dX6_round_29 : decode cX6_round 29 = .ok (.sipush 306, 3) := by decide +kernel
theorem dX6_round_32 : decode cX6_round 32 = .ok (.iload_n 1, 1) := by decide +kernel
theorem dX6_round_33 : decode cX6_round 33 = .ok (.iadd, 1) := by decide +kernel
theorem dX6_round_34 : decode cX6_round 34 = .ok (.iaload, 1) := by decide +kernel
theorem dX6_round_35 : decode cX6_round 35 = .ok (.ifCond .ne 20, 3) := by decide +kernel
theorem dX6_round_38 : decode cX6_round 38 = .ok (.aload_n 0, 1) := by decide +kernel
theorem dX6_round_39 : decode cX6_round 39 = .ok (.iload_n 1, 1) := by decide +kernel
theorem dX6_round_40 : decode cX6_round 40 = .ok (.iload_n 2, 1) := by decide +kernel
theorem dX6_round_41 : decode cX6_round 41 = .ok (.aload_n 0, 1) := by decide +kernel
theorem dX6_round_42 : decode cX6_round 42 = .ok (.getfield 7, 3) := by decide +kernel
theorem dX6_round_45 : decode cX6_round 45 = .ok (.sipush 324, 3) := by decide +kernel
theorem dX6_round_48 : decode cX6_round 48 = .ok (.iaload, 1) := by decide +kernel
theorem dX6_round_49 : decode cX6_round 49 = .ok (.invokevirtual 75, 3) := by decide +kernel
theorem dX6_round_52 : decode cX6_round 52 = .ok (.goto 13, 3) := by decide +kernel
theorem dX6_round_55 : decode cX6_round 55 = .ok (.iload_n 2, 1) := by decide +kernel
theorem dX6_round_56 : decode cX6_round 56 = .ok (.ifCond .le 9, 3) := by decide +kernel
theorem dX6_round_59 : decode cX6_round 59 = .ok (.aload_n 0, 1) := by decide +kernel
theorem dX6_round_60 : decode cX6_round 60 = .ok (.iload_n 1, 1) := by decide +kernel
theorem dX6_round_61 : decode cX6_round 61 = .ok (.iload_n 2, 1) := by decide +kernel
theorem dX6_round_62 : decode cX6_round 62 = .ok (.invokevirtual 83, 3) := by decide +kernel
theorem dX6_round_65 : decode cX6_round 65 = .ok (.iinc 1 1, 3) := by decide +kernel
theorem dX6_round_68 : decode cX6_round 68 = .ok (.goto (-66), 3) := by decide +kernel
theorem dX6_round_71 : decode cX6_round 71 = .ok (.return_, 1) := by decide +kernel
set_option maxRecDepth 20000 in
theorem ggX6_wants_X6_beginning : GoodIn wsX6_wants wsX6_beginning := goodIn_r _ [7, 2, 8, 9, 10, 6, 11, 12, 13, 14, 15, 16, 17, 18, 19, 20, 21, 60, 61, 62, 63, 64, 65, 66, 67, 68, 69] (by decide +kernel) (by decide +kernel)
set_option maxRecDepth 20000 in
theorem gX6_wants_X6_beginning : GoodIn wsX6_wants (wsV RX6 87 RX6 yX6_beginning wsX6_beginning) := goodIn_app (goodIn_of _ (by decide +kernel)) ggX6_wants_X6_beginning
set_option maxRecDepth 20000 in
theorem ggX6_wants_X6_round : GoodIn wsX6_wants wsX6_round := goodIn_r _ [25, 2, 8, 9, 10, 6, 11, 12, 13, 14, 26, 27, 28, 29, 1, 30, 31, 32, 33, 34, 35, 36, 37, 38, 39, 19, 20, 21, 40, 41, 42, 43, 44, 45, 46, 47, 48, 49, 50, 51, 60, 61, 62, 63, 64, 65, 66, 67, 68, 69] (by decide +kernel) (by decide +kernel)
set_option maxRecDepth 20000 in
theorem gX6_wants_X6_round : GoodIn wsX6_wants (wsV RX6 90 RX6 yX6_round wsX6_round) := goodIn_app (goodIn_of _ (by decide +kernel)) ggX6_wants_X6_round
set_option maxRecDepth 20000 in
theorem ggX6_wants_X6_hasBlack : GoodIn wsX6_wants wsX6_hasBlack := goodIn_r _ [55, 2, 12, 13, 6, 14, 60, 61, 62, 63, 64, 65, 66, 67, 68, 69] (by decide +kernel) (by decide +kernel)
set_option maxRecDepth 20000 in
theorem gX6_wants_X6_hasBlack : GoodIn wsX6_wants (wsV RX6 93 RX6 yX6_hasBlack wsX6_hasBlack) := goodIn_app (goodIn_of _ (by decide +kernel)) ggX6_wants_X6_hasBlack
set_option maxRecDepth 20000 in
theorem ggX6_wants_X6_light : GoodIn wsX6_wants wsX6_light := goodIn_r _ [29, 1, 2, 30, 31, 6, 32, 33, 34, 35, 36, 37, 38, 39, 19, 20, 21, 60, 61, 62, 63, 64, 65, 66, 67, 68, 69] (by decide +kernel) (by decide +kernel)
set_option maxRecDepth 20000 in
theorem gX6_wants_X6_light : GoodIn wsX6_wants (wsV RX6 79 RX6 yX6_light wsX6_light) := goodIn_app (goodIn_of _ (by decide +kernel)) ggX6_wants_X6_light
set_option maxRecDepth 20000 in
theorem ggX6_wants_X6_leakOf : GoodIn wsX6_wants wsX6_leakOf := goodIn_r _ [59, 2, 60, 61, 62, 63, 64, 65, 66, 67, 68, 69] (by decide +kernel) (by decide +kernel)
set_option maxRecDepth 20000 in
theorem gX6_wants_X6_leakOf : GoodIn wsX6_wants (wsV RX6 59 RX6 yX6_leakOf wsX6_leakOf) := goodIn_app (goodIn_of _ (by decide +kernel)) ggX6_wants_X6_leakOf
theorem dX6_wants_0 : decode cX6_wants 0 = .ok (.iconst 0, 1) := by decide +kernel
theorem dX6_wants_1 : decode cX6_wants 1 = .ok (.istore_n 2, 1) := by decide +kernel
theorem dX6_wants_2 : decode cX6_wants 2 = .ok (.iload_n 2, 1) := by decide +kernel
theorem dX6_wants_3 : decode cX6_wants 3 = .ok (.bipush 18, 2) := by decide +kernel
theorem dX6_wants_5 : decode cX6_wants 5 = .ok (.if_icmp .ge 39, 3) := by decide +kernel
theorem dX6_wants_8 : decode cX6_wants 8 = .ok (.aload_n 0, 1) := by decide +kernel
theorem dX6_wants_9 : decode cX6_wants 9 = .ok (.getfield 19, 3) := by decide +kernel
theorem dX6_wants_12 : decode cX6_wants 12 = .ok (.iload_n 2, 1) := by decide +kernel
theorem dX6_wants_13 : decode cX6_wants 13 = .ok (.aload_n 0, 1) := by decide +kernel
theorem dX6_wants_14 : decode cX6_wants 14 = .ok (.getfield 7, 3) := by decide +kernel
theorem dX6_wants_17 : decode cX6_wants 17 = .ok (.sipush 306, 3) := by decide +kernel
theorem dX6_wants_20 : decode cX6_wants 20 = .ok (.iload_n 2, 1) := by decide +kernel
theorem dX6_wants_21 : decode cX6_wants 21 = .ok (.iadd, 1) := by decide +kernel
theorem dX6_wants_22 : decode cX6_wants 22 = .ok (.iaload, 1) := by decide +kernel
theorem dX6_wants_23 : decode cX6_wants 23 = .ok (.iconst 1, 1) := by decide +kernel
theorem dX6_wants_24 : decode cX6_wants 24 = .ok (.if_icmp .ne 7, 3) := by decide +kernel
theorem dX6_wants_27 : decode cX6_wants 27 = .ok (.iconst 0, 1) := by decide +kernel
theorem dX6_wants_28 : decode cX6_wants 28 = .ok (.goto 9, 3) := by decide +kernel
theorem dX6_wants_31 : decode cX6_wants 31 = .ok (.aload_n 0, 1) := by decide +kernel
theorem dX6_wants_32 : decode cX6_wants 32 = .ok (.iload_n 2, 1) := by decide +kernel
theorem dX6_wants_33 : decode cX6_wants 33 = .ok (.iload_n 1, 1) := by decide +kernel
theorem dX6_wants_34 : decode cX6_wants 34 = .ok (.invokevirtual 87, 3) := by decide +kernel
theorem dX6_wants_37 : decode cX6_wants 37 = .ok (.iastore, 1) := by decide +kernel
theorem dX6_wants_38 : decode cX6_wants 38 = .ok (.iinc 2 1, 3) := by decide +kernel
theorem dX6_wants_41 : decode cX6_wants 41 = .ok (.goto (-39), 3) := by decide +kernel
theorem dX6_wants_44 : decode cX6_wants 44 = .ok (.iconst 0, 1) := by decide +kernel
theorem dX6_wants_45 : decode cX6_wants 45 = .ok (.istore_n 2, 1) := by decide +kernel
theorem dX6_wants_46 : decode cX6_wants 46 = .ok (.iload_n 2, 1) := by decide +kernel
theorem dX6_wants_47 : decode cX6_wants 47 = .ok (.aload_n 0, 1) := by decide +kernel
theorem dX6_wants_48 : decode cX6_wants 48 = .ok (.getfield 7, 3) := by decide +kernel
theorem dX6_wants_51 : decode cX6_wants 51 = .ok (.sipush 328, 3) := by decide +kernel
theorem dX6_wants_54 : decode cX6_wants 54 = .ok (.iaload, 1) := by decide +kernel
theorem dX6_wants_55 : decode cX6_wants 55 = .ok (.if_icmp .ge 13, 3) := by decide +kernel
theorem dX6_wants_58 : decode cX6_wants 58 = .ok (.aload_n 0, 1) := by decide +kernel
theorem dX6_wants_59 : decode cX6_wants 59 = .ok (.invokevirtual 90, 3) := by decide +kernel
theorem dX6_wants_62 : decode cX6_wants 62 = .ok (.iinc 2 1, 3) := by decide +kernel
theorem dX6_wants_65 : decode cX6_wants 65 = .ok (.goto (-19), 3) := by decide +kernel
theorem dX6_wants_68 : decode cX6_wants 68 = .ok (.iconst 0, 1) := by decide +kernel
theorem dX6_wants_69 : decode cX6_wants 69 = .ok (.istore_n 2, 1) := by decide +kernel
theorem dX6_wants_70 : decode cX6_wants 70 = .ok (.iload_n 2, 1) := by decide +kernel
theorem dX6_wants_71 : decode cX6_wants 71 = .ok (.bipush 18, 2) := by decide +kernel
theorem dX6_wants_73 : decode cX6_wants 73 = .ok (.if_icmp .ge 62, 3) := by decide +kernel
theorem dX6_wants_76 : decode cX6_wants 76 = .ok (.aload_n 0, 1) := by decide +kernel
theorem dX6_wants_77 : decode cX6_wants 77 = .ok (.iload_n 2, 1) := by decide +kernel
theorem dX6_wants_78 : decode cX6_wants 78 = .ok (.invokevirtual 93, 3) := by decide +kernel
theorem dX6_wants_81 : decode cX6_wants 81 = .ok (.istore_n 3, 1) := by decide +kernel
theorem dX6_wants_82 : decode cX6_wants 82 = .ok (.iload_n 3, 1) := by decide +kernel
theorem dX6_wants_83 : decode cX6_wants 83 = .ok (.ifCond .eq 46, 3) := by decide +kernel
theorem dX6_wants_86 : decode cX6_wants 86 = .ok (.aload_n 0, 1) := by decide +kernel
theorem dX6_wants_87 : decode cX6_wants 87 = .ok (.getfield 19, 3) := by decide +kernel
theorem dX6_wants_90 : decode cX6_wants 90 = .ok (.iload_n 2, 1) := by decide +kernel
theorem dX6_wants_91 : decode cX6_wants 91 = .ok (.iaload, 1) := by decide +kernel
theorem dX6_wants_92 : decode cX6_wants 92 = .ok (.ifCond .le 37, 3) := by decide +kernel
theorem dX6_wants_95 : decode cX6_wants 95 = .ok (.aload_n 0, 1) := by decide +kernel
theorem dX6_wants_96 : decode cX6_wants 96 = .ok (.aload_n 0, 1) := by decide +kernel
theorem dX6_wants_97 : decode cX6_wants 97 = .ok (.iload_n 2, 1) := by decide +kernel
theorem dX6_wants_98 : decode cX6_wants 98 = .ok (.iconst 1, 1) := by decide +kernel
theorem dX6_wants_99 : decode cX6_wants 99 = .ok (.invokevirtual 79, 3) := by decide +kernel
theorem dX6_wants_102 : decode cX6_wants 102 = .ok (.invokevirtual 59, 3) := by decide +kernel
theorem dX6_wants_105 : decode cX6_wants 105 = .ok (.aload_n 0, 1) := by decide +kernel
theorem dX6_wants_106 : decode cX6_wants 106 = .ok (.getfield 7, 3) := by decide +kernel
theorem dX6_wants_109 : decode cX6_wants 109 = .ok (.sipush 330, 3) := by decide +kernel
theorem dX6_wants_112 : decode cX6_wants 112 = .ok (.iaload, 1) := by decide +kernel
theorem dX6_wants_113 : decode cX6_wants 113 = .ok (.if_icmp .le 16, 3) := by decide +kernel
theorem dX6_wants_116 : decode cX6_wants 116 = .ok (.aload_n 0, 1) := by decide +kernel
theorem dX6_wants_117 : decode cX6_wants 117 = .ok (.getfield 19, 3) := by decide +kernel
theorem dX6_wants_120 : decode cX6_wants 120 = .ok (.iload_n 2, 1) := by decide +kernel
theorem dX6_wants_121 : decode cX6_wants 121 = .ok (.dup2, 1) := by decide +kernel
theorem dX6_wants_122 : decode cX6_wants 122 = .ok (.iaload, 1) := by decide +kernel
theorem dX6_wants_123 : decode cX6_wants 123 = .ok (.iconst 1, 1) := by decide +kernel
theorem dX6_wants_124 : decode cX6_wants 124 = .ok (.isub, 1) := by decide +kernel
theorem dX6_wants_125 : decode cX6_wants 125 = .ok (.iastore, 1) := by decide +kernel
theorem dX6_wants_126 : decode cX6_wants 126 = .ok (.goto (-44), 3) := by decide +kernel
theorem dX6_wants_129 : decode cX6_wants 129 = .ok (.iinc 2 1, 3) := by decide +kernel
theorem dX6_wants_132 : decode cX6_wants 132 = .ok (.goto (-62), 3) := by decide +kernel
theorem dX6_wants_135 : decode cX6_wants 135 = .ok (.return_, 1) := by decide +kernel
set_option maxRecDepth 20000 in
theorem ggX6_over_X6_light : GoodIn wsX6_over wsX6_light := goodIn_r _ [6, 7, 1, 8, 9, 5, 10, 11, 12, 13, 14, 15, 16, 17, 18, 19, 20, 35, 36, 37, 38, 39, 40, 41, 42, 43, 44] (by decide +kernel) (by decide +kernel)
set_option maxRecDepth 20000 in
theorem gX6_over_X6_light : GoodIn wsX6_over (wsV RX6 79 RX6 yX6_light wsX6_light) := goodIn_app (goodIn_of _ (by decide +kernel)) ggX6_over_X6_light
set_option maxRecDepth 20000 in
theorem ggX6_over_X6_spotIn : GoodIn wsX6_over wsX6_spotIn := goodIn_r _ [23] (by decide +kernel) (by decide +kernel)
set_option maxRecDepth 20000 in
theorem gX6_over_X6_spotIn : GoodIn wsX6_over (va_wsS RX6 62 yX6_spotIn wsX6_spotIn) := goodIn_app (goodIn_of _ (by decide +kernel)) ggX6_over_X6_spotIn
set_option maxRecDepth 20000 in
theorem ggX6_over_X6_shown : GoodIn wsX6_over wsX6_shown := goodIn_r _ [27, 28, 29, 5, 30, 18, 19, 20, 31, 32, 33, 34, 1, 35, 36, 37, 38, 39, 40, 41, 42, 43, 44] (by decide +kernel) (by decide +kernel)
set_option maxRecDepth 20000 in
theorem gX6_over_X6_shown : GoodIn wsX6_over (wsV RX6 97 RX6 yX6_shown wsX6_shown) := goodIn_app (goodIn_of _ (by decide +kernel)) ggX6_over_X6_shown
set_option maxRecDepth 20000 in
theorem ggX6_over_X6_off : GoodIn wsX6_over wsX6_off := goodIn_r _ [13] (by decide +kernel) (by decide +kernel)
set_option maxRecDepth 20000 in
theorem gX6_over_X6_off : GoodIn wsX6_over (va_wsS RX6 42 yX6_off wsX6_off) := goodIn_app (goodIn_of _ (by decide +kernel)) ggX6_over_X6_off
theorem dX6_over_0 : decode cX6_over 0 = .ok (.iconst 0, 1) := by decide +kernel
theorem dX6_over_1 : decode cX6_over 1 = .ok (.istore 4, 2) := by decide +kernel
theorem dX6_over_3 : decode cX6_over 3 = .ok (.iconst 0, 1) := by decide +kernel
theorem dX6_over_4 : decode cX6_over 4 = .ok (.istore 5, 2) := by decide +kernel
theorem dX6_over_6 : decode cX6_over 6 = .ok (.iload 5, 2) := by decide +kernel
theorem dX6_over_8 : decode cX6_over 8 = .ok (.bipush 18, 2) := by decide +kernel
theorem dX6_over_10 : decode cX6_over 10 = .ok (.if_icmp .ge 179, 3) := by decide +kernel
theorem dX6_over_13 : decode cX6_over 13 = .ok (.iload_n 1, 1) := by decide +kernel
theorem dX6_over_14 : decode cX6_over 14 = .ok (.bipush (-5), 2) := by decide +kernel
theorem dX6_over_16 : decode cX6_over 16 = .ok (.if_icmp .eq 9, 3) := by decide +kernel
theorem dX6_over_19 : decode cX6_over 19 = .ok (.iload_n 1, 1) := by decide +kernel
theorem dX6_over_20 : decode cX6_over 20 = .ok (.iload 5, 2) := by decide +kernel
theorem dX6_over_22 : decode cX6_over 22 = .ok (.if_icmp .ne 13, 3) := by decide +kernel
theorem dX6_over_25 : decode cX6_over 25 = .ok (.aload_n 0, 1) := by decide +kernel
theorem dX6_over_26 : decode cX6_over 26 = .ok (.iload 5, 2) := by decide +kernel
theorem dX6_over_28 : decode cX6_over 28 = .ok (.iload_n 3, 1) := by decide +kernel
theorem dX6_over_29 : decode cX6_over 29 = .ok (.invokevirtual 79, 3) := by decide +kernel
theorem dX6_over_32 : decode cX6_over 32 = .ok (.goto 4, 3) := by decide +kernel
theorem dX6_over_35 : decode cX6_over 35 = .ok (.iconst 0, 1) := by decide +kernel
theorem dX6_over_36 : decode cX6_over 36 = .ok (.istore 6, 2) := by decide +kernel
theorem dX6_over_38 : decode cX6_over 38 = .ok (.iconst 0, 1) := by decide +kernel
theorem dX6_over_39 : decode cX6_over 39 = .ok (.istore 7, 2) := by decide +kernel
theorem dX6_over_41 : decode cX6_over 41 = .ok (.iload 7, 2) := by decide +kernel
theorem dX6_over_43 : decode cX6_over 43 = .ok (.bipush 16, 2) := by decide +kernel
theorem dX6_over_45 : decode cX6_over 45 = .ok (.if_icmp .ge 138, 3) := by decide +kernel
theorem dX6_over_48 : decode cX6_over 48 = .ok (.iload_n 1, 1) := by decide +kernel
theorem dX6_over_49 : decode cX6_over 49 = .ok (.bipush (-5), 2) := by decide +kernel
theorem dX6_over_51 : decode cX6_over 51 = .ok (.if_icmp .eq 9, 3) := by decide +kernel
theorem dX6_over_54 : decode cX6_over 54 = .ok (.iload_n 1, 1) := by decide +kernel
theorem dX6_over_55 : decode cX6_over 55 = .ok (.iload 5, 2) := by decide +kernel
theorem dX6_over_57 : decode cX6_over 57 = .ok (.if_icmp .ne 126, 3) := by decide +kernel
theorem dX6_over_60 : decode cX6_over 60 = .ok (.aload_n 0, 1) := by decide +kernel
theorem dX6_over_61 : decode cX6_over 61 = .ok (.getfield 7, 3) := by decide +kernel
theorem dX6_over_64 : decode cX6_over 64 = .ok (.iload 5, 2) := by decide +kernel
theorem dX6_over_66 : decode cX6_over 66 = .ok (.iload 7, 2) := by decide +kernel
theorem dX6_over_68 : decode cX6_over 68 = .ok (.invokestatic 62, 3) := by decide +kernel
theorem dX6_over_71 : decode cX6_over 71 = .ok (.iaload, 1) := by decide +kernel
theorem dX6_over_72 : decode cX6_over 72 = .ok (.istore 8, 2) := by decide +kernel
theorem dX6_over_74 : decode cX6_over 74 = .ok (.aload_n 0, 1) := by decide +kernel
theorem dX6_over_75 : decode cX6_over 75 = .ok (.iload 8, 2) := by decide +kernel
theorem dX6_over_77 : decode cX6_over 77 = .ok (.iload 6, 2) := by decide +kernel
theorem dX6_over_79 : decode cX6_over 79 = .ok (.invokevirtual 97, 3) := by decide +kernel
theorem dX6_over_82 : decode cX6_over 82 = .ok (.istore 9, 2) := by decide +kernel
theorem dX6_over_84 : decode cX6_over 84 = .ok (.iload 9, 2) := by decide +kernel
theorem dX6_over_86 : decode cX6_over 86 = .ok (.iload 8, 2) := by decide +kernel
theorem dX6_over_88 : decode cX6_over 88 = .ok (.isub, 1) := by decide +kernel
theorem dX6_over_89 : decode cX6_over 89 = .ok (.invokestatic 42, 3) := by decide +kernel
theorem dX6_over_92 : decode cX6_over 92 = .ok (.istore 10, 2) := by decide +kernel
theorem dX6_over_94 : decode cX6_over 94 = .ok (.iload 9, 2) := by decide +kernel
theorem dX6_over_96 : decode cX6_over 96 = .ok (.iload 8, 2) := by decide +kernel
theorem dX6_over_98 : decode cX6_over 98 = .ok (.if_icmp .ne 7, 3) := by decide +kernel
theorem dX6_over_101 : decode cX6_over 101 = .ok (.iconst 0, 1) := by decide +kernel
theorem dX6_over_102 : decode cX6_over 102 = .ok (.goto 15, 3) := by decide +kernel
theorem dX6_over_105 : decode cX6_over 105 = .ok (.iload 9, 2) := by decide +kernel
theorem dX6_over_107 : decode cX6_over 107 = .ok (.iload 8, 2) := by decide +kernel
theorem dX6_over_109 : decode cX6_over 109 = .ok (.if_icmp .ge 7, 3) := by decide +kernel
theorem dX6_over_112 : decode cX6_over 112 = .ok (.iconst 1, 1) := by decide +kernel
theorem dX6_over_113 : decode cX6_over 113 = .ok (.goto 4, 3) := by decide +kernel
theorem dX6_over_116 : decode cX6_over 116 = .ok (.iconst 2, 1) := by decide +kernel
theorem dX6_over_117 : decode cX6_over 117 = .ok (.istore 11, 2) := by decide +kernel
theorem dX6_over_119 : decode cX6_over 119 = .ok (.iload_n 2, 1) := by decide +kernel
theorem dX6_over_120 : decode cX6_over 120 = .ok (.iconst 4, 1) := by decide +kernel
theorem dX6_over_121 : decode cX6_over 121 = .ok (.if_icmp .ne 20, 3) := by decide +kernel
theorem dX6_over_124 : decode cX6_over 124 = .ok (.iload 10, 2) := by decide +kernel
theorem dX6_over_126 : decode cX6_over 126 = .ok (.iload 4, 2) := by decide +kernel
theorem dX6_over_128 : decode cX6_over 128 = .ok (.if_icmp .le 8, 3) := by decide +kernel
theorem dX6_over_131 : decode cX6_over 131 = .ok (.iload 10, 2) := by decide +kernel
theorem dX6_over_133 : decode cX6_over 133 = .ok (.goto 42, 3) := by decide +kernel
theorem dX6_over_136 : decode cX6_over 136 = .ok (.iload 4, 2) := by decide +kernel
theorem dX6_over_138 : decode cX6_over 138 = .ok (.goto 37, 3) := by decide +kernel
theorem dX6_over_141 : decode cX6_over 141 = .ok (.iload 4, 2) := by decide +kernel
theorem dX6_over_143 : decode cX6_over 143 = .ok (.iload_n 2, 1) := by decide +kernel
theorem dX6_over_144 : decode cX6_over 144 = .ok (.iconst 3, 1) := by decide +kernel
theorem dX6_over_145 : decode cX6_over 145 = .ok (.if_icmp .ne 8, 3) := by decide +kernel
theorem dX6_over_148 : decode cX6_over 148 = .ok (.iload 10, 2) := by decide +kernel
theorem dX6_over_150 : decode cX6_over 150 = .ok (.goto 24, 3) := by decide +kernel
theorem dX6_over_153 : decode cX6_over 153 = .ok (.iload_n 2, 1) := by decide +kernel
theorem dX6_over_154 : decode cX6_over 154 = .ok (.iconst 5, 1) := by decide +kernel
theorem dX6_over_155 : decode cX6_over 155 = .ok (.if_icmp .ne 8, 3) := by decide +kernel
theorem dX6_over_158 : decode cX6_over 158 = .ok (.iload 9, 2) := by decide +kernel
theorem dX6_over_160 : decode cX6_over 160 = .ok (.goto 14, 3) := by decide +kernel
theorem dX6_over_163 : decode cX6_over 163 = .ok (.iload 11, 2) := by decide +kernel
theorem dX6_over_165 : decode cX6_over 165 = .ok (.iload_n 2, 1) := by decide +kernel
theorem dX6_over_166 : decode cX6_over 166 = .ok (.if_icmp .ne 7, 3) := by decide +kernel
theorem dX6_over_169 : decode cX6_over 169 = .ok (.iconst 1, 1) := by decide +kernel
theorem dX6_over_170 : decode cX6_over 170 = .ok (.goto 4, 3) := by decide +kernel
theorem dX6_over_173 : decode cX6_over 173 = .ok (.iconst 0, 1) := by decide +kernel
theorem dX6_over_174 : decode cX6_over 174 = .ok (.iadd, 1) := by decide +kernel
theorem dX6_over_175 : decode cX6_over 175 = .ok (.istore 4, 2) := by decide +kernel
theorem dX6_over_177 : decode cX6_over 177 = .ok (.iinc 7 1, 3) := by decide +kernel
theorem dX6_over_180 : decode cX6_over 180 = .ok (.goto (-139), 3) := by decide +kernel
theorem dX6_over_183 : decode cX6_over 183 = .ok (.iinc 5 1, 3) := by decide +kernel
theorem dX6_over_186 : decode cX6_over 186 = .ok (.goto (-180), 3) := by decide +kernel
theorem dX6_over_189 : decode cX6_over 189 = .ok (.iload 4, 2) := by decide +kernel
theorem dX6_over_191 : decode cX6_over 191 = .ok (.ireturn, 1) := by decide +kernel
theorem dX6_power_0 : decode cX6_power 0 = .ok (.iconst 0, 1) := by decide +kernel
theorem dX6_power_1 : decode cX6_power 1 = .ok (.istore_n 2, 1) := by decide +kernel
theorem dX6_power_2 : decode cX6_power 2 = .ok (.iconst 0, 1) := by decide +kernel
theorem dX6_power_3 : decode cX6_power 3 = .ok (.istore_n 3, 1) := by decide +kernel
theorem dX6_power_4 : decode cX6_power 4 = .ok (.iload_n 3, 1) := by decide +kernel
theorem dX6_power_5 : decode cX6_power 5 = .ok (.bipush 18, 2) := by decide +kernel
theorem dX6_power_7 : decode cX6_power 7 = .ok (.if_icmp .ge 35, 3) := by decide +kernel
theorem dX6_power_10 : decode cX6_power 10 = .ok (.iload_n 2, 1) := by decide +kernel
theorem dX6_power_11 : decode cX6_power 11 = .ok (.iload_n 1, 1) := by decide +kernel
theorem dX6_power_12 : decode cX6_power 12 = .ok (.ifCond .eq 12, 3) := by decide +kernel
theorem dX6_power_15 : decode cX6_power 15 = .ok (.aload_n 0, 1) := by decide +kernel
theorem dX6_power_16 : decode cX6_power 16 = .ok (.getfield 19, 3) := by decide +kernel
theorem dX6_power_19 : decode cX6_power 19 = .ok (.iload_n 3, 1) := by decide +kernel
theorem dX6_power_20 : decode cX6_power 20 = .ok (.iaload, 1) := by decide +kernel
theorem dX6_power_21 : decode cX6_power 21 = .ok (.goto 13, 3) := by decide +kernel
theorem dX6_power_24 : decode cX6_power 24 = .ok (.aload_n 0, 1) := by decide +kernel
theorem dX6_power_25 : decode cX6_power 25 = .ok (.getfield 7, 3) := by decide +kernel
theorem dX6_power_28 : decode cX6_power 28 = .ok (.sipush 288, 3) := by decide +kernel
theorem dX6_power_31 : decode cX6_power 31 = .ok (.iload_n 3, 1) := by decide +kernel
theorem dX6_power_32 : decode cX6_power 32 = .ok (.iadd, 1) := by decide +kernel
theorem dX6_power_33 : decode cX6_power 33 = .ok (.iaload, 1) := by decide +kernel
theorem dX6_power_34 : decode cX6_power 34 = .ok (.iadd, 1) := by decide +kernel
theorem dX6_power_35 : decode cX6_power 35 = .ok (.istore_n 2, 1) := by decide +kernel
theorem dX6_power_36 : decode cX6_power 36 = .ok (.iinc 3 1, 3) := by decide +kernel
theorem dX6_power_39 : decode cX6_power 39 = .ok (.goto (-35), 3) := by decide +kernel
theorem dX6_power_42 : decode cX6_power 42 = .ok (.iload_n 2, 1) := by decide +kernel
theorem dX6_power_43 : decode cX6_power 43 = .ok (.ireturn, 1) := by decide +kernel
set_option maxRecDepth 20000 in
theorem ggX6_farthest_X6_wants : GoodIn wsX6_farthest wsX6_wants := goodIn_r _ [7, 2, 1, 8, 9, 10, 6, 11, 12, 13, 14, 15, 16, 17, 18, 19, 20, 21, 22, 23, 24, 25, 26, 27, 28, 29, 30, 31, 32, 33, 34, 35, 36, 37, 38, 39, 40, 41, 42, 43, 44, 45, 46, 47, 48, 49, 50, 51, 52, 53, 54, 55, 56, 57, 58, 59, 60, 61, 62, 63, 64, 65, 66, 67, 68, 69, 70, 71, 72, 73] (by decide +kernel) (by decide +kernel)
set_option maxRecDepth 20000 in
theorem gX6_farthest_X6_wants : GoodIn wsX6_farthest (wsV RX6 100 RX6 yX6_wants wsX6_wants) := goodIn_app (goodIn_of _ (by decide +kernel)) ggX6_farthest_X6_wants
set_option maxRecDepth 20000 in
theorem ggX6_farthest_X6_off : GoodIn wsX6_farthest wsX6_off := goodIn_r _ [39] (by decide +kernel) (by decide +kernel)
set_option maxRecDepth 20000 in
theorem gX6_farthest_X6_off : GoodIn wsX6_farthest (va_wsS RX6 42 yX6_off wsX6_off) := goodIn_app (goodIn_of _ (by decide +kernel)) ggX6_farthest_X6_off
theorem dX6_farthest_0 : decode cX6_farthest 0 = .ok (.aload_n 0, 1) := by decide +kernel
theorem dX6_farthest_1 : decode cX6_farthest 1 = .ok (.aload_n 0, 1) := by decide +kernel
theorem dX6_farthest_2 : decode cX6_farthest 2 = .ok (.getfield 7, 3) := by decide +kernel
theorem dX6_farthest_5 : decode cX6_farthest 5 = .ok (.sipush 327, 3) := by decide +kernel
theorem dX6_farthest_8 : decode cX6_farthest 8 = .ok (.iaload, 1) := by decide +kernel
theorem dX6_farthest_9 : decode cX6_farthest 9 = .ok (.invokevirtual 100, 3) := by decide +kernel
theorem dX6_farthest_12 : decode cX6_farthest 12 = .ok (.iconst 0, 1) := by decide +kernel
theorem dX6_farthest_13 : decode cX6_farthest 13 = .ok (.istore_n 1, 1) := by decide +kernel
theorem dX6_farthest_14 : decode cX6_farthest 14 = .ok (.iconst 0, 1) := by decide +kernel
theorem dX6_farthest_15 : decode cX6_farthest 15 = .ok (.istore_n 2, 1) := by decide +kernel
theorem dX6_farthest_16 : decode cX6_farthest 16 = .ok (.iload_n 2, 1) := by decide +kernel
theorem dX6_farthest_17 : decode cX6_farthest 17 = .ok (.bipush 18, 2) := by decide +kernel
theorem dX6_farthest_19 : decode cX6_farthest 19 = .ok (.if_icmp .ge 41, 3) := by decide +kernel
theorem dX6_farthest_22 : decode cX6_farthest 22 = .ok (.aload_n 0, 1) := by decide +kernel
theorem dX6_farthest_23 : decode cX6_farthest 23 = .ok (.getfield 19, 3) := by decide +kernel
theorem dX6_farthest_26 : decode cX6_farthest 26 = .ok (.iload_n 2, 1) := by decide +kernel
theorem dX6_farthest_27 : decode cX6_farthest 27 = .ok (.iaload, 1) := by decide +kernel
