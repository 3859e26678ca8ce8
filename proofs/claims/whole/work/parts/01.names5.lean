theorem dX6_farthest_28 : decode cX6_farthest 28 = .ok (.aload_n 0, 1) := by decide +kernel
theorem dX6_farthest_29 : decode cX6_farthest 29 = .ok (.getfield 7, 3) := by decide +kernel
theorem dX6_farthest_32 : decode cX6_farthest 32 = .ok (.sipush 288, 3) := by decide +kernel
theorem dX6_farthest_35 : decode cX6_farthest 35 = .ok (.iload_n 2, 1) := by decide +kernel
theorem dX6_farthest_36 : decode cX6_farthest 36 = .ok (.iadd, 1) := by decide +kernel
theorem dX6_farthest_37 : decode cX6_farthest 37 = .ok (.iaload, 1) := by decide +kernel
theorem dX6_farthest_38 : decode cX6_farthest 38 = .ok (.isub, 1) := by decide +kernel
theorem dX6_farthest_39 : decode cX6_farthest 39 = .ok (.invokestatic 42, 3) := by decide +kernel
theorem dX6_farthest_42 : decode cX6_farthest 42 = .ok (.istore_n 3, 1) := by decide +kernel
theorem dX6_farthest_43 : decode cX6_farthest 43 = .ok (.iload_n 3, 1) := by decide +kernel
theorem dX6_farthest_44 : decode cX6_farthest 44 = .ok (.iload_n 1, 1) := by decide +kernel
theorem dX6_farthest_45 : decode cX6_farthest 45 = .ok (.if_icmp .le 7, 3) := by decide +kernel
theorem dX6_farthest_48 : decode cX6_farthest 48 = .ok (.iload_n 3, 1) := by decide +kernel
theorem dX6_farthest_49 : decode cX6_farthest 49 = .ok (.goto 4, 3) := by decide +kernel
theorem dX6_farthest_52 : decode cX6_farthest 52 = .ok (.iload_n 1, 1) := by decide +kernel
theorem dX6_farthest_53 : decode cX6_farthest 53 = .ok (.istore_n 1, 1) := by decide +kernel
theorem dX6_farthest_54 : decode cX6_farthest 54 = .ok (.iinc 2 1, 3) := by decide +kernel
theorem dX6_farthest_57 : decode cX6_farthest 57 = .ok (.goto (-41), 3) := by decide +kernel
theorem dX6_farthest_60 : decode cX6_farthest 60 = .ok (.iload_n 1, 1) := by decide +kernel
theorem dX6_farthest_61 : decode cX6_farthest 61 = .ok (.ireturn, 1) := by decide +kernel
set_option maxRecDepth 20000 in
theorem ggX6_ask_X6_isSpot : GoodIn wsX6_ask wsX6_isSpot := goodIn_r _ [6, 7, 8, 9, 10, 5, 11] (by decide +kernel) (by decide +kernel)
set_option maxRecDepth 20000 in
theorem gX6_ask_X6_isSpot : GoodIn wsX6_ask (va_wsS RX6 104 yX6_isSpot wsX6_isSpot) := goodIn_app (goodIn_of _ (by decide +kernel)) ggX6_ask_X6_isSpot
set_option maxRecDepth 20000 in
theorem ggX6_ask_X6_in : GoodIn wsX6_ask wsX6_in := goodIn_r _ [11] (by decide +kernel) (by decide +kernel)
set_option maxRecDepth 20000 in
theorem gX6_ask_X6_in : GoodIn wsX6_ask (va_wsS RX6 34 yX6_in wsX6_in) := goodIn_app (goodIn_of _ (by decide +kernel)) ggX6_ask_X6_in
set_option maxRecDepth 20000 in
theorem ggX6_ask_X6_acts : GoodIn wsX6_ask wsX6_acts := goodIn_r _ [15, 16, 17, 2, 18, 19, 20, 21, 22, 23, 24, 25, 26, 27] (by decide +kernel) (by decide +kernel)
set_option maxRecDepth 20000 in
theorem gX6_ask_X6_acts : GoodIn wsX6_ask (wsV RX6 109 RX6 yX6_acts wsX6_acts) := goodIn_app (goodIn_of _ (by decide +kernel)) ggX6_ask_X6_acts
theorem dX6_ask_0 : decode cX6_ask 0 = .ok (.iload_n 1, 1) := by decide +kernel
theorem dX6_ask_1 : decode cX6_ask 1 = .ok (.iload_n 2, 1) := by decide +kernel
theorem dX6_ask_2 : decode cX6_ask 2 = .ok (.invokestatic 104, 3) := by decide +kernel
theorem dX6_ask_5 : decode cX6_ask 5 = .ok (.ifCond .ne 5, 3) := by decide +kernel
theorem dX6_ask_8 : decode cX6_ask 8 = .ok (.iconst (-1), 1) := by decide +kernel
theorem dX6_ask_9 : decode cX6_ask 9 = .ok (.ireturn, 1) := by decide +kernel
theorem dX6_ask_10 : decode cX6_ask 10 = .ok (.iload_n 3, 1) := by decide +kernel
theorem dX6_ask_11 : decode cX6_ask 11 = .ok (.i2l, 1) := by decide +kernel
theorem dX6_ask_12 : decode cX6_ask 12 = .ok (.lconst 0, 1) := by decide +kernel
theorem dX6_ask_13 : decode cX6_ask 13 = .ok (.ldc2_w 107, 3) := by decide +kernel
theorem dX6_ask_16 : decode cX6_ask 16 = .ok (.invokestatic 34, 3) := by decide +kernel
theorem dX6_ask_19 : decode cX6_ask 19 = .ok (.ifCond .ne 6, 3) := by decide +kernel
theorem dX6_ask_22 : decode cX6_ask 22 = .ok (.bipush (-2), 2) := by decide +kernel
theorem dX6_ask_24 : decode cX6_ask 24 = .ok (.ireturn, 1) := by decide +kernel
theorem dX6_ask_25 : decode cX6_ask 25 = .ok (.aload_n 0, 1) := by decide +kernel
theorem dX6_ask_26 : decode cX6_ask 26 = .ok (.getfield 7, 3) := by decide +kernel
theorem dX6_ask_29 : decode cX6_ask 29 = .ok (.bipush 24, 2) := by decide +kernel
theorem dX6_ask_31 : decode cX6_ask 31 = .ok (.iload_n 2, 1) := by decide +kernel
theorem dX6_ask_32 : decode cX6_ask 32 = .ok (.imul, 1) := by decide +kernel
theorem dX6_ask_33 : decode cX6_ask 33 = .ok (.iload_n 1, 1) := by decide +kernel
theorem dX6_ask_34 : decode cX6_ask 34 = .ok (.iadd, 1) := by decide +kernel
theorem dX6_ask_35 : decode cX6_ask 35 = .ok (.iaload, 1) := by decide +kernel
theorem dX6_ask_36 : decode cX6_ask 36 = .ok (.istore 4, 2) := by decide +kernel
theorem dX6_ask_38 : decode cX6_ask 38 = .ok (.iload 4, 2) := by decide +kernel
theorem dX6_ask_40 : decode cX6_ask 40 = .ok (.iload_n 3, 1) := by decide +kernel
theorem dX6_ask_41 : decode cX6_ask 41 = .ok (.if_icmp .ne 6, 3) := by decide +kernel
theorem dX6_ask_44 : decode cX6_ask 44 = .ok (.bipush (-5), 2) := by decide +kernel
theorem dX6_ask_46 : decode cX6_ask 46 = .ok (.ireturn, 1) := by decide +kernel
theorem dX6_ask_47 : decode cX6_ask 47 = .ok (.aload_n 0, 1) := by decide +kernel
theorem dX6_ask_48 : decode cX6_ask 48 = .ok (.invokevirtual 109, 3) := by decide +kernel
theorem dX6_ask_51 : decode cX6_ask 51 = .ok (.aload_n 0, 1) := by decide +kernel
theorem dX6_ask_52 : decode cX6_ask 52 = .ok (.getfield 7, 3) := by decide +kernel
theorem dX6_ask_55 : decode cX6_ask 55 = .ok (.bipush 24, 2) := by decide +kernel
theorem dX6_ask_57 : decode cX6_ask 57 = .ok (.iload_n 2, 1) := by decide +kernel
theorem dX6_ask_58 : decode cX6_ask 58 = .ok (.imul, 1) := by decide +kernel
theorem dX6_ask_59 : decode cX6_ask 59 = .ok (.iload_n 1, 1) := by decide +kernel
theorem dX6_ask_60 : decode cX6_ask 60 = .ok (.iadd, 1) := by decide +kernel
theorem dX6_ask_61 : decode cX6_ask 61 = .ok (.iload_n 3, 1) := by decide +kernel
theorem dX6_ask_62 : decode cX6_ask 62 = .ok (.iastore, 1) := by decide +kernel
theorem dX6_ask_63 : decode cX6_ask 63 = .ok (.iload 4, 2) := by decide +kernel
theorem dX6_ask_65 : decode cX6_ask 65 = .ok (.ireturn, 1) := by decide +kernel
theorem dX6_otherSpots_0 : decode cX6_otherSpots 0 = .ok (.iconst 0, 1) := by decide +kernel
theorem dX6_otherSpots_1 : decode cX6_otherSpots 1 = .ok (.istore_n 1, 1) := by decide +kernel
theorem dX6_otherSpots_2 : decode cX6_otherSpots 2 = .ok (.iconst 0, 1) := by decide +kernel
theorem dX6_otherSpots_3 : decode cX6_otherSpots 3 = .ok (.istore_n 2, 1) := by decide +kernel
theorem dX6_otherSpots_4 : decode cX6_otherSpots 4 = .ok (.iload_n 2, 1) := by decide +kernel
theorem dX6_otherSpots_5 : decode cX6_otherSpots 5 = .ok (.sipush 288, 3) := by decide +kernel
theorem dX6_otherSpots_8 : decode cX6_otherSpots 8 = .ok (.if_icmp .ge 43, 3) := by decide +kernel
theorem dX6_otherSpots_11 : decode cX6_otherSpots 11 = .ok (.iload_n 1, 1) := by decide +kernel
theorem dX6_otherSpots_12 : decode cX6_otherSpots 12 = .ok (.aload_n 0, 1) := by decide +kernel
theorem dX6_otherSpots_13 : decode cX6_otherSpots 13 = .ok (.getfield 7, 3) := by decide +kernel
theorem dX6_otherSpots_16 : decode cX6_otherSpots 16 = .ok (.iload_n 2, 1) := by decide +kernel
theorem dX6_otherSpots_17 : decode cX6_otherSpots 17 = .ok (.iaload, 1) := by decide +kernel
theorem dX6_otherSpots_18 : decode cX6_otherSpots 18 = .ok (.aload_n 0, 1) := by decide +kernel
theorem dX6_otherSpots_19 : decode cX6_otherSpots 19 = .ok (.getfield 13, 3) := by decide +kernel
theorem dX6_otherSpots_22 : decode cX6_otherSpots 22 = .ok (.sipush 335, 3) := by decide +kernel
theorem dX6_otherSpots_25 : decode cX6_otherSpots 25 = .ok (.aload_n 0, 1) := by decide +kernel
theorem dX6_otherSpots_26 : decode cX6_otherSpots 26 = .ok (.getfield 28, 3) := by decide +kernel
theorem dX6_otherSpots_29 : decode cX6_otherSpots 29 = .ok (.iconst 1, 1) := by decide +kernel
theorem dX6_otherSpots_30 : decode cX6_otherSpots 30 = .ok (.isub, 1) := by decide +kernel
theorem dX6_otherSpots_31 : decode cX6_otherSpots 31 = .ok (.imul, 1) := by decide +kernel
theorem dX6_otherSpots_32 : decode cX6_otherSpots 32 = .ok (.iload_n 2, 1) := by decide +kernel
theorem dX6_otherSpots_33 : decode cX6_otherSpots 33 = .ok (.iadd, 1) := by decide +kernel
theorem dX6_otherSpots_34 : decode cX6_otherSpots 34 = .ok (.iaload, 1) := by decide +kernel
theorem dX6_otherSpots_35 : decode cX6_otherSpots 35 = .ok (.if_icmp .ne 7, 3) := by decide +kernel
theorem dX6_otherSpots_38 : decode cX6_otherSpots 38 = .ok (.iconst 0, 1) := by decide +kernel
theorem dX6_otherSpots_39 : decode cX6_otherSpots 39 = .ok (.goto 4, 3) := by decide +kernel
theorem dX6_otherSpots_42 : decode cX6_otherSpots 42 = .ok (.iconst 1, 1) := by decide +kernel
theorem dX6_otherSpots_43 : decode cX6_otherSpots 43 = .ok (.iadd, 1) := by decide +kernel
theorem dX6_otherSpots_44 : decode cX6_otherSpots 44 = .ok (.istore_n 1, 1) := by decide +kernel
theorem dX6_otherSpots_45 : decode cX6_otherSpots 45 = .ok (.iinc 2 1, 3) := by decide +kernel
theorem dX6_otherSpots_48 : decode cX6_otherSpots 48 = .ok (.goto (-44), 3) := by decide +kernel
theorem dX6_otherSpots_51 : decode cX6_otherSpots 51 = .ok (.iload_n 1, 1) := by decide +kernel
theorem dX6_otherSpots_52 : decode cX6_otherSpots 52 = .ok (.ireturn, 1) := by decide +kernel
set_option maxRecDepth 20000 in
theorem ggX6_move_X6_in : GoodIn wsX6_move wsX6_in := goodIn_r _ [8] (by decide +kernel) (by decide +kernel)
set_option maxRecDepth 20000 in
theorem gX6_move_X6_in : GoodIn wsX6_move (va_wsS RX6 34 yX6_in wsX6_in) := goodIn_app (goodIn_of _ (by decide +kernel)) ggX6_move_X6_in
set_option maxRecDepth 20000 in
theorem ggX6_move_X6_acts : GoodIn wsX6_move wsX6_acts := goodIn_r _ [12, 2, 4, 3, 22, 23, 24, 25, 26, 27, 28, 29, 30, 31] (by decide +kernel) (by decide +kernel)
set_option maxRecDepth 20000 in
theorem gX6_move_X6_acts : GoodIn wsX6_move (wsV RX6 109 RX6 yX6_acts wsX6_acts) := goodIn_app (goodIn_of _ (by decide +kernel)) ggX6_move_X6_acts
set_option maxRecDepth 20000 in
theorem ggX6_move_X6_isSpot : GoodIn wsX6_move wsX6_isSpot := goodIn_r _ [15, 16, 17, 5, 6, 7, 8] (by decide +kernel) (by decide +kernel)
set_option maxRecDepth 20000 in
theorem gX6_move_X6_isSpot : GoodIn wsX6_move (va_wsS RX6 104 yX6_isSpot wsX6_isSpot) := goodIn_app (goodIn_of _ (by decide +kernel)) ggX6_move_X6_isSpot
set_option maxRecDepth 20000 in
theorem ggX6_move_X6_otherSpots : GoodIn wsX6_move wsX6_otherSpots := goodIn_r _ [21, 3, 4, 2, 22, 23, 24, 25, 26, 27, 28, 29, 30, 31] (by decide +kernel) (by decide +kernel)
set_option maxRecDepth 20000 in
theorem gX6_move_X6_otherSpots : GoodIn wsX6_move (wsV RX6 114 RX6 yX6_otherSpots wsX6_otherSpots) := goodIn_app (goodIn_of _ (by decide +kernel)) ggX6_move_X6_otherSpots
theorem dX6_move_0 : decode cX6_move 0 = .ok (.iload_n 1, 1) := by decide +kernel
theorem dX6_move_1 : decode cX6_move 1 = .ok (.i2l, 1) := by decide +kernel
theorem dX6_move_2 : decode cX6_move 2 = .ok (.lconst 0, 1) := by decide +kernel
theorem dX6_move_3 : decode cX6_move 3 = .ok (.ldc2_w 112, 3) := by decide +kernel
theorem dX6_move_6 : decode cX6_move 6 = .ok (.invokestatic 34, 3) := by decide +kernel
theorem dX6_move_9 : decode cX6_move 9 = .ok (.ifCond .ne 6, 3) := by decide +kernel
theorem dX6_move_12 : decode cX6_move 12 = .ok (.bipush (-2), 2) := by decide +kernel
theorem dX6_move_14 : decode cX6_move 14 = .ok (.ireturn, 1) := by decide +kernel
theorem dX6_move_15 : decode cX6_move 15 = .ok (.aload_n 0, 1) := by decide +kernel
theorem dX6_move_16 : decode cX6_move 16 = .ok (.invokevirtual 109, 3) := by decide +kernel
theorem dX6_move_19 : decode cX6_move 19 = .ok (.sipush 335, 3) := by decide +kernel
theorem dX6_move_22 : decode cX6_move 22 = .ok (.aload_n 0, 1) := by decide +kernel
theorem dX6_move_23 : decode cX6_move 23 = .ok (.getfield 28, 3) := by decide +kernel
theorem dX6_move_26 : decode cX6_move 26 = .ok (.iconst 1, 1) := by decide +kernel
theorem dX6_move_27 : decode cX6_move 27 = .ok (.isub, 1) := by decide +kernel
theorem dX6_move_28 : decode cX6_move 28 = .ok (.imul, 1) := by decide +kernel
theorem dX6_move_29 : decode cX6_move 29 = .ok (.istore_n 2, 1) := by decide +kernel
theorem dX6_move_30 : decode cX6_move 30 = .ok (.iconst 0, 1) := by decide +kernel
theorem dX6_move_31 : decode cX6_move 31 = .ok (.istore_n 3, 1) := by decide +kernel
theorem dX6_move_32 : decode cX6_move 32 = .ok (.iload_n 3, 1) := by decide +kernel
theorem dX6_move_33 : decode cX6_move 33 = .ok (.sipush 288, 3) := by decide +kernel
theorem dX6_move_36 : decode cX6_move 36 = .ok (.if_icmp .ge 95, 3) := by decide +kernel
theorem dX6_move_39 : decode cX6_move 39 = .ok (.iload_n 3, 1) := by decide +kernel
theorem dX6_move_40 : decode cX6_move 40 = .ok (.bipush 24, 2) := by decide +kernel
theorem dX6_move_42 : decode cX6_move 42 = .ok (.irem, 1) := by decide +kernel
theorem dX6_move_43 : decode cX6_move 43 = .ok (.iload_n 1, 1) := by decide +kernel
theorem dX6_move_44 : decode cX6_move 44 = .ok (.ifCond .ne 7, 3) := by decide +kernel
theorem dX6_move_47 : decode cX6_move 47 = .ok (.iconst 1, 1) := by decide +kernel
theorem dX6_move_48 : decode cX6_move 48 = .ok (.goto 13, 3) := by decide +kernel
theorem dX6_move_51 : decode cX6_move 51 = .ok (.iload_n 1, 1) := by decide +kernel
theorem dX6_move_52 : decode cX6_move 52 = .ok (.iconst 1, 1) := by decide +kernel
theorem dX6_move_53 : decode cX6_move 53 = .ok (.if_icmp .ne 7, 3) := by decide +kernel
theorem dX6_move_56 : decode cX6_move 56 = .ok (.iconst (-1), 1) := by decide +kernel
theorem dX6_move_57 : decode cX6_move 57 = .ok (.goto 4, 3) := by decide +kernel
theorem dX6_move_60 : decode cX6_move 60 = .ok (.iconst 0, 1) := by decide +kernel
theorem dX6_move_61 : decode cX6_move 61 = .ok (.iadd, 1) := by decide +kernel
theorem dX6_move_62 : decode cX6_move 62 = .ok (.istore 4, 2) := by decide +kernel
theorem dX6_move_64 : decode cX6_move 64 = .ok (.iload_n 3, 1) := by decide +kernel
theorem dX6_move_65 : decode cX6_move 65 = .ok (.bipush 24, 2) := by decide +kernel
theorem dX6_move_67 : decode cX6_move 67 = .ok (.idiv, 1) := by decide +kernel
theorem dX6_move_68 : decode cX6_move 68 = .ok (.iload_n 1, 1) := by decide +kernel
theorem dX6_move_69 : decode cX6_move 69 = .ok (.iconst 2, 1) := by decide +kernel
theorem dX6_move_70 : decode cX6_move 70 = .ok (.if_icmp .ne 7, 3) := by decide +kernel
theorem dX6_move_73 : decode cX6_move 73 = .ok (.iconst 1, 1) := by decide +kernel
theorem dX6_move_74 : decode cX6_move 74 = .ok (.goto 13, 3) := by decide +kernel
theorem dX6_move_77 : decode cX6_move 77 = .ok (.iload_n 1, 1) := by decide +kernel
theorem dX6_move_78 : decode cX6_move 78 = .ok (.iconst 3, 1) := by decide +kernel
theorem dX6_move_79 : decode cX6_move 79 = .ok (.if_icmp .ne 7, 3) := by decide +kernel
theorem dX6_move_82 : decode cX6_move 82 = .ok (.iconst (-1), 1) := by decide +kernel
theorem dX6_move_83 : decode cX6_move 83 = .ok (.goto 4, 3) := by decide +kernel
theorem dX6_move_86 : decode cX6_move 86 = .ok (.iconst 0, 1) := by decide +kernel
theorem dX6_move_87 : decode cX6_move 87 = .ok (.iadd, 1) := by decide +kernel
theorem dX6_move_88 : decode cX6_move 88 = .ok (.istore 5, 2) := by decide +kernel
theorem dX6_move_90 : decode cX6_move 90 = .ok (.aload_n 0, 1) := by decide +kernel
theorem dX6_move_91 : decode cX6_move 91 = .ok (.getfield 7, 3) := by decide +kernel
theorem dX6_move_94 : decode cX6_move 94 = .ok (.iload_n 3, 1) := by decide +kernel
theorem dX6_move_95 : decode cX6_move 95 = .ok (.iload 4, 2) := by decide +kernel
theorem dX6_move_97 : decode cX6_move 97 = .ok (.iload 5, 2) := by decide +kernel
theorem dX6_move_99 : decode cX6_move 99 = .ok (.invokestatic 104, 3) := by decide +kernel
theorem dX6_move_102 : decode cX6_move 102 = .ok (.ifCond .eq 21, 3) := by decide +kernel
theorem dX6_move_105 : decode cX6_move 105 = .ok (.aload_n 0, 1) := by decide +kernel
theorem dX6_move_106 : decode cX6_move 106 = .ok (.getfield 13, 3) := by decide +kernel
theorem dX6_move_109 : decode cX6_move 109 = .ok (.iload_n 2, 1) := by decide +kernel
theorem dX6_move_110 : decode cX6_move 110 = .ok (.bipush 24, 2) := by decide +kernel
theorem dX6_move_112 : decode cX6_move 112 = .ok (.iload 5, 2) := by decide +kernel
theorem dX6_move_114 : decode cX6_move 114 = .ok (.imul, 1) := by decide +kernel
theorem dX6_move_115 : decode cX6_move 115 = .ok (.iadd, 1) := by decide +kernel
theorem dX6_move_116 : decode cX6_move 116 = .ok (.iload 4, 2) := by decide +kernel
theorem dX6_move_118 : decode cX6_move 118 = .ok (.iadd, 1) := by decide +kernel
theorem dX6_move_119 : decode cX6_move 119 = .ok (.iaload, 1) := by decide +kernel
theorem dX6_move_120 : decode cX6_move 120 = .ok (.goto 4, 3) := by decide +kernel
theorem dX6_move_123 : decode cX6_move 123 = .ok (.iconst 0, 1) := by decide +kernel
theorem dX6_move_124 : decode cX6_move 124 = .ok (.iastore, 1) := by decide +kernel
theorem dX6_move_125 : decode cX6_move 125 = .ok (.iinc 3 1, 3) := by decide +kernel
theorem dX6_move_128 : decode cX6_move 128 = .ok (.goto (-96), 3) := by decide +kernel
theorem dX6_move_131 : decode cX6_move 131 = .ok (.aload_n 0, 1) := by decide +kernel
theorem dX6_move_132 : decode cX6_move 132 = .ok (.invokevirtual 114, 3) := by decide +kernel
theorem dX6_move_135 : decode cX6_move 135 = .ok (.ireturn, 1) := by decide +kernel
set_option maxRecDepth 20000 in
theorem ggX6_kill_X6_isZone : GoodIn wsX6_kill wsX6_isZone := goodIn_r _ [5, 6, 7, 8, 4, 9] (by decide +kernel) (by decide +kernel)
set_option maxRecDepth 20000 in
theorem gX6_kill_X6_isZone : GoodIn wsX6_kill (va_wsS RX6 118 yX6_isZone wsX6_isZone) := goodIn_app (goodIn_of _ (by decide +kernel)) ggX6_kill_X6_isZone
set_option maxRecDepth 20000 in
theorem ggX6_kill_X6_acts : GoodIn wsX6_kill wsX6_acts := goodIn_r _ [13, 14, 15, 1, 16, 17, 18, 19, 20, 21, 22, 23, 24, 25] (by decide +kernel) (by decide +kernel)
set_option maxRecDepth 20000 in
theorem gX6_kill_X6_acts : GoodIn wsX6_kill (wsV RX6 109 RX6 yX6_acts wsX6_acts) := goodIn_app (goodIn_of _ (by decide +kernel)) ggX6_kill_X6_acts
theorem dX6_kill_0 : decode cX6_kill 0 = .ok (.iload_n 1, 1) := by decide +kernel
theorem dX6_kill_1 : decode cX6_kill 1 = .ok (.invokestatic 118, 3) := by decide +kernel
theorem dX6_kill_4 : decode cX6_kill 4 = .ok (.ifCond .ne 5, 3) := by decide +kernel
theorem dX6_kill_7 : decode cX6_kill 7 = .ok (.iconst (-1), 1) := by decide +kernel
theorem dX6_kill_8 : decode cX6_kill 8 = .ok (.ireturn, 1) := by decide +kernel
theorem dX6_kill_9 : decode cX6_kill 9 = .ok (.iload_n 2, 1) := by decide +kernel
theorem dX6_kill_10 : decode cX6_kill 10 = .ok (.ifCond .eq 7, 3) := by decide +kernel
theorem dX6_kill_13 : decode cX6_kill 13 = .ok (.iconst 1, 1) := by decide +kernel
theorem dX6_kill_14 : decode cX6_kill 14 = .ok (.goto 4, 3) := by decide +kernel
theorem dX6_kill_17 : decode cX6_kill 17 = .ok (.iconst 0, 1) := by decide +kernel
theorem dX6_kill_18 : decode cX6_kill 18 = .ok (.istore_n 3, 1) := by decide +kernel
theorem dX6_kill_19 : decode cX6_kill 19 = .ok (.aload_n 0, 1) := by decide +kernel
theorem dX6_kill_20 : decode cX6_kill 20 = .ok (.getfield 7, 3) := by decide +kernel
theorem dX6_kill_23 : decode cX6_kill 23 = .ok (.sipush 306, 3) := by decide +kernel
theorem dX6_kill_26 : decode cX6_kill 26 = .ok (.iload_n 1, 1) := by decide +kernel
theorem dX6_kill_27 : decode cX6_kill 27 = .ok (.iadd, 1) := by decide +kernel
theorem dX6_kill_28 : decode cX6_kill 28 = .ok (.iaload, 1) := by decide +kernel
theorem dX6_kill_29 : decode cX6_kill 29 = .ok (.iload_n 3, 1) := by decide +kernel
theorem dX6_kill_30 : decode cX6_kill 30 = .ok (.if_icmp .ne 6, 3) := by decide +kernel
theorem dX6_kill_33 : decode cX6_kill 33 = .ok (.bipush (-5), 2) := by decide +kernel
theorem dX6_kill_35 : decode cX6_kill 35 = .ok (.ireturn, 1) := by decide +kernel
theorem dX6_kill_36 : decode cX6_kill 36 = .ok (.aload_n 0, 1) := by decide +kernel
theorem dX6_kill_37 : decode cX6_kill 37 = .ok (.invokevirtual 109, 3) := by decide +kernel
theorem dX6_kill_40 : decode cX6_kill 40 = .ok (.aload_n 0, 1) := by decide +kernel
theorem dX6_kill_41 : decode cX6_kill 41 = .ok (.getfield 7, 3) := by decide +kernel
theorem dX6_kill_44 : decode cX6_kill 44 = .ok (.sipush 288, 3) := by decide +kernel
theorem dX6_kill_47 : decode cX6_kill 47 = .ok (.iload_n 1, 1) := by decide +kernel
theorem dX6_kill_48 : decode cX6_kill 48 = .ok (.iadd, 1) := by decide +kernel
theorem dX6_kill_49 : decode cX6_kill 49 = .ok (.iaload, 1) := by decide +kernel
theorem dX6_kill_50 : decode cX6_kill 50 = .ok (.istore 4, 2) := by decide +kernel
theorem dX6_kill_52 : decode cX6_kill 52 = .ok (.aload_n 0, 1) := by decide +kernel
theorem dX6_kill_53 : decode cX6_kill 53 = .ok (.getfield 7, 3) := by decide +kernel
theorem dX6_kill_56 : decode cX6_kill 56 = .ok (.sipush 306, 3) := by decide +kernel
theorem dX6_kill_59 : decode cX6_kill 59 = .ok (.iload_n 1, 1) := by decide +kernel
theorem dX6_kill_60 : decode cX6_kill 60 = .ok (.iadd, 1) := by decide +kernel
theorem dX6_kill_61 : decode cX6_kill 61 = .ok (.iload_n 3, 1) := by decide +kernel
theorem dX6_kill_62 : decode cX6_kill 62 = .ok (.iastore, 1) := by decide +kernel
theorem dX6_kill_63 : decode cX6_kill 63 = .ok (.aload_n 0, 1) := by decide +kernel
theorem dX6_kill_64 : decode cX6_kill 64 = .ok (.getfield 7, 3) := by decide +kernel
theorem dX6_kill_67 : decode cX6_kill 67 = .ok (.sipush 288, 3) := by decide +kernel
theorem dX6_kill_70 : decode cX6_kill 70 = .ok (.iload_n 1, 1) := by decide +kernel
theorem dX6_kill_71 : decode cX6_kill 71 = .ok (.iadd, 1) := by decide +kernel
theorem dX6_kill_72 : decode cX6_kill 72 = .ok (.iconst 0, 1) := by decide +kernel
theorem dX6_kill_73 : decode cX6_kill 73 = .ok (.iastore, 1) := by decide +kernel
theorem dX6_kill_74 : decode cX6_kill 74 = .ok (.iload 4, 2) := by decide +kernel
theorem dX6_kill_76 : decode cX6_kill 76 = .ok (.ireturn, 1) := by decide +kernel
set_option maxRecDepth 20000 in
theorem ggX6_frame_X6_off : GoodIn wsX6_frame wsX6_off := goodIn_r _ [6] (by decide +kernel) (by decide +kernel)
set_option maxRecDepth 20000 in
theorem gX6_frame_X6_off : GoodIn wsX6_frame (va_wsS RX6 42 yX6_off wsX6_off) := goodIn_app (goodIn_of _ (by decide +kernel)) ggX6_frame_X6_off
set_option maxRecDepth 20000 in
theorem ggX6_frame_X6_power : GoodIn wsX6_frame wsX6_power := goodIn_r _ [10, 1, 2, 11, 12, 13, 14, 15, 16, 17, 18, 19, 20] (by decide +kernel) (by decide +kernel)
set_option maxRecDepth 20000 in
theorem gX6_frame_X6_power : GoodIn wsX6_frame (wsV RX6 121 RX6 yX6_power wsX6_power) := goodIn_app (goodIn_of _ (by decide +kernel)) ggX6_frame_X6_power
theorem dX6_frame_0 : decode cX6_frame 0 = .ok (.iconst 0, 1) := by decide +kernel
theorem dX6_frame_1 : decode cX6_frame 1 = .ok (.istore_n 1, 1) := by decide +kernel
theorem dX6_frame_2 : decode cX6_frame 2 = .ok (.iload_n 1, 1) := by decide +kernel
theorem dX6_frame_3 : decode cX6_frame 3 = .ok (.bipush 18, 2) := by decide +kernel
theorem dX6_frame_5 : decode cX6_frame 5 = .ok (.if_icmp .ge 106, 3) := by decide +kernel
theorem dX6_frame_8 : decode cX6_frame 8 = .ok (.aload_n 0, 1) := by decide +kernel
theorem dX6_frame_9 : decode cX6_frame 9 = .ok (.getfield 19, 3) := by decide +kernel
theorem dX6_frame_12 : decode cX6_frame 12 = .ok (.iload_n 1, 1) := by decide +kernel
theorem dX6_frame_13 : decode cX6_frame 13 = .ok (.iaload, 1) := by decide +kernel
theorem dX6_frame_14 : decode cX6_frame 14 = .ok (.aload_n 0, 1) := by decide +kernel
theorem dX6_frame_15 : decode cX6_frame 15 = .ok (.getfield 7, 3) := by decide +kernel
theorem dX6_frame_18 : decode cX6_frame 18 = .ok (.sipush 288, 3) := by decide +kernel
theorem dX6_frame_21 : decode cX6_frame 21 = .ok (.iload_n 1, 1) := by decide +kernel
theorem dX6_frame_22 : decode cX6_frame 22 = .ok (.iadd, 1) := by decide +kernel
theorem dX6_frame_23 : decode cX6_frame 23 = .ok (.iaload, 1) := by decide +kernel
theorem dX6_frame_24 : decode cX6_frame 24 = .ok (.isub, 1) := by decide +kernel
theorem dX6_frame_25 : decode cX6_frame 25 = .ok (.istore_n 2, 1) := by decide +kernel
theorem dX6_frame_26 : decode cX6_frame 26 = .ok (.iload_n 2, 1) := by decide +kernel
theorem dX6_frame_27 : decode cX6_frame 27 = .ok (.aload_n 0, 1) := by decide +kernel
theorem dX6_frame_28 : decode cX6_frame 28 = .ok (.getfield 7, 3) := by decide +kernel
theorem dX6_frame_31 : decode cX6_frame 31 = .ok (.sipush 331, 3) := by decide +kernel
theorem dX6_frame_34 : decode cX6_frame 34 = .ok (.iaload, 1) := by decide +kernel
theorem dX6_frame_35 : decode cX6_frame 35 = .ok (.if_icmp .le 14, 3) := by decide +kernel
theorem dX6_frame_38 : decode cX6_frame 38 = .ok (.aload_n 0, 1) := by decide +kernel
theorem dX6_frame_39 : decode cX6_frame 39 = .ok (.getfield 7, 3) := by decide +kernel
theorem dX6_frame_42 : decode cX6_frame 42 = .ok (.sipush 331, 3) := by decide +kernel
theorem dX6_frame_45 : decode cX6_frame 45 = .ok (.iaload, 1) := by decide +kernel
theorem dX6_frame_46 : decode cX6_frame 46 = .ok (.goto 29, 3) := by decide +kernel
theorem dX6_frame_49 : decode cX6_frame 49 = .ok (.iload_n 2, 1) := by decide +kernel
theorem dX6_frame_50 : decode cX6_frame 50 = .ok (.aload_n 0, 1) := by decide +kernel
theorem dX6_frame_51 : decode cX6_frame 51 = .ok (.getfield 7, 3) := by decide +kernel
theorem dX6_frame_54 : decode cX6_frame 54 = .ok (.sipush 331, 3) := by decide +kernel
theorem dX6_frame_57 : decode cX6_frame 57 = .ok (.iaload, 1) := by decide +kernel
theorem dX6_frame_58 : decode cX6_frame 58 = .ok (.ineg, 1) := by decide +kernel
theorem dX6_frame_59 : decode cX6_frame 59 = .ok (.if_icmp .ge 15, 3) := by decide +kernel
theorem dX6_frame_62 : decode cX6_frame 62 = .ok (.aload_n 0, 1) := by decide +kernel
theorem dX6_frame_63 : decode cX6_frame 63 = .ok (.getfield 7, 3) := by decide +kernel
theorem dX6_frame_66 : decode cX6_frame 66 = .ok (.sipush 331, 3) := by decide +kernel
theorem dX6_frame_69 : decode cX6_frame 69 = .ok (.iaload, 1) := by decide +kernel
theorem dX6_frame_70 : decode cX6_frame 70 = .ok (.ineg, 1) := by decide +kernel
theorem dX6_frame_71 : decode cX6_frame 71 = .ok (.goto 4, 3) := by decide +kernel
theorem dX6_frame_74 : decode cX6_frame 74 = .ok (.iload_n 2, 1) := by decide +kernel
theorem dX6_frame_75 : decode cX6_frame 75 = .ok (.istore_n 3, 1) := by decide +kernel
theorem dX6_frame_76 : decode cX6_frame 76 = .ok (.aload_n 0, 1) := by decide +kernel
theorem dX6_frame_77 : decode cX6_frame 77 = .ok (.getfield 7, 3) := by decide +kernel
theorem dX6_frame_80 : decode cX6_frame 80 = .ok (.sipush 288, 3) := by decide +kernel
theorem dX6_frame_83 : decode cX6_frame 83 = .ok (.iload_n 1, 1) := by decide +kernel
theorem dX6_frame_84 : decode cX6_frame 84 = .ok (.iadd, 1) := by decide +kernel
theorem dX6_frame_85 : decode cX6_frame 85 = .ok (.dup2, 1) := by decide +kernel
theorem dX6_frame_86 : decode cX6_frame 86 = .ok (.iaload, 1) := by decide +kernel
theorem dX6_frame_87 : decode cX6_frame 87 = .ok (.iload_n 3, 1) := by decide +kernel
theorem dX6_frame_88 : decode cX6_frame 88 = .ok (.iadd, 1) := by decide +kernel
theorem dX6_frame_89 : decode cX6_frame 89 = .ok (.iastore, 1) := by decide +kernel
theorem dX6_frame_90 : decode cX6_frame 90 = .ok (.aload_n 0, 1) := by decide +kernel
theorem dX6_frame_91 : decode cX6_frame 91 = .ok (.getfield 7, 3) := by decide +kernel
theorem dX6_frame_94 : decode cX6_frame 94 = .ok (.sipush 333, 3) := by decide +kernel
theorem dX6_frame_97 : decode cX6_frame 97 = .ok (.dup2, 1) := by decide +kernel
theorem dX6_frame_98 : decode cX6_frame 98 = .ok (.iaload, 1) := by decide +kernel
theorem dX6_frame_99 : decode cX6_frame 99 = .ok (.iload_n 3, 1) := by decide +kernel
theorem dX6_frame_100 : decode cX6_frame 100 = .ok (.invokestatic 42, 3) := by decide +kernel
theorem dX6_frame_103 : decode cX6_frame 103 = .ok (.iadd, 1) := by decide +kernel
theorem dX6_frame_104 : decode cX6_frame 104 = .ok (.iastore, 1) := by decide +kernel
theorem dX6_frame_105 : decode cX6_frame 105 = .ok (.iinc 1 1, 3) := by decide +kernel
theorem dX6_frame_108 : decode cX6_frame 108 = .ok (.goto (-106), 3) := by decide +kernel
theorem dX6_frame_111 : decode cX6_frame 111 = .ok (.aload_n 0, 1) := by decide +kernel
theorem dX6_frame_112 : decode cX6_frame 112 = .ok (.getfield 7, 3) := by decide +kernel
theorem dX6_frame_115 : decode cX6_frame 115 = .ok (.sipush 332, 3) := by decide +kernel
theorem dX6_frame_118 : decode cX6_frame 118 = .ok (.dup2, 1) := by decide +kernel
theorem dX6_frame_119 : decode cX6_frame 119 = .ok (.iaload, 1) := by decide +kernel
theorem dX6_frame_120 : decode cX6_frame 120 = .ok (.iconst 1, 1) := by decide +kernel
theorem dX6_frame_121 : decode cX6_frame 121 = .ok (.iadd, 1) := by decide +kernel
theorem dX6_frame_122 : decode cX6_frame 122 = .ok (.iastore, 1) := by decide +kernel
theorem dX6_frame_123 : decode cX6_frame 123 = .ok (.aload_n 0, 1) := by decide +kernel
theorem dX6_frame_124 : decode cX6_frame 124 = .ok (.getfield 7, 3) := by decide +kernel
theorem dX6_frame_127 : decode cX6_frame 127 = .ok (.sipush 334, 3) := by decide +kernel
theorem dX6_frame_130 : decode cX6_frame 130 = .ok (.dup2, 1) := by decide +kernel
theorem dX6_frame_131 : decode cX6_frame 131 = .ok (.iaload, 1) := by decide +kernel
theorem dX6_frame_132 : decode cX6_frame 132 = .ok (.aload_n 0, 1) := by decide +kernel
theorem dX6_frame_133 : decode cX6_frame 133 = .ok (.iconst 0, 1) := by decide +kernel
theorem dX6_frame_134 : decode cX6_frame 134 = .ok (.invokevirtual 121, 3) := by decide +kernel
theorem dX6_frame_137 : decode cX6_frame 137 = .ok (.iadd, 1) := by decide +kernel
theorem dX6_frame_138 : decode cX6_frame 138 = .ok (.iastore, 1) := by decide +kernel
theorem dX6_frame_139 : decode cX6_frame 139 = .ok (.return_, 1) := by decide +kernel
set_option maxRecDepth 20000 in
theorem ggX6_pass_X6_in : GoodIn wsX6_pass wsX6_in := goodIn_r _ [6] (by decide +kernel) (by decide +kernel)
set_option maxRecDepth 20000 in
theorem gX6_pass_X6_in : GoodIn wsX6_pass (va_wsS RX6 34 yX6_in wsX6_in) := goodIn_app (goodIn_of _ (by decide +kernel)) ggX6_pass_X6_in
set_option maxRecDepth 20000 in
theorem ggX6_pass_X6_acts : GoodIn wsX6_pass wsX6_acts := goodIn_r _ [10, 11, 12, 2, 82, 83, 84, 85, 86, 87, 88, 89, 90, 91] (by decide +kernel) (by decide +kernel)
set_option maxRecDepth 20000 in
theorem gX6_pass_X6_acts : GoodIn wsX6_pass (wsV RX6 109 RX6 yX6_acts wsX6_acts) := goodIn_app (goodIn_of _ (by decide +kernel)) ggX6_pass_X6_acts
set_option maxRecDepth 20000 in
theorem ggX6_pass_X6_wants : GoodIn wsX6_pass wsX6_wants := goodIn_r _ [16, 17, 2, 18, 19, 20, 5, 21, 22, 23, 24, 25, 26, 27, 28, 29, 30, 31, 32, 33, 34, 35, 36, 37, 38, 39, 40, 41, 42, 43, 44, 45, 46, 47, 48, 49, 50, 51, 52, 53, 54, 55, 56, 57, 58, 59, 60, 61, 62, 63, 64, 65, 66, 67, 68, 69, 70, 71, 72, 73, 82, 83, 84, 85, 86, 87, 88, 89, 90, 91] (by decide +kernel) (by decide +kernel)
set_option maxRecDepth 20000 in
theorem gX6_pass_X6_wants : GoodIn wsX6_pass (wsV RX6 100 RX6 yX6_wants wsX6_wants) := goodIn_app (goodIn_of _ (by decide +kernel)) ggX6_pass_X6_wants
set_option maxRecDepth 20000 in
theorem ggX6_pass_X6_frame : GoodIn wsX6_pass wsX6_frame := goodIn_r _ [77, 17, 2, 47, 48, 5, 49, 78, 79, 80, 81, 82, 83, 84, 85, 86, 87, 88, 89, 90, 91] (by decide +kernel) (by decide +kernel)
set_option maxRecDepth 20000 in
theorem gX6_pass_X6_frame : GoodIn wsX6_pass (wsV RX6 127 RX6 yX6_frame wsX6_frame) := goodIn_app (goodIn_of _ (by decide +kernel)) ggX6_pass_X6_frame
set_option maxRecDepth 20000 in
theorem ggX6_pass_X6_power : GoodIn wsX6_pass wsX6_power := goodIn_r _ [81, 17, 2, 82, 83, 84, 85, 86, 87, 88, 89, 90, 91] (by decide +kernel) (by decide +kernel)
set_option maxRecDepth 20000 in
theorem gX6_pass_X6_power : GoodIn wsX6_pass (wsV RX6 121 RX6 yX6_power wsX6_power) := goodIn_app (goodIn_of _ (by decide +kernel)) ggX6_pass_X6_power
theorem dX6_pass_0 : decode cX6_pass 0 = .ok (.iload_n 1, 1) := by decide +kernel
theorem dX6_pass_1 : decode cX6_pass 1 = .ok (.i2l, 1) := by decide +kernel
theorem dX6_pass_2 : decode cX6_pass 2 = .ok (.lconst 1, 1) := by decide +kernel
theorem dX6_pass_3 : decode cX6_pass 3 = .ok (.ldc2_w 125, 3) := by decide +kernel
theorem dX6_pass_6 : decode cX6_pass 6 = .ok (.invokestatic 34, 3) := by decide +kernel
theorem dX6_pass_9 : decode cX6_pass 9 = .ok (.ifCond .ne 6, 3) := by decide +kernel
theorem dX6_pass_12 : decode cX6_pass 12 = .ok (.bipush (-2), 2) := by decide +kernel
theorem dX6_pass_14 : decode cX6_pass 14 = .ok (.ireturn, 1) := by decide +kernel
theorem dX6_pass_15 : decode cX6_pass 15 = .ok (.aload_n 0, 1) := by decide +kernel
theorem dX6_pass_16 : decode cX6_pass 16 = .ok (.invokevirtual 109, 3) := by decide +kernel
theorem dX6_pass_19 : decode cX6_pass 19 = .ok (.aload_n 0, 1) := by decide +kernel
theorem dX6_pass_20 : decode cX6_pass 20 = .ok (.aload_n 0, 1) := by decide +kernel
theorem dX6_pass_21 : decode cX6_pass 21 = .ok (.getfield 7, 3) := by decide +kernel
theorem dX6_pass_24 : decode cX6_pass 24 = .ok (.sipush 327, 3) := by decide +kernel
theorem dX6_pass_27 : decode cX6_pass 27 = .ok (.iaload, 1) := by decide +kernel
theorem dX6_pass_28 : decode cX6_pass 28 = .ok (.invokevirtual 100, 3) := by decide +kernel
theorem dX6_pass_31 : decode cX6_pass 31 = .ok (.iconst 0, 1) := by decide +kernel
theorem dX6_pass_32 : decode cX6_pass 32 = .ok (.istore_n 2, 1) := by decide +kernel
theorem dX6_pass_33 : decode cX6_pass 33 = .ok (.iload_n 2, 1) := by decide +kernel
theorem dX6_pass_34 : decode cX6_pass 34 = .ok (.iload_n 1, 1) := by decide +kernel
theorem dX6_pass_35 : decode cX6_pass 35 = .ok (.if_icmp .ge 13, 3) := by decide +kernel
theorem dX6_pass_38 : decode cX6_pass 38 = .ok (.aload_n 0, 1) := by decide +kernel
theorem dX6_pass_39 : decode cX6_pass 39 = .ok (.invokevirtual 127, 3) := by decide +kernel
theorem dX6_pass_42 : decode cX6_pass 42 = .ok (.iinc 2 1, 3) := by decide +kernel
theorem dX6_pass_45 : decode cX6_pass 45 = .ok (.goto (-12), 3) := by decide +kernel
theorem dX6_pass_48 : decode cX6_pass 48 = .ok (.aload_n 0, 1) := by decide +kernel
theorem dX6_pass_49 : decode cX6_pass 49 = .ok (.iconst 0, 1) := by decide +kernel
theorem dX6_pass_50 : decode cX6_pass 50 = .ok (.invokevirtual 121, 3) := by decide +kernel
theorem dX6_pass_53 : decode cX6_pass 53 = .ok (.ireturn, 1) := by decide +kernel
set_option maxRecDepth 20000 in
theorem ggX6_isSetting_X6_in : GoodIn wsX6_isSetting wsX6_in := goodIn_r _ [12] (by decide +kernel) (by decide +kernel)
set_option maxRecDepth 20000 in
theorem gX6_isSetting_X6_in : GoodIn wsX6_isSetting (va_wsS RX6 34 yX6_in wsX6_in) := goodIn_app (goodIn_of _ (by decide +kernel)) ggX6_isSetting_X6_in
theorem dX6_isSetting_0 : decode cX6_isSetting 0 = .ok (.iload_n 0, 1) := by decide +kernel
theorem dX6_isSetting_1 : decode cX6_isSetting 1 = .ok (.tableswitch 119 0 7 #[47, 59, 69, 79, 69, 89, 99, 109], 47) := by decide +kernel
theorem dX6_isSetting_48 : decode cX6_isSetting 48 = .ok (.iload_n 1, 1) := by decide +kernel
theorem dX6_isSetting_49 : decode cX6_isSetting 49 = .ok (.i2l, 1) := by decide +kernel
theorem dX6_isSetting_50 : decode cX6_isSetting 50 = .ok (.ldc2_w 130, 3) := by decide +kernel
theorem dX6_isSetting_53 : decode cX6_isSetting 53 = .ok (.ldc2_w 132, 3) := by decide +kernel
theorem dX6_isSetting_56 : decode cX6_isSetting 56 = .ok (.invokestatic 34, 3) := by decide +kernel
theorem dX6_isSetting_59 : decode cX6_isSetting 59 = .ok (.ireturn, 1) := by decide +kernel
theorem dX6_isSetting_60 : decode cX6_isSetting 60 = .ok (.iload_n 1, 1) := by decide +kernel
theorem dX6_isSetting_61 : decode cX6_isSetting 61 = .ok (.i2l, 1) := by decide +kernel
theorem dX6_isSetting_62 : decode cX6_isSetting 62 = .ok (.lconst 0, 1) := by decide +kernel
theorem dX6_isSetting_63 : decode cX6_isSetting 63 = .ok (.ldc2_w 134, 3) := by decide +kernel
theorem dX6_isSetting_66 : decode cX6_isSetting 66 = .ok (.invokestatic 34, 3) := by decide +kernel
theorem dX6_isSetting_69 : decode cX6_isSetting 69 = .ok (.ireturn, 1) := by decide +kernel
theorem dX6_isSetting_70 : decode cX6_isSetting 70 = .ok (.iload_n 1, 1) := by decide +kernel
theorem dX6_isSetting_71 : decode cX6_isSetting 71 = .ok (.i2l, 1) := by decide +kernel
theorem dX6_isSetting_72 : decode cX6_isSetting 72 = .ok (.lconst 0, 1) := by decide +kernel
theorem dX6_isSetting_73 : decode cX6_isSetting 73 = .ok (.ldc2_w 136, 3) := by decide +kernel
theorem dX6_isSetting_76 : decode cX6_isSetting 76 = .ok (.invokestatic 34, 3) := by decide +kernel
theorem dX6_isSetting_79 : decode cX6_isSetting 79 = .ok (.ireturn, 1) := by decide +kernel
theorem dX6_isSetting_80 : decode cX6_isSetting 80 = .ok (.iload_n 1, 1) := by decide +kernel
theorem dX6_isSetting_81 : decode cX6_isSetting 81 = .ok (.i2l, 1) := by decide +kernel
theorem dX6_isSetting_82 : decode cX6_isSetting 82 = .ok (.lconst 0, 1) := by decide +kernel
theorem dX6_isSetting_83 : decode cX6_isSetting 83 = .ok (.ldc2_w 138, 3) := by decide +kernel
theorem dX6_isSetting_86 : decode cX6_isSetting 86 = .ok (.invokestatic 34, 3) := by decide +kernel
theorem dX6_isSetting_89 : decode cX6_isSetting 89 = .ok (.ireturn, 1) := by decide +kernel
theorem dX6_isSetting_90 : decode cX6_isSetting 90 = .ok (.iload_n 1, 1) := by decide +kernel
theorem dX6_isSetting_91 : decode cX6_isSetting 91 = .ok (.i2l, 1) := by decide +kernel
theorem dX6_isSetting_92 : decode cX6_isSetting 92 = .ok (.lconst 0, 1) := by decide +kernel
theorem dX6_isSetting_93 : decode cX6_isSetting 93 = .ok (.ldc2_w 140, 3) := by decide +kernel
theorem dX6_isSetting_96 : decode cX6_isSetting 96 = .ok (.invokestatic 34, 3) := by decide +kernel
theorem dX6_isSetting_99 : decode cX6_isSetting 99 = .ok (.ireturn, 1) := by decide +kernel
theorem dX6_isSetting_100 : decode cX6_isSetting 100 = .ok (.iload_n 1, 1) := by decide +kernel
theorem dX6_isSetting_101 : decode cX6_isSetting 101 = .ok (.i2l, 1) := by decide +kernel
theorem dX6_isSetting_102 : decode cX6_isSetting 102 = .ok (.lconst 0, 1) := by decide +kernel
theorem dX6_isSetting_103 : decode cX6_isSetting 103 = .ok (.ldc2_w 142, 3) := by decide +kernel
theorem dX6_isSetting_106 : decode cX6_isSetting 106 = .ok (.invokestatic 34, 3) := by decide +kernel
theorem dX6_isSetting_109 : decode cX6_isSetting 109 = .ok (.ireturn, 1) := by decide +kernel
theorem dX6_isSetting_110 : decode cX6_isSetting 110 = .ok (.iload_n 1, 1) := by decide +kernel
theorem dX6_isSetting_111 : decode cX6_isSetting 111 = .ok (.i2l, 1) := by decide +kernel
theorem dX6_isSetting_112 : decode cX6_isSetting 112 = .ok (.lconst 1, 1) := by decide +kernel
theorem dX6_isSetting_113 : decode cX6_isSetting 113 = .ok (.ldc2_w 107, 3) := by decide +kernel
theorem dX6_isSetting_116 : decode cX6_isSetting 116 = .ok (.invokestatic 34, 3) := by decide +kernel
theorem dX6_isSetting_119 : decode cX6_isSetting 119 = .ok (.ireturn, 1) := by decide +kernel
theorem dX6_isSetting_120 : decode cX6_isSetting 120 = .ok (.iconst 0, 1) := by decide +kernel
theorem dX6_isSetting_121 : decode cX6_isSetting 121 = .ok (.ireturn, 1) := by decide +kernel
set_option maxRecDepth 20000 in
theorem ggX6_set_X6_isSetting : GoodIn wsX6_set wsX6_isSetting := goodIn_r _ [5, 6, 7, 8, 9, 10, 11, 12, 13, 14, 15, 4, 16] (by decide +kernel) (by decide +kernel)
set_option maxRecDepth 20000 in
theorem gX6_set_X6_isSetting : GoodIn wsX6_set (va_wsS RX6 144 yX6_isSetting wsX6_isSetting) := goodIn_app (goodIn_of _ (by decide +kernel)) ggX6_set_X6_isSetting
set_option maxRecDepth 20000 in
theorem ggX6_set_X6_acts : GoodIn wsX6_set wsX6_acts := goodIn_r _ [20, 21, 22, 1, 23, 24, 25, 26, 27, 28, 29, 30, 31, 32] (by decide +kernel) (by decide +kernel)
set_option maxRecDepth 20000 in
theorem gX6_set_X6_acts : GoodIn wsX6_set (wsV RX6 109 RX6 yX6_acts wsX6_acts) := goodIn_app (goodIn_of _ (by decide +kernel)) ggX6_set_X6_acts
theorem dX6_set_0 : decode cX6_set 0 = .ok (.iload_n 1, 1) := by decide +kernel
theorem dX6_set_1 : decode cX6_set 1 = .ok (.iload_n 2, 1) := by decide +kernel
theorem dX6_set_2 : decode cX6_set 2 = .ok (.invokestatic 144, 3) := by decide +kernel
theorem dX6_set_5 : decode cX6_set 5 = .ok (.ifCond .ne 6, 3) := by decide +kernel
theorem dX6_set_8 : decode cX6_set 8 = .ok (.bipush (-2), 2) := by decide +kernel
theorem dX6_set_10 : decode cX6_set 10 = .ok (.ireturn, 1) := by decide +kernel
theorem dX6_set_11 : decode cX6_set 11 = .ok (.aload_n 0, 1) := by decide +kernel
theorem dX6_set_12 : decode cX6_set 12 = .ok (.getfield 7, 3) := by decide +kernel
theorem dX6_set_15 : decode cX6_set 15 = .ok (.sipush 324, 3) := by decide +kernel
theorem dX6_set_18 : decode cX6_set 18 = .ok (.iload_n 1, 1) := by decide +kernel
theorem dX6_set_19 : decode cX6_set 19 = .ok (.iadd, 1) := by decide +kernel
theorem dX6_set_20 : decode cX6_set 20 = .ok (.iaload, 1) := by decide +kernel
theorem dX6_set_21 : decode cX6_set 21 = .ok (.istore_n 3, 1) := by decide +kernel
theorem dX6_set_22 : decode cX6_set 22 = .ok (.iload_n 3, 1) := by decide +kernel
theorem dX6_set_23 : decode cX6_set 23 = .ok (.iload_n 2, 1) := by decide +kernel
theorem dX6_set_24 : decode cX6_set 24 = .ok (.if_icmp .ne 6, 3) := by decide +kernel
theorem dX6_set_27 : decode cX6_set 27 = .ok (.bipush (-5), 2) := by decide +kernel
theorem dX6_set_29 : decode cX6_set 29 = .ok (.ireturn, 1) := by decide +kernel
theorem dX6_set_30 : decode cX6_set 30 = .ok (.aload_n 0, 1) := by decide +kernel
theorem dX6_set_31 : decode cX6_set 31 = .ok (.invokevirtual 109, 3) := by decide +kernel
theorem dX6_set_34 : decode cX6_set 34 = .ok (.aload_n 0, 1) := by decide +kernel
theorem dX6_set_35 : decode cX6_set 35 = .ok (.getfield 7, 3) := by decide +kernel
theorem dX6_set_38 : decode cX6_set 38 = .ok (.sipush 324, 3) := by decide +kernel
theorem dX6_set_41 : decode cX6_set 41 = .ok (.iload_n 1, 1) := by decide +kernel
theorem dX6_set_42 : decode cX6_set 42 = .ok (.iadd, 1) := by decide +kernel
theorem dX6_set_43 : decode cX6_set 43 = .ok (.iload_n 2, 1) := by decide +kernel
theorem dX6_set_44 : decode cX6_set 44 = .ok (.iastore, 1) := by decide +kernel
theorem dX6_set_45 : decode cX6_set 45 = .ok (.iload_n 3, 1) := by decide +kernel
theorem dX6_set_46 : decode cX6_set 46 = .ok (.ireturn, 1) := by decide +kernel
theorem dX6_type_0 : decode cX6_type 0 = .ok (.aload_n 0, 1) := by decide +kernel
theorem dX6_type_1 : decode cX6_type 1 = .ok (.getfield 147, 3) := by decide +kernel
theorem dX6_type_4 : decode cX6_type 4 = .ok (.bipush 60, 2) := by decide +kernel
theorem dX6_type_6 : decode cX6_type 6 = .ok (.if_icmp .ne 6, 3) := by decide +kernel
theorem dX6_type_9 : decode cX6_type 9 = .ok (.bipush (-3), 2) := by decide +kernel
theorem dX6_type_11 : decode cX6_type 11 = .ok (.ireturn, 1) := by decide +kernel
theorem dX6_type_12 : decode cX6_type 12 = .ok (.aload_n 0, 1) := by decide +kernel
theorem dX6_type_13 : decode cX6_type 13 = .ok (.getfield 22, 3) := by decide +kernel
theorem dX6_type_16 : decode cX6_type 16 = .ok (.aload_n 0, 1) := by decide +kernel
theorem dX6_type_17 : decode cX6_type 17 = .ok (.getfield 147, 3) := by decide +kernel
theorem dX6_type_20 : decode cX6_type 20 = .ok (.iload_n 1, 1) := by decide +kernel
theorem dX6_type_21 : decode cX6_type 21 = .ok (.iastore, 1) := by decide +kernel
theorem dX6_type_22 : decode cX6_type 22 = .ok (.aload_n 0, 1) := by decide +kernel
theorem dX6_type_23 : decode cX6_type 23 = .ok (.dup, 1) := by decide +kernel
theorem dX6_type_24 : decode cX6_type 24 = .ok (.getfield 147, 3) := by decide +kernel
theorem dX6_type_27 : decode cX6_type 27 = .ok (.iconst 1, 1) := by decide +kernel
theorem dX6_type_28 : decode cX6_type 28 = .ok (.iadd, 1) := by decide +kernel
theorem dX6_type_29 : decode cX6_type 29 = .ok (.putfield 147, 3) := by decide +kernel
theorem dX6_type_32 : decode cX6_type 32 = .ok (.aload_n 0, 1) := by decide +kernel
theorem dX6_type_33 : decode cX6_type 33 = .ok (.getfield 147, 3) := by decide +kernel
theorem dX6_type_36 : decode cX6_type 36 = .ok (.ireturn, 1) := by decide +kernel
theorem dX6_clearText_0 : decode cX6_clearText 0 = .ok (.aload_n 0, 1) := by decide +kernel
theorem dX6_clearText_1 : decode cX6_clearText 1 = .ok (.getfield 147, 3) := by decide +kernel
theorem dX6_clearText_4 : decode cX6_clearText 4 = .ok (.istore_n 1, 1) := by decide +kernel
theorem dX6_clearText_5 : decode cX6_clearText 5 = .ok (.aload_n 0, 1) := by decide +kernel
theorem dX6_clearText_6 : decode cX6_clearText 6 = .ok (.iconst 0, 1) := by decide +kernel
theorem dX6_clearText_7 : decode cX6_clearText 7 = .ok (.putfield 147, 3) := by decide +kernel
theorem dX6_clearText_10 : decode cX6_clearText 10 = .ok (.iload_n 1, 1) := by decide +kernel
theorem dX6_clearText_11 : decode cX6_clearText 11 = .ok (.ireturn, 1) := by decide +kernel
set_option maxRecDepth 20000 in
theorem ggX6_isHere_X6_in : GoodIn wsX6_isHere wsX6_in := goodIn_r _ [7] (by decide +kernel) (by decide +kernel)
set_option maxRecDepth 20000 in
theorem gX6_isHere_X6_in : GoodIn wsX6_isHere (va_wsS RX6 34 yX6_in wsX6_in) := goodIn_app (goodIn_of _ (by decide +kernel)) ggX6_isHere_X6_in
theorem dX6_isHere_0 : decode cX6_isHere 0 = .ok (.aload_n 0, 1) := by decide +kernel
theorem dX6_isHere_1 : decode cX6_isHere 1 = .ok (.getfield 150, 3) := by decide +kernel
theorem dX6_isHere_4 : decode cX6_isHere 4 = .ok (.aload_n 0, 1) := by decide +kernel
theorem dX6_isHere_5 : decode cX6_isHere 5 = .ok (.getfield 147, 3) := by decide +kernel
theorem dX6_isHere_8 : decode cX6_isHere 8 = .ok (.if_icmp .ge 27, 3) := by decide +kernel
theorem dX6_isHere_11 : decode cX6_isHere 11 = .ok (.aload_n 0, 1) := by decide +kernel
theorem dX6_isHere_12 : decode cX6_isHere 12 = .ok (.getfield 22, 3) := by decide +kernel
theorem dX6_isHere_15 : decode cX6_isHere 15 = .ok (.aload_n 0, 1) := by decide +kernel
theorem dX6_isHere_16 : decode cX6_isHere 16 = .ok (.getfield 150, 3) := by decide +kernel
theorem dX6_isHere_19 : decode cX6_isHere 19 = .ok (.iaload, 1) := by decide +kernel
theorem dX6_isHere_20 : decode cX6_isHere 20 = .ok (.i2l, 1) := by decide +kernel
theorem dX6_isHere_21 : decode cX6_isHere 21 = .ok (.iload_n 1, 1) := by decide +kernel
theorem dX6_isHere_22 : decode cX6_isHere 22 = .ok (.i2l, 1) := by decide +kernel
theorem dX6_isHere_23 : decode cX6_isHere 23 = .ok (.iload_n 2, 1) := by decide +kernel
theorem dX6_isHere_24 : decode cX6_isHere 24 = .ok (.i2l, 1) := by decide +kernel
theorem dX6_isHere_25 : decode cX6_isHere 25 = .ok (.invokestatic 34, 3) := by decide +kernel
theorem dX6_isHere_28 : decode cX6_isHere 28 = .ok (.ifCond .eq 7, 3) := by decide +kernel
theorem dX6_isHere_31 : decode cX6_isHere 31 = .ok (.iconst 1, 1) := by decide +kernel
theorem dX6_isHere_32 : decode cX6_isHere 32 = .ok (.goto 4, 3) := by decide +kernel
theorem dX6_isHere_35 : decode cX6_isHere 35 = .ok (.iconst 0, 1) := by decide +kernel
theorem dX6_isHere_36 : decode cX6_isHere 36 = .ok (.ireturn, 1) := by decide +kernel
set_option maxRecDepth 20000 in
theorem ggX6_takes_X6_isHere : GoodIn wsX6_takes wsX6_isHere := goodIn_r _ [6, 1, 7, 8, 9, 10, 5, 11, 12, 13, 14, 15, 16, 17, 18, 19, 20, 21] (by decide +kernel) (by decide +kernel)
set_option maxRecDepth 20000 in
theorem gX6_takes_X6_isHere : GoodIn wsX6_takes (wsV RX6 153 RX6 yX6_isHere wsX6_isHere) := goodIn_app (goodIn_of _ (by decide +kernel)) ggX6_takes_X6_isHere
theorem dX6_takes_0 : decode cX6_takes 0 = .ok (.aload_n 0, 1) := by decide +kernel
theorem dX6_takes_1 : decode cX6_takes 1 = .ok (.iload_n 1, 1) := by decide +kernel
theorem dX6_takes_2 : decode cX6_takes 2 = .ok (.iload_n 1, 1) := by decide +kernel
theorem dX6_takes_3 : decode cX6_takes 3 = .ok (.invokevirtual 153, 3) := by decide +kernel
theorem dX6_takes_6 : decode cX6_takes 6 = .ok (.istore_n 2, 1) := by decide +kernel
theorem dX6_takes_7 : decode cX6_takes 7 = .ok (.aload_n 0, 1) := by decide +kernel
theorem dX6_takes_8 : decode cX6_takes 8 = .ok (.dup, 1) := by decide +kernel
theorem dX6_takes_9 : decode cX6_takes 9 = .ok (.getfield 150, 3) := by decide +kernel
theorem dX6_takes_12 : decode cX6_takes 12 = .ok (.iload_n 2, 1) := by decide +kernel
theorem dX6_takes_13 : decode cX6_takes 13 = .ok (.ifCond .eq 7, 3) := by decide +kernel
theorem dX6_takes_16 : decode cX6_takes 16 = .ok (.iconst 1, 1) := by decide +kernel
theorem dX6_takes_17 : decode cX6_takes 17 = .ok (.goto 4, 3) := by decide +kernel
theorem dX6_takes_20 : decode cX6_takes 20 = .ok (.iconst 0, 1) := by decide +kernel
theorem dX6_takes_21 : decode cX6_takes 21 = .ok (.iadd, 1) := by decide +kernel
theorem dX6_takes_22 : decode cX6_takes 22 = .ok (.putfield 150, 3) := by decide +kernel
theorem dX6_takes_25 : decode cX6_takes 25 = .ok (.iload_n 2, 1) := by decide +kernel
theorem dX6_takes_26 : decode cX6_takes 26 = .ok (.ireturn, 1) := by decide +kernel
set_option maxRecDepth 20000 in
theorem ggX6_readsNumber_X6_isHere : GoodIn wsX6_readsNumber wsX6_isHere := goodIn_r _ [8, 2, 9, 1, 10, 11, 7, 12, 13, 14, 15, 16, 17, 18, 19, 20, 21, 22] (by decide +kernel) (by decide +kernel)
set_option maxRecDepth 20000 in
theorem gX6_readsNumber_X6_isHere : GoodIn wsX6_readsNumber (wsV RX6 153 RX6 yX6_isHere wsX6_isHere) := goodIn_app (goodIn_of _ (by decide +kernel)) ggX6_readsNumber_X6_isHere
theorem dX6_readsNumber_0 : decode cX6_readsNumber 0 = .ok (.aload_n 0, 1) := by decide +kernel
theorem dX6_readsNumber_1 : decode cX6_readsNumber 1 = .ok (.bipush 48, 2) := by decide +kernel
theorem dX6_readsNumber_3 : decode cX6_readsNumber 3 = .ok (.iload_n 2, 1) := by decide +kernel
theorem dX6_readsNumber_4 : decode cX6_readsNumber 4 = .ok (.iadd, 1) := by decide +kernel
theorem dX6_readsNumber_5 : decode cX6_readsNumber 5 = .ok (.bipush 57, 2) := by decide +kernel
theorem dX6_readsNumber_7 : decode cX6_readsNumber 7 = .ok (.invokevirtual 153, 3) := by decide +kernel
theorem dX6_readsNumber_10 : decode cX6_readsNumber 10 = .ok (.ifCond .ne 5, 3) := by decide +kernel
theorem dX6_readsNumber_13 : decode cX6_readsNumber 13 = .ok (.iconst 0, 1) := by decide +kernel
theorem dX6_readsNumber_14 : decode cX6_readsNumber 14 = .ok (.ireturn, 1) := by decide +kernel
theorem dX6_readsNumber_15 : decode cX6_readsNumber 15 = .ok (.aload_n 0, 1) := by decide +kernel
theorem dX6_readsNumber_16 : decode cX6_readsNumber 16 = .ok (.getfield 22, 3) := by decide +kernel
theorem dX6_readsNumber_19 : decode cX6_readsNumber 19 = .ok (.aload_n 0, 1) := by decide +kernel
theorem dX6_readsNumber_20 : decode cX6_readsNumber 20 = .ok (.getfield 150, 3) := by decide +kernel
theorem dX6_readsNumber_23 : decode cX6_readsNumber 23 = .ok (.iaload, 1) := by decide +kernel
theorem dX6_readsNumber_24 : decode cX6_readsNumber 24 = .ok (.bipush 48, 2) := by decide +kernel
theorem dX6_readsNumber_26 : decode cX6_readsNumber 26 = .ok (.isub, 1) := by decide +kernel
theorem dX6_readsNumber_27 : decode cX6_readsNumber 27 = .ok (.istore 4, 2) := by decide +kernel
theorem dX6_readsNumber_29 : decode cX6_readsNumber 29 = .ok (.aload_n 0, 1) := by decide +kernel
theorem dX6_readsNumber_30 : decode cX6_readsNumber 30 = .ok (.dup, 1) := by decide +kernel
theorem dX6_readsNumber_31 : decode cX6_readsNumber 31 = .ok (.getfield 150, 3) := by decide +kernel
theorem dX6_readsNumber_34 : decode cX6_readsNumber 34 = .ok (.iconst 1, 1) := by decide +kernel
theorem dX6_readsNumber_35 : decode cX6_readsNumber 35 = .ok (.iadd, 1) := by decide +kernel
theorem dX6_readsNumber_36 : decode cX6_readsNumber 36 = .ok (.putfield 150, 3) := by decide +kernel
theorem dX6_readsNumber_39 : decode cX6_readsNumber 39 = .ok (.iload 4, 2) := by decide +kernel
theorem dX6_readsNumber_41 : decode cX6_readsNumber 41 = .ok (.ifCond .le 69, 3) := by decide +kernel
theorem dX6_readsNumber_44 : decode cX6_readsNumber 44 = .ok (.aload_n 0, 1) := by decide +kernel
theorem dX6_readsNumber_45 : decode cX6_readsNumber 45 = .ok (.bipush 48, 2) := by decide +kernel
theorem dX6_readsNumber_47 : decode cX6_readsNumber 47 = .ok (.bipush 57, 2) := by decide +kernel
theorem dX6_readsNumber_49 : decode cX6_readsNumber 49 = .ok (.invokevirtual 153, 3) := by decide +kernel
theorem dX6_readsNumber_52 : decode cX6_readsNumber 52 = .ok (.ifCond .eq 58, 3) := by decide +kernel
theorem dX6_readsNumber_55 : decode cX6_readsNumber 55 = .ok (.bipush 10, 2) := by decide +kernel
theorem dX6_readsNumber_57 : decode cX6_readsNumber 57 = .ok (.iload 4, 2) := by decide +kernel
theorem dX6_readsNumber_59 : decode cX6_readsNumber 59 = .ok (.imul, 1) := by decide +kernel
theorem dX6_readsNumber_60 : decode cX6_readsNumber 60 = .ok (.aload_n 0, 1) := by decide +kernel
theorem dX6_readsNumber_61 : decode cX6_readsNumber 61 = .ok (.getfield 22, 3) := by decide +kernel
theorem dX6_readsNumber_64 : decode cX6_readsNumber 64 = .ok (.aload_n 0, 1) := by decide +kernel
theorem dX6_readsNumber_65 : decode cX6_readsNumber 65 = .ok (.getfield 150, 3) := by decide +kernel
theorem dX6_readsNumber_68 : decode cX6_readsNumber 68 = .ok (.iaload, 1) := by decide +kernel
theorem dX6_readsNumber_69 : decode cX6_readsNumber 69 = .ok (.iadd, 1) := by decide +kernel
theorem dX6_readsNumber_70 : decode cX6_readsNumber 70 = .ok (.bipush 48, 2) := by decide +kernel
theorem dX6_readsNumber_72 : decode cX6_readsNumber 72 = .ok (.isub, 1) := by decide +kernel
theorem dX6_readsNumber_73 : decode cX6_readsNumber 73 = .ok (.iload_n 3, 1) := by decide +kernel
theorem dX6_readsNumber_74 : decode cX6_readsNumber 74 = .ok (.if_icmp .gt 36, 3) := by decide +kernel
theorem dX6_readsNumber_77 : decode cX6_readsNumber 77 = .ok (.bipush 10, 2) := by decide +kernel
theorem dX6_readsNumber_79 : decode cX6_readsNumber 79 = .ok (.iload 4, 2) := by decide +kernel
theorem dX6_readsNumber_81 : decode cX6_readsNumber 81 = .ok (.imul, 1) := by decide +kernel
theorem dX6_readsNumber_82 : decode cX6_readsNumber 82 = .ok (.aload_n 0, 1) := by decide +kernel
theorem dX6_readsNumber_83 : decode cX6_readsNumber 83 = .ok (.getfield 22, 3) := by decide +kernel
theorem dX6_readsNumber_86 : decode cX6_readsNumber 86 = .ok (.aload_n 0, 1) := by decide +kernel
theorem dX6_readsNumber_87 : decode cX6_readsNumber 87 = .ok (.getfield 150, 3) := by decide +kernel
theorem dX6_readsNumber_90 : decode cX6_readsNumber 90 = .ok (.iaload, 1) := by decide +kernel
theorem dX6_readsNumber_91 : decode cX6_readsNumber 91 = .ok (.iadd, 1) := by decide +kernel
theorem dX6_readsNumber_92 : decode cX6_readsNumber 92 = .ok (.bipush 48, 2) := by decide +kernel
theorem dX6_readsNumber_94 : decode cX6_readsNumber 94 = .ok (.isub, 1) := by decide +kernel
theorem dX6_readsNumber_95 : decode cX6_readsNumber 95 = .ok (.istore 4, 2) := by decide +kernel
theorem dX6_readsNumber_97 : decode cX6_readsNumber 97 = .ok (.aload_n 0, 1) := by decide +kernel
theorem dX6_readsNumber_98 : decode cX6_readsNumber 98 = .ok (.dup, 1) := by decide +kernel
theorem dX6_readsNumber_99 : decode cX6_readsNumber 99 = .ok (.getfield 150, 3) := by decide +kernel
theorem dX6_readsNumber_102 : decode cX6_readsNumber 102 = .ok (.iconst 1, 1) := by decide +kernel
theorem dX6_readsNumber_103 : decode cX6_readsNumber 103 = .ok (.iadd, 1) := by decide +kernel
theorem dX6_readsNumber_104 : decode cX6_readsNumber 104 = .ok (.putfield 150, 3) := by decide +kernel
theorem dX6_readsNumber_107 : decode cX6_readsNumber 107 = .ok (.goto (-68), 3) := by decide +kernel
theorem dX6_readsNumber_110 : decode cX6_readsNumber 110 = .ok (.aload_n 0, 1) := by decide +kernel
theorem dX6_readsNumber_111 : decode cX6_readsNumber 111 = .ok (.getfield 25, 3) := by decide +kernel
theorem dX6_readsNumber_114 : decode cX6_readsNumber 114 = .ok (.iload_n 1, 1) := by decide +kernel
theorem dX6_readsNumber_115 : decode cX6_readsNumber 115 = .ok (.iload 4, 2) := by decide +kernel
theorem dX6_readsNumber_117 : decode cX6_readsNumber 117 = .ok (.iastore, 1) := by decide +kernel
theorem dX6_readsNumber_118 : decode cX6_readsNumber 118 = .ok (.iconst 1, 1) := by decide +kernel
theorem dX6_readsNumber_119 : decode cX6_readsNumber 119 = .ok (.ireturn, 1) := by decide +kernel
set_option maxRecDepth 20000 in
theorem ggX6_readsPart_X6_readsNumber : GoodIn wsX6_readsPart wsX6_readsNumber := goodIn_r _ [5, 6, 7, 8, 9, 10, 11, 4, 12, 13, 14, 15, 16, 21, 22, 23, 24, 25, 26, 27, 28, 29, 30] (by decide +kernel) (by decide +kernel)
set_option maxRecDepth 20000 in
theorem gX6_readsPart_X6_readsNumber : GoodIn wsX6_readsPart (wsV RX6 156 RX6 yX6_readsNumber wsX6_readsNumber) := goodIn_app (goodIn_of _ (by decide +kernel)) ggX6_readsPart_X6_readsNumber
set_option maxRecDepth 20000 in
theorem ggX6_readsPart_X6_takes : GoodIn wsX6_readsPart wsX6_takes := goodIn_r _ [20, 7, 9, 10, 11, 4, 12, 13, 6, 14, 15, 16, 21, 22, 23, 24, 25, 26, 27, 28, 29, 30] (by decide +kernel) (by decide +kernel)
set_option maxRecDepth 20000 in
theorem gX6_readsPart_X6_takes : GoodIn wsX6_readsPart (wsV RX6 160 RX6 yX6_takes wsX6_takes) := goodIn_app (goodIn_of _ (by decide +kernel)) ggX6_readsPart_X6_takes
theorem dX6_readsPart_0 : decode cX6_readsPart 0 = .ok (.aload_n 0, 1) := by decide +kernel
theorem dX6_readsPart_1 : decode cX6_readsPart 1 = .ok (.iconst 0, 1) := by decide +kernel
theorem dX6_readsPart_2 : decode cX6_readsPart 2 = .ok (.iconst 0, 1) := by decide +kernel
theorem dX6_readsPart_3 : decode cX6_readsPart 3 = .ok (.bipush 23, 2) := by decide +kernel
theorem dX6_readsPart_5 : decode cX6_readsPart 5 = .ok (.invokevirtual 156, 3) := by decide +kernel
theorem dX6_readsPart_8 : decode cX6_readsPart 8 = .ok (.ifCond .eq 88, 3) := by decide +kernel
theorem dX6_readsPart_11 : decode cX6_readsPart 11 = .ok (.aload_n 0, 1) := by decide +kernel
theorem dX6_readsPart_12 : decode cX6_readsPart 12 = .ok (.bipush 44, 2) := by decide +kernel
theorem dX6_readsPart_14 : decode cX6_readsPart 14 = .ok (.invokevirtual 160, 3) := by decide +kernel
theorem dX6_readsPart_17 : decode cX6_readsPart 17 = .ok (.ifCond .eq 79, 3) := by decide +kernel
theorem dX6_readsPart_20 : decode cX6_readsPart 20 = .ok (.aload_n 0, 1) := by decide +kernel
theorem dX6_readsPart_21 : decode cX6_readsPart 21 = .ok (.iconst 1, 1) := by decide +kernel
theorem dX6_readsPart_22 : decode cX6_readsPart 22 = .ok (.iconst 0, 1) := by decide +kernel
theorem dX6_readsPart_23 : decode cX6_readsPart 23 = .ok (.bipush 11, 2) := by decide +kernel
theorem dX6_readsPart_25 : decode cX6_readsPart 25 = .ok (.invokevirtual 156, 3) := by decide +kernel
theorem dX6_readsPart_28 : decode cX6_readsPart 28 = .ok (.ifCond .eq 68, 3) := by decide +kernel
theorem dX6_readsPart_31 : decode cX6_readsPart 31 = .ok (.aload_n 0, 1) := by decide +kernel
theorem dX6_readsPart_32 : decode cX6_readsPart 32 = .ok (.bipush 43, 2) := by decide +kernel
theorem dX6_readsPart_34 : decode cX6_readsPart 34 = .ok (.invokevirtual 160, 3) := by decide +kernel
theorem dX6_readsPart_37 : decode cX6_readsPart 37 = .ok (.ifCond .eq 59, 3) := by decide +kernel
theorem dX6_readsPart_40 : decode cX6_readsPart 40 = .ok (.aload_n 0, 1) := by decide +kernel
theorem dX6_readsPart_41 : decode cX6_readsPart 41 = .ok (.iconst 2, 1) := by decide +kernel
theorem dX6_readsPart_42 : decode cX6_readsPart 42 = .ok (.iconst 1, 1) := by decide +kernel
theorem dX6_readsPart_43 : decode cX6_readsPart 43 = .ok (.bipush 24, 2) := by decide +kernel
theorem dX6_readsPart_45 : decode cX6_readsPart 45 = .ok (.invokevirtual 156, 3) := by decide +kernel
theorem dX6_readsPart_48 : decode cX6_readsPart 48 = .ok (.ifCond .eq 48, 3) := by decide +kernel
theorem dX6_readsPart_51 : decode cX6_readsPart 51 = .ok (.aload_n 0, 1) := by decide +kernel
theorem dX6_readsPart_52 : decode cX6_readsPart 52 = .ok (.bipush 120, 2) := by decide +kernel
theorem dX6_readsPart_54 : decode cX6_readsPart 54 = .ok (.invokevirtual 160, 3) := by decide +kernel
theorem dX6_readsPart_57 : decode cX6_readsPart 57 = .ok (.ifCond .eq 39, 3) := by decide +kernel
theorem dX6_readsPart_60 : decode cX6_readsPart 60 = .ok (.aload_n 0, 1) := by decide +kernel
theorem dX6_readsPart_61 : decode cX6_readsPart 61 = .ok (.iconst 3, 1) := by decide +kernel
theorem dX6_readsPart_62 : decode cX6_readsPart 62 = .ok (.iconst 1, 1) := by decide +kernel
theorem dX6_readsPart_63 : decode cX6_readsPart 63 = .ok (.bipush 12, 2) := by decide +kernel
theorem dX6_readsPart_65 : decode cX6_readsPart 65 = .ok (.invokevirtual 156, 3) := by decide +kernel
theorem dX6_readsPart_68 : decode cX6_readsPart 68 = .ok (.ifCond .eq 28, 3) := by decide +kernel
theorem dX6_readsPart_71 : decode cX6_readsPart 71 = .ok (.aload_n 0, 1) := by decide +kernel
theorem dX6_readsPart_72 : decode cX6_readsPart 72 = .ok (.bipush 61, 2) := by decide +kernel
theorem dX6_readsPart_74 : decode cX6_readsPart 74 = .ok (.invokevirtual 160, 3) := by decide +kernel
theorem dX6_readsPart_77 : decode cX6_readsPart 77 = .ok (.ifCond .eq 19, 3) := by decide +kernel
theorem dX6_readsPart_80 : decode cX6_readsPart 80 = .ok (.aload_n 0, 1) := by decide +kernel
theorem dX6_readsPart_81 : decode cX6_readsPart 81 = .ok (.iconst 4, 1) := by decide +kernel
theorem dX6_readsPart_82 : decode cX6_readsPart 82 = .ok (.iconst 0, 1) := by decide +kernel
theorem dX6_readsPart_83 : decode cX6_readsPart 83 = .ok (.sipush 255, 3) := by decide +kernel
theorem dX6_readsPart_86 : decode cX6_readsPart 86 = .ok (.invokevirtual 156, 3) := by decide +kernel
theorem dX6_readsPart_89 : decode cX6_readsPart 89 = .ok (.ifCond .eq 7, 3) := by decide +kernel
theorem dX6_readsPart_92 : decode cX6_readsPart 92 = .ok (.iconst 1, 1) := by decide +kernel
theorem dX6_readsPart_93 : decode cX6_readsPart 93 = .ok (.goto 4, 3) := by decide +kernel
theorem dX6_readsPart_96 : decode cX6_readsPart 96 = .ok (.iconst 0, 1) := by decide +kernel
theorem dX6_readsPart_97 : decode cX6_readsPart 97 = .ok (.ireturn, 1) := by decide +kernel
set_option maxRecDepth 20000 in
theorem ggX6_fault_X6_readsPart : GoodIn wsX6_fault wsX6_readsPart := goodIn_r _ [7, 8, 9, 10, 6, 11, 12, 1, 13, 14, 15, 16, 17, 2, 18, 19, 20, 21, 22, 23, 24, 25, 26, 27, 28, 29, 30, 31, 32, 33, 34] (by decide +kernel) (by decide +kernel)
set_option maxRecDepth 20000 in
theorem gX6_fault_X6_readsPart : GoodIn wsX6_fault (wsV RX6 163 RX6 yX6_readsPart wsX6_readsPart) := goodIn_app (goodIn_of _ (by decide +kernel)) ggX6_fault_X6_readsPart
set_option maxRecDepth 20000 in
theorem ggX6_fault_X6_takes : GoodIn wsX6_fault wsX6_takes := goodIn_r _ [24, 1, 14, 15, 16, 6, 17, 2, 12, 18, 19, 20, 25, 26, 27, 28, 29, 30, 31, 32, 33, 34] (by decide +kernel) (by decide +kernel)
set_option maxRecDepth 20000 in
theorem gX6_fault_X6_takes : GoodIn wsX6_fault (wsV RX6 160 RX6 yX6_takes wsX6_takes) := goodIn_app (goodIn_of _ (by decide +kernel)) ggX6_fault_X6_takes
theorem dX6_fault_0 : decode cX6_fault 0 = .ok (.aload_n 0, 1) := by decide +kernel
theorem dX6_fault_1 : decode cX6_fault 1 = .ok (.iconst 0, 1) := by decide +kernel
theorem dX6_fault_2 : decode cX6_fault 2 = .ok (.putfield 150, 3) := by decide +kernel
theorem dX6_fault_5 : decode cX6_fault 5 = .ok (.iconst 1, 1) := by decide +kernel
theorem dX6_fault_6 : decode cX6_fault 6 = .ok (.istore_n 1, 1) := by decide +kernel
theorem dX6_fault_7 : decode cX6_fault 7 = .ok (.iload_n 1, 1) := by decide +kernel
theorem dX6_fault_8 : decode cX6_fault 8 = .ok (.ifCond .eq 25, 3) := by decide +kernel
theorem dX6_fault_11 : decode cX6_fault 11 = .ok (.aload_n 0, 1) := by decide +kernel
theorem dX6_fault_12 : decode cX6_fault 12 = .ok (.invokevirtual 163, 3) := by decide +kernel
theorem dX6_fault_15 : decode cX6_fault 15 = .ok (.ifCond .ne 8, 3) := by decide +kernel
theorem dX6_fault_18 : decode cX6_fault 18 = .ok (.aload_n 0, 1) := by decide +kernel
theorem dX6_fault_19 : decode cX6_fault 19 = .ok (.getfield 150, 3) := by decide +kernel
theorem dX6_fault_22 : decode cX6_fault 22 = .ok (.ireturn, 1) := by decide +kernel
theorem dX6_fault_23 : decode cX6_fault 23 = .ok (.aload_n 0, 1) := by decide +kernel
theorem dX6_fault_24 : decode cX6_fault 24 = .ok (.bipush 59, 2) := by decide +kernel
theorem dX6_fault_26 : decode cX6_fault 26 = .ok (.invokevirtual 160, 3) := by decide +kernel
theorem dX6_fault_29 : decode cX6_fault 29 = .ok (.istore_n 1, 1) := by decide +kernel
theorem dX6_fault_30 : decode cX6_fault 30 = .ok (.goto (-23), 3) := by decide +kernel
theorem dX6_fault_33 : decode cX6_fault 33 = .ok (.aload_n 0, 1) := by decide +kernel
theorem dX6_fault_34 : decode cX6_fault 34 = .ok (.getfield 150, 3) := by decide +kernel
theorem dX6_fault_37 : decode cX6_fault 37 = .ok (.aload_n 0, 1) := by decide +kernel
theorem dX6_fault_38 : decode cX6_fault 38 = .ok (.getfield 147, 3) := by decide +kernel
theorem dX6_fault_41 : decode cX6_fault 41 = .ok (.if_icmp .ne 8, 3) := by decide +kernel
theorem dX6_fault_44 : decode cX6_fault 44 = .ok (.bipush (-5), 2) := by decide +kernel
theorem dX6_fault_46 : decode cX6_fault 46 = .ok (.goto 7, 3) := by decide +kernel
theorem dX6_fault_49 : decode cX6_fault 49 = .ok (.aload_n 0, 1) := by decide +kernel
theorem dX6_fault_50 : decode cX6_fault 50 = .ok (.getfield 150, 3) := by decide +kernel
theorem dX6_fault_53 : decode cX6_fault 53 = .ok (.ireturn, 1) := by decide +kernel
theorem dX6_asksPart_0 : decode cX6_asksPart 0 = .ok (.aload_n 0, 1) := by decide +kernel
theorem dX6_asksPart_1 : decode cX6_asksPart 1 = .ok (.getfield 25, 3) := by decide +kernel
theorem dX6_asksPart_4 : decode cX6_asksPart 4 = .ok (.iconst 1, 1) := by decide +kernel
theorem dX6_asksPart_5 : decode cX6_asksPart 5 = .ok (.iaload, 1) := by decide +kernel
theorem dX6_asksPart_6 : decode cX6_asksPart 6 = .ok (.istore_n 1, 1) := by decide +kernel
theorem dX6_asksPart_7 : decode cX6_asksPart 7 = .ok (.iload_n 1, 1) := by decide +kernel
theorem dX6_asksPart_8 : decode cX6_asksPart 8 = .ok (.aload_n 0, 1) := by decide +kernel
theorem dX6_asksPart_9 : decode cX6_asksPart 9 = .ok (.getfield 25, 3) := by decide +kernel
theorem dX6_asksPart_12 : decode cX6_asksPart 12 = .ok (.iconst 1, 1) := by decide +kernel
theorem dX6_asksPart_13 : decode cX6_asksPart 13 = .ok (.iaload, 1) := by decide +kernel
theorem dX6_asksPart_14 : decode cX6_asksPart 14 = .ok (.aload_n 0, 1) := by decide +kernel
theorem dX6_asksPart_15 : decode cX6_asksPart 15 = .ok (.getfield 25, 3) := by decide +kernel
theorem dX6_asksPart_18 : decode cX6_asksPart 18 = .ok (.iconst 3, 1) := by decide +kernel
theorem dX6_asksPart_19 : decode cX6_asksPart 19 = .ok (.iaload, 1) := by decide +kernel
theorem dX6_asksPart_20 : decode cX6_asksPart 20 = .ok (.iadd, 1) := by decide +kernel
theorem dX6_asksPart_21 : decode cX6_asksPart 21 = .ok (.if_icmp .ge 68, 3) := by decide +kernel
theorem dX6_asksPart_24 : decode cX6_asksPart 24 = .ok (.iload_n 1, 1) := by decide +kernel
theorem dX6_asksPart_25 : decode cX6_asksPart 25 = .ok (.bipush 12, 2) := by decide +kernel
theorem dX6_asksPart_27 : decode cX6_asksPart 27 = .ok (.if_icmp .ge 62, 3) := by decide +kernel
theorem dX6_asksPart_30 : decode cX6_asksPart 30 = .ok (.aload_n 0, 1) := by decide +kernel
theorem dX6_asksPart_31 : decode cX6_asksPart 31 = .ok (.getfield 25, 3) := by decide +kernel
theorem dX6_asksPart_34 : decode cX6_asksPart 34 = .ok (.iconst 0, 1) := by decide +kernel
theorem dX6_asksPart_35 : decode cX6_asksPart 35 = .ok (.iaload, 1) := by decide +kernel
theorem dX6_asksPart_36 : decode cX6_asksPart 36 = .ok (.istore_n 2, 1) := by decide +kernel
theorem dX6_asksPart_37 : decode cX6_asksPart 37 = .ok (.iload_n 2, 1) := by decide +kernel
theorem dX6_asksPart_38 : decode cX6_asksPart 38 = .ok (.aload_n 0, 1) := by decide +kernel
theorem dX6_asksPart_39 : decode cX6_asksPart 39 = .ok (.getfield 25, 3) := by decide +kernel
theorem dX6_asksPart_42 : decode cX6_asksPart 42 = .ok (.iconst 0, 1) := by decide +kernel
theorem dX6_asksPart_43 : decode cX6_asksPart 43 = .ok (.iaload, 1) := by decide +kernel
theorem dX6_asksPart_44 : decode cX6_asksPart 44 = .ok (.aload_n 0, 1) := by decide +kernel
theorem dX6_asksPart_45 : decode cX6_asksPart 45 = .ok (.getfield 25, 3) := by decide +kernel
theorem dX6_asksPart_48 : decode cX6_asksPart 48 = .ok (.iconst 2, 1) := by decide +kernel
theorem dX6_asksPart_49 : decode cX6_asksPart 49 = .ok (.iaload, 1) := by decide +kernel
theorem dX6_asksPart_50 : decode cX6_asksPart 50 = .ok (.iadd, 1) := by decide +kernel
theorem dX6_asksPart_51 : decode cX6_asksPart 51 = .ok (.if_icmp .ge 32, 3) := by decide +kernel
theorem dX6_asksPart_54 : decode cX6_asksPart 54 = .ok (.iload_n 2, 1) := by decide +kernel
theorem dX6_asksPart_55 : decode cX6_asksPart 55 = .ok (.bipush 24, 2) := by decide +kernel
theorem dX6_asksPart_57 : decode cX6_asksPart 57 = .ok (.if_icmp .ge 26, 3) := by decide +kernel
theorem dX6_asksPart_60 : decode cX6_asksPart 60 = .ok (.aload_n 0, 1) := by decide +kernel
theorem dX6_asksPart_61 : decode cX6_asksPart 61 = .ok (.getfield 7, 3) := by decide +kernel
theorem dX6_asksPart_64 : decode cX6_asksPart 64 = .ok (.bipush 24, 2) := by decide +kernel
theorem dX6_asksPart_66 : decode cX6_asksPart 66 = .ok (.iload_n 1, 1) := by decide +kernel
theorem dX6_asksPart_67 : decode cX6_asksPart 67 = .ok (.imul, 1) := by decide +kernel
theorem dX6_asksPart_68 : decode cX6_asksPart 68 = .ok (.iload_n 2, 1) := by decide +kernel
theorem dX6_asksPart_69 : decode cX6_asksPart 69 = .ok (.iadd, 1) := by decide +kernel
theorem dX6_asksPart_70 : decode cX6_asksPart 70 = .ok (.aload_n 0, 1) := by decide +kernel
theorem dX6_asksPart_71 : decode cX6_asksPart 71 = .ok (.getfield 25, 3) := by decide +kernel
theorem dX6_asksPart_74 : decode cX6_asksPart 74 = .ok (.iconst 4, 1) := by decide +kernel
theorem dX6_asksPart_75 : decode cX6_asksPart 75 = .ok (.iaload, 1) := by decide +kernel
theorem dX6_asksPart_76 : decode cX6_asksPart 76 = .ok (.iastore, 1) := by decide +kernel
theorem dX6_asksPart_77 : decode cX6_asksPart 77 = .ok (.iinc 2 1, 3) := by decide +kernel
theorem dX6_asksPart_80 : decode cX6_asksPart 80 = .ok (.goto (-43), 3) := by decide +kernel
theorem dX6_asksPart_83 : decode cX6_asksPart 83 = .ok (.iinc 1 1, 3) := by decide +kernel
theorem dX6_asksPart_86 : decode cX6_asksPart 86 = .ok (.goto (-79), 3) := by decide +kernel
theorem dX6_asksPart_89 : decode cX6_asksPart 89 = .ok (.return_, 1) := by decide +kernel
set_option maxRecDepth 20000 in
theorem ggX6_askAll_X6_fault : GoodIn wsX6_askAll wsX6_fault := goodIn_r _ [6, 1, 7, 8, 9, 10, 5, 11, 12, 13, 14, 15, 16, 17, 18, 19, 20, 21, 22, 23, 24, 25, 26, 27, 28, 44, 45, 46, 47, 48, 49, 50, 51, 52, 53] (by decide +kernel) (by decide +kernel)
set_option maxRecDepth 20000 in
theorem gX6_askAll_X6_fault : GoodIn wsX6_askAll (wsV RX6 167 RX6 yX6_fault wsX6_fault) := goodIn_app (goodIn_of _ (by decide +kernel)) ggX6_askAll_X6_fault
set_option maxRecDepth 20000 in
theorem ggX6_askAll_X6_acts : GoodIn wsX6_askAll wsX6_acts := goodIn_r _ [32, 33, 34, 35, 44, 45, 46, 47, 48, 49, 50, 51, 52, 53] (by decide +kernel) (by decide +kernel)
set_option maxRecDepth 20000 in
theorem gX6_askAll_X6_acts : GoodIn wsX6_askAll (wsV RX6 109 RX6 yX6_acts wsX6_acts) := goodIn_app (goodIn_of _ (by decide +kernel)) ggX6_askAll_X6_acts
set_option maxRecDepth 20000 in
theorem ggX6_askAll_X6_readsPart : GoodIn wsX6_askAll wsX6_readsPart := goodIn_r _ [11, 12, 13, 14, 5, 15, 16, 1, 17, 18, 19, 20, 21, 7, 22, 23, 24, 25, 26, 27, 28, 44, 45, 46, 47, 48, 49, 50, 51, 52, 53] (by decide +kernel) (by decide +kernel)
set_option maxRecDepth 20000 in
theorem gX6_askAll_X6_readsPart : GoodIn wsX6_askAll (wsV RX6 163 RX6 yX6_readsPart wsX6_readsPart) := goodIn_app (goodIn_of _ (by decide +kernel)) ggX6_askAll_X6_readsPart
set_option maxRecDepth 20000 in
theorem ggX6_askAll_X6_asksPart : GoodIn wsX6_askAll wsX6_asksPart := goodIn_r _ [39, 17, 35, 44, 45, 46, 47, 48, 49, 50, 51, 52, 53] (by decide +kernel) (by decide +kernel)
set_option maxRecDepth 20000 in
theorem gX6_askAll_X6_asksPart : GoodIn wsX6_askAll (wsV RX6 170 RX6 yX6_asksPart wsX6_asksPart) := goodIn_app (goodIn_of _ (by decide +kernel)) ggX6_askAll_X6_asksPart
set_option maxRecDepth 20000 in
theorem ggX6_askAll_X6_takes : GoodIn wsX6_askAll wsX6_takes := goodIn_r _ [28, 1, 18, 19, 20, 5, 21, 7, 16, 22, 23, 24, 44, 45, 46, 47, 48, 49, 50, 51, 52, 53] (by decide +kernel) (by decide +kernel)
set_option maxRecDepth 20000 in
theorem gX6_askAll_X6_takes : GoodIn wsX6_askAll (wsV RX6 160 RX6 yX6_takes wsX6_takes) := goodIn_app (goodIn_of _ (by decide +kernel)) ggX6_askAll_X6_takes
set_option maxRecDepth 20000 in
theorem ggX6_askAll_X6_otherSpots : GoodIn wsX6_askAll wsX6_otherSpots := goodIn_r _ [43, 35, 34, 33, 44, 45, 46, 47, 48, 49, 50, 51, 52, 53] (by decide +kernel) (by decide +kernel)
set_option maxRecDepth 20000 in
theorem gX6_askAll_X6_otherSpots : GoodIn wsX6_askAll (wsV RX6 114 RX6 yX6_otherSpots wsX6_otherSpots) := goodIn_app (goodIn_of _ (by decide +kernel)) ggX6_askAll_X6_otherSpots
theorem dX6_askAll_0 : decode cX6_askAll 0 = .ok (.aload_n 0, 1) := by decide +kernel
theorem dX6_askAll_1 : decode cX6_askAll 1 = .ok (.invokevirtual 167, 3) := by decide +kernel
theorem dX6_askAll_4 : decode cX6_askAll 4 = .ok (.istore_n 1, 1) := by decide +kernel
theorem dX6_askAll_5 : decode cX6_askAll 5 = .ok (.iload_n 1, 1) := by decide +kernel
theorem dX6_askAll_6 : decode cX6_askAll 6 = .ok (.bipush (-5), 2) := by decide +kernel
theorem dX6_askAll_8 : decode cX6_askAll 8 = .ok (.if_icmp .eq 8, 3) := by decide +kernel
theorem dX6_askAll_11 : decode cX6_askAll 11 = .ok (.bipush (-100), 2) := by decide +kernel
theorem dX6_askAll_13 : decode cX6_askAll 13 = .ok (.iload_n 1, 1) := by decide +kernel
theorem dX6_askAll_14 : decode cX6_askAll 14 = .ok (.isub, 1) := by decide +kernel
theorem dX6_askAll_15 : decode cX6_askAll 15 = .ok (.ireturn, 1) := by decide +kernel
theorem dX6_askAll_16 : decode cX6_askAll 16 = .ok (.aload_n 0, 1) := by decide +kernel
theorem dX6_askAll_17 : decode cX6_askAll 17 = .ok (.invokevirtual 109, 3) := by decide +kernel
theorem dX6_askAll_20 : decode cX6_askAll 20 = .ok (.aload_n 0, 1) := by decide +kernel
theorem dX6_askAll_21 : decode cX6_askAll 21 = .ok (.iconst 0, 1) := by decide +kernel
theorem dX6_askAll_22 : decode cX6_askAll 22 = .ok (.putfield 150, 3) := by decide +kernel
theorem dX6_askAll_25 : decode cX6_askAll 25 = .ok (.iconst 1, 1) := by decide +kernel
theorem dX6_askAll_26 : decode cX6_askAll 26 = .ok (.istore_n 2, 1) := by decide +kernel
theorem dX6_askAll_27 : decode cX6_askAll 27 = .ok (.iload_n 2, 1) := by decide +kernel
theorem dX6_askAll_28 : decode cX6_askAll 28 = .ok (.ifCond .eq 22, 3) := by decide +kernel
theorem dX6_askAll_31 : decode cX6_askAll 31 = .ok (.aload_n 0, 1) := by decide +kernel
theorem dX6_askAll_32 : decode cX6_askAll 32 = .ok (.invokevirtual 163, 3) := by decide +kernel
theorem dX6_askAll_35 : decode cX6_askAll 35 = .ok (.istore_n 3, 1) := by decide +kernel
theorem dX6_askAll_36 : decode cX6_askAll 36 = .ok (.aload_n 0, 1) := by decide +kernel
theorem dX6_askAll_37 : decode cX6_askAll 37 = .ok (.invokevirtual 170, 3) := by decide +kernel
theorem dX6_askAll_40 : decode cX6_askAll 40 = .ok (.aload_n 0, 1) := by decide +kernel
theorem dX6_askAll_41 : decode cX6_askAll 41 = .ok (.bipush 59, 2) := by decide +kernel
theorem dX6_askAll_43 : decode cX6_askAll 43 = .ok (.invokevirtual 160, 3) := by decide +kernel
theorem dX6_askAll_46 : decode cX6_askAll 46 = .ok (.istore_n 2, 1) := by decide +kernel
theorem dX6_askAll_47 : decode cX6_askAll 47 = .ok (.goto (-20), 3) := by decide +kernel
theorem dX6_askAll_50 : decode cX6_askAll 50 = .ok (.aload_n 0, 1) := by decide +kernel
theorem dX6_askAll_51 : decode cX6_askAll 51 = .ok (.invokevirtual 114, 3) := by decide +kernel
theorem dX6_askAll_54 : decode cX6_askAll 54 = .ok (.ireturn, 1) := by decide +kernel
theorem dX6_undo_0 : decode cX6_undo 0 = .ok (.aload_n 0, 1) := by decide +kernel
theorem dX6_undo_1 : decode cX6_undo 1 = .ok (.getfield 28, 3) := by decide +kernel
theorem dX6_undo_4 : decode cX6_undo 4 = .ok (.ifCond .ne 6, 3) := by decide +kernel
theorem dX6_undo_7 : decode cX6_undo 7 = .ok (.bipush (-5), 2) := by decide +kernel
theorem dX6_undo_9 : decode cX6_undo 9 = .ok (.ireturn, 1) := by decide +kernel
theorem dX6_undo_10 : decode cX6_undo 10 = .ok (.aload_n 0, 1) := by decide +kernel
theorem dX6_undo_11 : decode cX6_undo 11 = .ok (.dup, 1) := by decide +kernel
theorem dX6_undo_12 : decode cX6_undo 12 = .ok (.getfield 28, 3) := by decide +kernel
theorem dX6_undo_15 : decode cX6_undo 15 = .ok (.iconst 1, 1) := by decide +kernel
theorem dX6_undo_16 : decode cX6_undo 16 = .ok (.isub, 1) := by decide +kernel
theorem dX6_undo_17 : decode cX6_undo 17 = .ok (.putfield 28, 3) := by decide +kernel
theorem dX6_undo_20 : decode cX6_undo 20 = .ok (.iconst 0, 1) := by decide +kernel
theorem dX6_undo_21 : decode cX6_undo 21 = .ok (.istore_n 1, 1) := by decide +kernel
theorem dX6_undo_22 : decode cX6_undo 22 = .ok (.iload_n 1, 1) := by decide +kernel
theorem dX6_undo_23 : decode cX6_undo 23 = .ok (.sipush 335, 3) := by decide +kernel
theorem dX6_undo_26 : decode cX6_undo 26 = .ok (.if_icmp .ge 30, 3) := by decide +kernel
theorem dX6_undo_29 : decode cX6_undo 29 = .ok (.aload_n 0, 1) := by decide +kernel
theorem dX6_undo_30 : decode cX6_undo 30 = .ok (.getfield 7, 3) := by decide +kernel
theorem dX6_undo_33 : decode cX6_undo 33 = .ok (.iload_n 1, 1) := by decide +kernel
theorem dX6_undo_34 : decode cX6_undo 34 = .ok (.aload_n 0, 1) := by decide +kernel
theorem dX6_undo_35 : decode cX6_undo 35 = .ok (.getfield 13, 3) := by decide +kernel
theorem dX6_undo_38 : decode cX6_undo 38 = .ok (.sipush 335, 3) := by decide +kernel
theorem dX6_undo_41 : decode cX6_undo 41 = .ok (.aload_n 0, 1) := by decide +kernel
theorem dX6_undo_42 : decode cX6_undo 42 = .ok (.getfield 28, 3) := by decide +kernel
theorem dX6_undo_45 : decode cX6_undo 45 = .ok (.imul, 1) := by decide +kernel
theorem dX6_undo_46 : decode cX6_undo 46 = .ok (.iload_n 1, 1) := by decide +kernel
theorem dX6_undo_47 : decode cX6_undo 47 = .ok (.iadd, 1) := by decide +kernel
theorem dX6_undo_48 : decode cX6_undo 48 = .ok (.iaload, 1) := by decide +kernel
theorem dX6_undo_49 : decode cX6_undo 49 = .ok (.iastore, 1) := by decide +kernel
theorem dX6_undo_50 : decode cX6_undo 50 = .ok (.iinc 1 1, 3) := by decide +kernel
theorem dX6_undo_53 : decode cX6_undo 53 = .ok (.goto (-31), 3) := by decide +kernel
theorem dX6_undo_56 : decode cX6_undo 56 = .ok (.aload_n 0, 1) := by decide +kernel
theorem dX6_undo_57 : decode cX6_undo 57 = .ok (.getfield 28, 3) := by decide +kernel
theorem dX6_undo_60 : decode cX6_undo 60 = .ok (.ireturn, 1) := by decide +kernel
theorem dX6_keep_0 : decode cX6_keep 0 = .ok (.iconst 0, 1) := by decide +kernel
theorem dX6_keep_1 : decode cX6_keep 1 = .ok (.istore_n 1, 1) := by decide +kernel
theorem dX6_keep_2 : decode cX6_keep 2 = .ok (.iload_n 1, 1) := by decide +kernel
theorem dX6_keep_3 : decode cX6_keep 3 = .ok (.sipush 335, 3) := by decide +kernel
theorem dX6_keep_6 : decode cX6_keep 6 = .ok (.if_icmp .ge 21, 3) := by decide +kernel
theorem dX6_keep_9 : decode cX6_keep 9 = .ok (.aload_n 0, 1) := by decide +kernel
theorem dX6_keep_10 : decode cX6_keep 10 = .ok (.getfield 16, 3) := by decide +kernel
theorem dX6_keep_13 : decode cX6_keep 13 = .ok (.iload_n 1, 1) := by decide +kernel
theorem dX6_keep_14 : decode cX6_keep 14 = .ok (.aload_n 0, 1) := by decide +kernel
theorem dX6_keep_15 : decode cX6_keep 15 = .ok (.getfield 7, 3) := by decide +kernel
theorem dX6_keep_18 : decode cX6_keep 18 = .ok (.iload_n 1, 1) := by decide +kernel
theorem dX6_keep_19 : decode cX6_keep 19 = .ok (.iaload, 1) := by decide +kernel
theorem dX6_keep_20 : decode cX6_keep 20 = .ok (.iastore, 1) := by decide +kernel
theorem dX6_keep_21 : decode cX6_keep 21 = .ok (.iinc 1 1, 3) := by decide +kernel
theorem dX6_keep_24 : decode cX6_keep 24 = .ok (.goto (-22), 3) := by decide +kernel
theorem dX6_keep_27 : decode cX6_keep 27 = .ok (.aload_n 0, 1) := by decide +kernel
theorem dX6_keep_28 : decode cX6_keep 28 = .ok (.iconst 1, 1) := by decide +kernel
theorem dX6_keep_29 : decode cX6_keep 29 = .ok (.putfield 173, 3) := by decide +kernel
theorem dX6_keep_32 : decode cX6_keep 32 = .ok (.aload_n 0, 1) := by decide +kernel
theorem dX6_keep_33 : decode cX6_keep 33 = .ok (.getfield 7, 3) := by decide +kernel
theorem dX6_keep_36 : decode cX6_keep 36 = .ok (.sipush 332, 3) := by decide +kernel
theorem dX6_keep_39 : decode cX6_keep 39 = .ok (.iaload, 1) := by decide +kernel
theorem dX6_keep_40 : decode cX6_keep 40 = .ok (.ireturn, 1) := by decide +kernel
set_option maxRecDepth 20000 in
theorem ggX6_restore_X6_acts : GoodIn wsX6_restore wsX6_acts := goodIn_r _ [8, 9, 10, 2, 11, 12, 13, 14, 15, 16, 17, 18, 19, 20] (by decide +kernel) (by decide +kernel)
set_option maxRecDepth 20000 in
theorem gX6_restore_X6_acts : GoodIn wsX6_restore (wsV RX6 109 RX6 yX6_acts wsX6_acts) := goodIn_app (goodIn_of _ (by decide +kernel)) ggX6_restore_X6_acts
theorem dX6_restore_0 : decode cX6_restore 0 = .ok (.aload_n 0, 1) := by decide +kernel
theorem dX6_restore_1 : decode cX6_restore 1 = .ok (.getfield 173, 3) := by decide +kernel
theorem dX6_restore_4 : decode cX6_restore 4 = .ok (.ifCond .ne 6, 3) := by decide +kernel
theorem dX6_restore_7 : decode cX6_restore 7 = .ok (.bipush (-5), 2) := by decide +kernel
theorem dX6_restore_9 : decode cX6_restore 9 = .ok (.ireturn, 1) := by decide +kernel
theorem dX6_restore_10 : decode cX6_restore 10 = .ok (.aload_n 0, 1) := by decide +kernel
theorem dX6_restore_11 : decode cX6_restore 11 = .ok (.invokevirtual 109, 3) := by decide +kernel
theorem dX6_restore_14 : decode cX6_restore 14 = .ok (.iconst 0, 1) := by decide +kernel
theorem dX6_restore_15 : decode cX6_restore 15 = .ok (.istore_n 1, 1) := by decide +kernel
theorem dX6_restore_16 : decode cX6_restore 16 = .ok (.iload_n 1, 1) := by decide +kernel
theorem dX6_restore_17 : decode cX6_restore 17 = .ok (.sipush 335, 3) := by decide +kernel
theorem dX6_restore_20 : decode cX6_restore 20 = .ok (.if_icmp .ge 21, 3) := by decide +kernel
theorem dX6_restore_23 : decode cX6_restore 23 = .ok (.aload_n 0, 1) := by decide +kernel
theorem dX6_restore_24 : decode cX6_restore 24 = .ok (.getfield 7, 3) := by decide +kernel
theorem dX6_restore_27 : decode cX6_restore 27 = .ok (.iload_n 1, 1) := by decide +kernel
theorem dX6_restore_28 : decode cX6_restore 28 = .ok (.aload_n 0, 1) := by decide +kernel
theorem dX6_restore_29 : decode cX6_restore 29 = .ok (.getfield 16, 3) := by decide +kernel
theorem dX6_restore_32 : decode cX6_restore 32 = .ok (.iload_n 1, 1) := by decide +kernel
theorem dX6_restore_33 : decode cX6_restore 33 = .ok (.iaload, 1) := by decide +kernel
theorem dX6_restore_34 : decode cX6_restore 34 = .ok (.iastore, 1) := by decide +kernel
theorem dX6_restore_35 : decode cX6_restore 35 = .ok (.iinc 1 1, 3) := by decide +kernel
theorem dX6_restore_38 : decode cX6_restore 38 = .ok (.goto (-22), 3) := by decide +kernel
theorem dX6_restore_41 : decode cX6_restore 41 = .ok (.aload_n 0, 1) := by decide +kernel
theorem dX6_restore_42 : decode cX6_restore 42 = .ok (.getfield 7, 3) := by decide +kernel
theorem dX6_restore_45 : decode cX6_restore 45 = .ok (.sipush 332, 3) := by decide +kernel
theorem dX6_restore_48 : decode cX6_restore 48 = .ok (.iaload, 1) := by decide +kernel
theorem dX6_restore_49 : decode cX6_restore 49 = .ok (.ireturn, 1) := by decide +kernel
set_option maxRecDepth 20000 in
theorem ggX6_spot_X6_isSpot : GoodIn wsX6_spot wsX6_isSpot := goodIn_r _ [5, 6, 7, 8, 9, 4, 10] (by decide +kernel) (by decide +kernel)
set_option maxRecDepth 20000 in
theorem gX6_spot_X6_isSpot : GoodIn wsX6_spot (va_wsS RX6 104 yX6_isSpot wsX6_isSpot) := goodIn_app (goodIn_of _ (by decide +kernel)) ggX6_spot_X6_isSpot
set_option maxRecDepth 20000 in
theorem ggX6_spot_X6_zoneOf : GoodIn wsX6_spot wsX6_zoneOf := goodIn_r _ [13] (by decide +kernel) (by decide +kernel)
set_option maxRecDepth 20000 in
theorem gX6_spot_X6_zoneOf : GoodIn wsX6_spot (va_wsS RX6 176 yX6_zoneOf wsX6_zoneOf) := goodIn_app (goodIn_of _ (by decide +kernel)) ggX6_spot_X6_zoneOf
set_option maxRecDepth 20000 in
theorem ggX6_spot_X6_light : GoodIn wsX6_spot wsX6_light := goodIn_r _ [17, 18, 1, 19, 20, 4, 21, 22, 23, 24, 25, 26, 27, 28, 29, 30, 31, 43, 44, 45, 46, 47, 48, 49, 50, 51, 52] (by decide +kernel) (by decide +kernel)
set_option maxRecDepth 20000 in
theorem gX6_spot_X6_light : GoodIn wsX6_spot (wsV RX6 79 RX6 yX6_light wsX6_light) := goodIn_app (goodIn_of _ (by decide +kernel)) ggX6_spot_X6_light
set_option maxRecDepth 20000 in
theorem ggX6_spot_X6_shown : GoodIn wsX6_spot wsX6_shown := goodIn_r _ [35, 36, 37, 4, 38, 29, 30, 31, 39, 40, 41, 42, 1, 43, 44, 45, 46, 47, 48, 49, 50, 51, 52] (by decide +kernel) (by decide +kernel)
set_option maxRecDepth 20000 in
theorem gX6_spot_X6_shown : GoodIn wsX6_spot (wsV RX6 97 RX6 yX6_shown wsX6_shown) := goodIn_app (goodIn_of _ (by decide +kernel)) ggX6_spot_X6_shown
set_option maxRecDepth 20000 in
theorem ggX6_spot_X6_glass : GoodIn wsX6_spot wsX6_glass := goodIn_r _ [38, 29, 30, 4, 31] (by decide +kernel) (by decide +kernel)
set_option maxRecDepth 20000 in
theorem gX6_spot_X6_glass : GoodIn wsX6_spot (va_wsS RX6 56 yX6_glass wsX6_glass) := goodIn_app (goodIn_of _ (by decide +kernel)) ggX6_spot_X6_glass
theorem dX6_spot_0 : decode cX6_spot 0 = .ok (.iload_n 1, 1) := by decide +kernel
theorem dX6_spot_1 : decode cX6_spot 1 = .ok (.iload_n 2, 1) := by decide +kernel
theorem dX6_spot_2 : decode cX6_spot 2 = .ok (.invokestatic 104, 3) := by decide +kernel
theorem dX6_spot_5 : decode cX6_spot 5 = .ok (.ifCond .ne 5, 3) := by decide +kernel
theorem dX6_spot_8 : decode cX6_spot 8 = .ok (.iconst (-1), 1) := by decide +kernel
theorem dX6_spot_9 : decode cX6_spot 9 = .ok (.ireturn, 1) := by decide +kernel
theorem dX6_spot_10 : decode cX6_spot 10 = .ok (.aload_n 0, 1) := by decide +kernel
theorem dX6_spot_11 : decode cX6_spot 11 = .ok (.getfield 7, 3) := by decide +kernel
theorem dX6_spot_14 : decode cX6_spot 14 = .ok (.bipush 24, 2) := by decide +kernel
theorem dX6_spot_16 : decode cX6_spot 16 = .ok (.iload_n 2, 1) := by decide +kernel
theorem dX6_spot_17 : decode cX6_spot 17 = .ok (.imul, 1) := by decide +kernel
theorem dX6_spot_18 : decode cX6_spot 18 = .ok (.iload_n 1, 1) := by decide +kernel
theorem dX6_spot_19 : decode cX6_spot 19 = .ok (.iadd, 1) := by decide +kernel
theorem dX6_spot_20 : decode cX6_spot 20 = .ok (.iaload, 1) := by decide +kernel
theorem dX6_spot_21 : decode cX6_spot 21 = .ok (.istore 4, 2) := by decide +kernel
theorem dX6_spot_23 : decode cX6_spot 23 = .ok (.aload_n 0, 1) := by decide +kernel
theorem dX6_spot_24 : decode cX6_spot 24 = .ok (.bipush 24, 2) := by decide +kernel
theorem dX6_spot_26 : decode cX6_spot 26 = .ok (.iload_n 2, 1) := by decide +kernel
theorem dX6_spot_27 : decode cX6_spot 27 = .ok (.imul, 1) := by decide +kernel
theorem dX6_spot_28 : decode cX6_spot 28 = .ok (.iload_n 1, 1) := by decide +kernel
theorem dX6_spot_29 : decode cX6_spot 29 = .ok (.iadd, 1) := by decide +kernel
theorem dX6_spot_30 : decode cX6_spot 30 = .ok (.invokestatic 176, 3) := by decide +kernel
theorem dX6_spot_33 : decode cX6_spot 33 = .ok (.iconst 0, 1) := by decide +kernel
theorem dX6_spot_34 : decode cX6_spot 34 = .ok (.invokevirtual 79, 3) := by decide +kernel
theorem dX6_spot_37 : decode cX6_spot 37 = .ok (.istore 5, 2) := by decide +kernel
theorem dX6_spot_39 : decode cX6_spot 39 = .ok (.aload_n 0, 1) := by decide +kernel
theorem dX6_spot_40 : decode cX6_spot 40 = .ok (.iload 4, 2) := by decide +kernel
theorem dX6_spot_42 : decode cX6_spot 42 = .ok (.iload 5, 2) := by decide +kernel
theorem dX6_spot_44 : decode cX6_spot 44 = .ok (.invokevirtual 97, 3) := by decide +kernel
theorem dX6_spot_47 : decode cX6_spot 47 = .ok (.istore 6, 2) := by decide +kernel
theorem dX6_spot_49 : decode cX6_spot 49 = .ok (.iload_n 3, 1) := by decide +kernel
theorem dX6_spot_50 : decode cX6_spot 50 = .ok (.tableswitch 75 0 4 #[34, 37, 40, 48, 51], 34) := by decide +kernel
theorem dX6_spot_84 : decode cX6_spot 84 = .ok (.iload 4, 2) := by decide +kernel
theorem dX6_spot_86 : decode cX6_spot 86 = .ok (.ireturn, 1) := by decide +kernel
theorem dX6_spot_87 : decode cX6_spot 87 = .ok (.iload 5, 2) := by decide +kernel
theorem dX6_spot_89 : decode cX6_spot 89 = .ok (.ireturn, 1) := by decide +kernel
theorem dX6_spot_90 : decode cX6_spot 90 = .ok (.iload 4, 2) := by decide +kernel
theorem dX6_spot_92 : decode cX6_spot 92 = .ok (.iload 5, 2) := by decide +kernel
theorem dX6_spot_94 : decode cX6_spot 94 = .ok (.invokestatic 56, 3) := by decide +kernel
theorem dX6_spot_97 : decode cX6_spot 97 = .ok (.ireturn, 1) := by decide +kernel
theorem dX6_spot_98 : decode cX6_spot 98 = .ok (.iload 6, 2) := by decide +kernel
theorem dX6_spot_100 : decode cX6_spot 100 = .ok (.ireturn, 1) := by decide +kernel
theorem dX6_spot_101 : decode cX6_spot 101 = .ok (.iload 6, 2) := by decide +kernel
theorem dX6_spot_103 : decode cX6_spot 103 = .ok (.iload 4, 2) := by decide +kernel
theorem dX6_spot_105 : decode cX6_spot 105 = .ok (.if_icmp .ne 7, 3) := by decide +kernel
theorem dX6_spot_108 : decode cX6_spot 108 = .ok (.iconst 0, 1) := by decide +kernel
theorem dX6_spot_109 : decode cX6_spot 109 = .ok (.goto 15, 3) := by decide +kernel
theorem dX6_spot_112 : decode cX6_spot 112 = .ok (.iload 6, 2) := by decide +kernel
theorem dX6_spot_114 : decode cX6_spot 114 = .ok (.iload 4, 2) := by decide +kernel
theorem dX6_spot_116 : decode cX6_spot 116 = .ok (.if_icmp .ge 7, 3) := by decide +kernel
theorem dX6_spot_119 : decode cX6_spot 119 = .ok (.iconst 1, 1) := by decide +kernel
theorem dX6_spot_120 : decode cX6_spot 120 = .ok (.goto 4, 3) := by decide +kernel
theorem dX6_spot_123 : decode cX6_spot 123 = .ok (.iconst 2, 1) := by decide +kernel
theorem dX6_spot_124 : decode cX6_spot 124 = .ok (.ireturn, 1) := by decide +kernel
theorem dX6_spot_125 : decode cX6_spot 125 = .ok (.bipush (-2), 2) := by decide +kernel
theorem dX6_spot_127 : decode cX6_spot 127 = .ok (.ireturn, 1) := by decide +kernel
set_option maxRecDepth 20000 in
theorem ggX6_wantedFor_X6_wants : GoodIn wsX6_wantedFor wsX6_wants := goodIn_r _ [7, 2, 1, 8, 9, 10, 6, 11, 12, 13, 14, 15, 16, 17, 18, 19, 20, 21, 22, 23, 24, 25, 26, 27, 28, 29, 30, 31, 32, 33, 34, 35, 36, 37, 38, 39, 40, 41, 42, 43, 44, 45, 46, 47, 48, 49, 50, 51, 52, 53, 54, 55, 56, 57, 58, 59, 60, 61, 62, 63, 64, 65, 66, 67, 68, 69, 70, 71, 72, 73] (by decide +kernel) (by decide +kernel)
set_option maxRecDepth 20000 in
theorem gX6_wantedFor_X6_wants : GoodIn wsX6_wantedFor (wsV RX6 100 RX6 yX6_wants wsX6_wants) := goodIn_app (goodIn_of _ (by decide +kernel)) ggX6_wantedFor_X6_wants
theorem dX6_wantedFor_0 : decode cX6_wantedFor 0 = .ok (.aload_n 0, 1) := by decide +kernel
theorem dX6_wantedFor_1 : decode cX6_wantedFor 1 = .ok (.aload_n 0, 1) := by decide +kernel
theorem dX6_wantedFor_2 : decode cX6_wantedFor 2 = .ok (.getfield 7, 3) := by decide +kernel
theorem dX6_wantedFor_5 : decode cX6_wantedFor 5 = .ok (.sipush 327, 3) := by decide +kernel
theorem dX6_wantedFor_8 : decode cX6_wantedFor 8 = .ok (.iaload, 1) := by decide +kernel
theorem dX6_wantedFor_9 : decode cX6_wantedFor 9 = .ok (.invokevirtual 100, 3) := by decide +kernel
theorem dX6_wantedFor_12 : decode cX6_wantedFor 12 = .ok (.aload_n 0, 1) := by decide +kernel
theorem dX6_wantedFor_13 : decode cX6_wantedFor 13 = .ok (.getfield 19, 3) := by decide +kernel
theorem dX6_wantedFor_16 : decode cX6_wantedFor 16 = .ok (.iload_n 1, 1) := by decide +kernel
theorem dX6_wantedFor_17 : decode cX6_wantedFor 17 = .ok (.iaload, 1) := by decide +kernel
theorem dX6_wantedFor_18 : decode cX6_wantedFor 18 = .ok (.ireturn, 1) := by decide +kernel
set_option maxRecDepth 20000 in
theorem ggX6_zone_X6_isZone : GoodIn wsX6_zone wsX6_isZone := goodIn_r _ [5, 6, 7, 8, 4, 9] (by decide +kernel) (by decide +kernel)
set_option maxRecDepth 20000 in
theorem gX6_zone_X6_isZone : GoodIn wsX6_zone (va_wsS RX6 118 yX6_isZone wsX6_isZone) := goodIn_app (goodIn_of _ (by decide +kernel)) ggX6_zone_X6_isZone
set_option maxRecDepth 20000 in
theorem ggX6_zone_X6_wantedFor : GoodIn wsX6_zone wsX6_wantedFor := goodIn_r _ [13, 1, 14, 15, 16, 17, 4, 18, 19, 20, 21, 22, 23, 24, 25, 26, 27, 28, 29, 30, 31, 32, 33, 34, 35, 36, 37, 38, 39, 40, 41, 42, 43, 44, 45, 46, 47, 48, 49, 50, 51, 52, 53, 54, 55, 56, 57, 58, 59, 60, 61, 62, 63, 64, 65, 66, 67, 68, 69, 70, 71, 72, 73, 74, 86, 87, 88, 89, 90, 91, 92, 93, 94, 95] (by decide +kernel) (by decide +kernel)
set_option maxRecDepth 20000 in
theorem gX6_zone_X6_wantedFor : GoodIn wsX6_zone (wsV RX6 179 RX6 yX6_wantedFor wsX6_wantedFor) := goodIn_app (goodIn_of _ (by decide +kernel)) ggX6_zone_X6_wantedFor
set_option maxRecDepth 20000 in
theorem ggX6_zone_X6_light : GoodIn wsX6_zone wsX6_light := goodIn_r _ [44, 14, 1, 45, 46, 4, 47, 48, 49, 50, 51, 52, 53, 54, 34, 35, 36, 86, 87, 88, 89, 90, 91, 92, 93, 94, 95] (by decide +kernel) (by decide +kernel)
set_option maxRecDepth 20000 in
theorem gX6_zone_X6_light : GoodIn wsX6_zone (wsV RX6 79 RX6 yX6_light wsX6_light) := goodIn_app (goodIn_of _ (by decide +kernel)) ggX6_zone_X6_light
set_option maxRecDepth 20000 in
theorem ggX6_zone_X6_greatestIn : GoodIn wsX6_zone wsX6_greatestIn := goodIn_r _ [26, 1, 27, 28, 4, 29, 86, 87, 88, 89, 90, 91, 92, 93, 94, 95] (by decide +kernel) (by decide +kernel)
set_option maxRecDepth 20000 in
theorem gX6_zone_X6_greatestIn : GoodIn wsX6_zone (wsV RX6 65 RX6 yX6_greatestIn wsX6_greatestIn) := goodIn_app (goodIn_of _ (by decide +kernel)) ggX6_zone_X6_greatestIn
set_option maxRecDepth 20000 in
theorem ggX6_zone_X6_meanIn : GoodIn wsX6_zone wsX6_meanIn := goodIn_r _ [33, 1, 27, 28, 4, 29, 86, 87, 88, 89, 90, 91, 92, 93, 94, 95] (by decide +kernel) (by decide +kernel)
set_option maxRecDepth 20000 in
theorem gX6_zone_X6_meanIn : GoodIn wsX6_zone (wsV RX6 68 RX6 yX6_meanIn wsX6_meanIn) := goodIn_app (goodIn_of _ (by decide +kernel)) ggX6_zone_X6_meanIn
set_option maxRecDepth 20000 in
theorem ggX6_zone_X6_leakOf : GoodIn wsX6_zone wsX6_leakOf := goodIn_r _ [74, 1, 86, 87, 88, 89, 90, 91, 92, 93, 94, 95] (by decide +kernel) (by decide +kernel)
set_option maxRecDepth 20000 in
theorem gX6_zone_X6_leakOf : GoodIn wsX6_zone (wsV RX6 59 RX6 yX6_leakOf wsX6_leakOf) := goodIn_app (goodIn_of _ (by decide +kernel)) ggX6_zone_X6_leakOf
