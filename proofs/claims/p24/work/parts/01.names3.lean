theorem dX5_askAll_79 : decode cX5_askAll 79 = .ok (.getfield 33, 3) := by decide +kernel
theorem dX5_askAll_82 : decode cX5_askAll 82 = .ok (.iload_n 2, 1) := by decide +kernel
theorem dX5_askAll_83 : decode cX5_askAll 83 = .ok (.iconst 3, 1) := by decide +kernel
theorem dX5_askAll_84 : decode cX5_askAll 84 = .ok (.invokevirtual 83, 3) := by decide +kernel
theorem dX5_askAll_87 : decode cX5_askAll 87 = .ok (.aload_n 0, 1) := by decide +kernel
theorem dX5_askAll_88 : decode cX5_askAll 88 = .ok (.getfield 33, 3) := by decide +kernel
theorem dX5_askAll_91 : decode cX5_askAll 91 = .ok (.iload_n 2, 1) := by decide +kernel
theorem dX5_askAll_92 : decode cX5_askAll 92 = .ok (.iconst 4, 1) := by decide +kernel
theorem dX5_askAll_93 : decode cX5_askAll 93 = .ok (.invokevirtual 83, 3) := by decide +kernel
theorem dX5_askAll_96 : decode cX5_askAll 96 = .ok (.invokevirtual 86, 3) := by decide +kernel
theorem dX5_askAll_99 : decode cX5_askAll 99 = .ok (.iinc 2 1, 3) := by decide +kernel
theorem dX5_askAll_102 : decode cX5_askAll 102 = .ok (.goto (-66), 3) := by decide +kernel
theorem dX5_askAll_105 : decode cX5_askAll 105 = .ok (.aload_n 0, 1) := by decide +kernel
theorem dX5_askAll_106 : decode cX5_askAll 106 = .ok (.invokevirtual 90, 3) := by decide +kernel
theorem dX5_askAll_109 : decode cX5_askAll 109 = .ok (.ireturn, 1) := by decide +kernel
set_option maxRecDepth 20000 in
theorem ggX5_move_X0_record : GoodIn wsX5_move wsX0_record := goodIn_r _ [10, 11, 12, 13, 14, 15, 16, 17, 18, 19, 20, 21, 22, 23, 24, 25, 26, 27, 28, 29, 58, 59, 60, 61, 62, 63, 64, 65, 66, 67] (by decide +kernel) (by decide +kernel)
set_option maxRecDepth 20000 in
theorem gX5_move_X0_record : GoodIn wsX5_move (wsV RX5 69 RX0 yX0_record wsX0_record) := goodIn_app (goodIn_of _ (by decide +kernel)) ggX5_move_X0_record
set_option maxRecDepth 20000 in
theorem ggX5_move_X5_rememberPicture : GoodIn wsX5_move wsX5_rememberPicture := goodIn_r _ [34, 2, 35, 3, 36, 21, 22, 23, 49, 50, 51, 52, 53, 54, 55, 56, 57, 61, 62, 63, 64, 65, 66, 67] (by decide +kernel) (by decide +kernel)
set_option maxRecDepth 20000 in
theorem gX5_move_X5_rememberPicture : GoodIn wsX5_move (wsV RX5 77 RX5 yX5_rememberPicture wsX5_rememberPicture) := goodIn_app (goodIn_of _ (by decide +kernel)) ggX5_move_X5_rememberPicture
set_option maxRecDepth 20000 in
theorem ggX5_move_X3_takeShifted : GoodIn wsX5_move wsX3_takeShifted := goodIn_r _ [40, 19, 41, 33, 42, 43, 44, 61, 62, 63, 64, 65, 66, 67] (by decide +kernel) (by decide +kernel)
set_option maxRecDepth 20000 in
theorem gX5_move_X3_takeShifted : GoodIn wsX5_move (wsV RX5 99 RX3 yX3_takeShifted wsX3_takeShifted) := goodIn_app (goodIn_of _ (by decide +kernel)) ggX5_move_X3_takeShifted
set_option maxRecDepth 20000 in
theorem ggX5_move_X5_changedSpots : GoodIn wsX5_move wsX5_changedSpots := goodIn_r _ [48, 2, 35, 3, 49, 50, 51, 52, 53, 54, 55, 56, 57, 61, 62, 63, 64, 65, 66, 67] (by decide +kernel) (by decide +kernel)
set_option maxRecDepth 20000 in
theorem gX5_move_X5_changedSpots : GoodIn wsX5_move (wsV RX5 90 RX5 yX5_changedSpots wsX5_changedSpots) := goodIn_app (goodIn_of _ (by decide +kernel)) ggX5_move_X5_changedSpots
theorem dX5_move_0 : decode cX5_move 0 = .ok (.iload_n 1, 1) := by decide +kernel
theorem dX5_move_1 : decode cX5_move 1 = .ok (.ifCond .lt 8, 3) := by decide +kernel
theorem dX5_move_4 : decode cX5_move 4 = .ok (.iload_n 1, 1) := by decide +kernel
theorem dX5_move_5 : decode cX5_move 5 = .ok (.iconst 4, 1) := by decide +kernel
theorem dX5_move_6 : decode cX5_move 6 = .ok (.if_icmp .lt 6, 3) := by decide +kernel
theorem dX5_move_9 : decode cX5_move 9 = .ok (.bipush (-2), 2) := by decide +kernel
theorem dX5_move_11 : decode cX5_move 11 = .ok (.ireturn, 1) := by decide +kernel
theorem dX5_move_12 : decode cX5_move 12 = .ok (.aload_n 0, 1) := by decide +kernel
theorem dX5_move_13 : decode cX5_move 13 = .ok (.getfield 26, 3) := by decide +kernel
theorem dX5_move_16 : decode cX5_move 16 = .ok (.aload_n 0, 1) := by decide +kernel
theorem dX5_move_17 : decode cX5_move 17 = .ok (.getfield 12, 3) := by decide +kernel
theorem dX5_move_20 : decode cX5_move 20 = .ok (.invokevirtual 69, 3) := by decide +kernel
theorem dX5_move_23 : decode cX5_move 23 = .ok (.aload_n 0, 1) := by decide +kernel
theorem dX5_move_24 : decode cX5_move 24 = .ok (.invokevirtual 77, 3) := by decide +kernel
theorem dX5_move_27 : decode cX5_move 27 = .ok (.aload_n 0, 1) := by decide +kernel
theorem dX5_move_28 : decode cX5_move 28 = .ok (.getfield 12, 3) := by decide +kernel
theorem dX5_move_31 : decode cX5_move 31 = .ok (.aload_n 0, 1) := by decide +kernel
theorem dX5_move_32 : decode cX5_move 32 = .ok (.getfield 54, 3) := by decide +kernel
theorem dX5_move_35 : decode cX5_move 35 = .ok (.getstatic 93, 3) := by decide +kernel
theorem dX5_move_38 : decode cX5_move 38 = .ok (.iload_n 1, 1) := by decide +kernel
theorem dX5_move_39 : decode cX5_move 39 = .ok (.iaload, 1) := by decide +kernel
theorem dX5_move_40 : decode cX5_move 40 = .ok (.getstatic 96, 3) := by decide +kernel
theorem dX5_move_43 : decode cX5_move 43 = .ok (.iload_n 1, 1) := by decide +kernel
theorem dX5_move_44 : decode cX5_move 44 = .ok (.iaload, 1) := by decide +kernel
theorem dX5_move_45 : decode cX5_move 45 = .ok (.invokevirtual 99, 3) := by decide +kernel
theorem dX5_move_48 : decode cX5_move 48 = .ok (.aload_n 0, 1) := by decide +kernel
theorem dX5_move_49 : decode cX5_move 49 = .ok (.invokevirtual 90, 3) := by decide +kernel
theorem dX5_move_52 : decode cX5_move 52 = .ok (.ireturn, 1) := by decide +kernel
set_option maxRecDepth 20000 in
theorem ggX5_kill_X5_isZone : GoodIn wsX5_kill wsX5_isZone := goodIn_r _ [8] (by decide +kernel) (by decide +kernel)
set_option maxRecDepth 20000 in
theorem gX5_kill_X5_isZone : GoodIn wsX5_kill (va_wsS RX5 103 yX5_isZone wsX5_isZone) := goodIn_app (goodIn_of _ (by decide +kernel)) ggX5_kill_X5_isZone
set_option maxRecDepth 20000 in
theorem ggX5_kill_X0_record : GoodIn wsX5_kill wsX0_record := goodIn_r _ [13, 14, 15, 16, 17, 18, 19, 20, 21, 22, 23, 24, 25, 26, 27, 28, 29, 30, 31, 32, 49, 50, 51, 42, 43, 44, 45, 46, 47, 48] (by decide +kernel) (by decide +kernel)
set_option maxRecDepth 20000 in
theorem gX5_kill_X0_record : GoodIn wsX5_kill (wsV RX5 69 RX0 yX0_record wsX0_record) := goodIn_app (goodIn_of _ (by decide +kernel)) ggX5_kill_X0_record
theorem dX5_kill_0 : decode cX5_kill 0 = .ok (.iload_n 1, 1) := by decide +kernel
theorem dX5_kill_1 : decode cX5_kill 1 = .ok (.invokestatic 103, 3) := by decide +kernel
theorem dX5_kill_4 : decode cX5_kill 4 = .ok (.ifCond .ne 5, 3) := by decide +kernel
theorem dX5_kill_7 : decode cX5_kill 7 = .ok (.iconst (-1), 1) := by decide +kernel
theorem dX5_kill_8 : decode cX5_kill 8 = .ok (.ireturn, 1) := by decide +kernel
theorem dX5_kill_9 : decode cX5_kill 9 = .ok (.aload_n 0, 1) := by decide +kernel
theorem dX5_kill_10 : decode cX5_kill 10 = .ok (.getfield 12, 3) := by decide +kernel
theorem dX5_kill_13 : decode cX5_kill 13 = .ok (.getfield 107, 3) := by decide +kernel
theorem dX5_kill_16 : decode cX5_kill 16 = .ok (.iload_n 1, 1) := by decide +kernel
theorem dX5_kill_17 : decode cX5_kill 17 = .ok (.baload, 1) := by decide +kernel
theorem dX5_kill_18 : decode cX5_kill 18 = .ok (.iload_n 2, 1) := by decide +kernel
theorem dX5_kill_19 : decode cX5_kill 19 = .ok (.if_icmp .ne 6, 3) := by decide +kernel
theorem dX5_kill_22 : decode cX5_kill 22 = .ok (.bipush (-5), 2) := by decide +kernel
theorem dX5_kill_24 : decode cX5_kill 24 = .ok (.ireturn, 1) := by decide +kernel
theorem dX5_kill_25 : decode cX5_kill 25 = .ok (.aload_n 0, 1) := by decide +kernel
theorem dX5_kill_26 : decode cX5_kill 26 = .ok (.getfield 26, 3) := by decide +kernel
theorem dX5_kill_29 : decode cX5_kill 29 = .ok (.aload_n 0, 1) := by decide +kernel
theorem dX5_kill_30 : decode cX5_kill 30 = .ok (.getfield 12, 3) := by decide +kernel
theorem dX5_kill_33 : decode cX5_kill 33 = .ok (.invokevirtual 69, 3) := by decide +kernel
theorem dX5_kill_36 : decode cX5_kill 36 = .ok (.aload_n 0, 1) := by decide +kernel
theorem dX5_kill_37 : decode cX5_kill 37 = .ok (.getfield 12, 3) := by decide +kernel
theorem dX5_kill_40 : decode cX5_kill 40 = .ok (.getfield 111, 3) := by decide +kernel
theorem dX5_kill_43 : decode cX5_kill 43 = .ok (.iload_n 1, 1) := by decide +kernel
theorem dX5_kill_44 : decode cX5_kill 44 = .ok (.iaload, 1) := by decide +kernel
theorem dX5_kill_45 : decode cX5_kill 45 = .ok (.istore_n 3, 1) := by decide +kernel
theorem dX5_kill_46 : decode cX5_kill 46 = .ok (.aload_n 0, 1) := by decide +kernel
theorem dX5_kill_47 : decode cX5_kill 47 = .ok (.getfield 12, 3) := by decide +kernel
theorem dX5_kill_50 : decode cX5_kill 50 = .ok (.getfield 107, 3) := by decide +kernel
theorem dX5_kill_53 : decode cX5_kill 53 = .ok (.iload_n 1, 1) := by decide +kernel
theorem dX5_kill_54 : decode cX5_kill 54 = .ok (.iload_n 2, 1) := by decide +kernel
theorem dX5_kill_55 : decode cX5_kill 55 = .ok (.bastore, 1) := by decide +kernel
theorem dX5_kill_56 : decode cX5_kill 56 = .ok (.aload_n 0, 1) := by decide +kernel
theorem dX5_kill_57 : decode cX5_kill 57 = .ok (.getfield 12, 3) := by decide +kernel
theorem dX5_kill_60 : decode cX5_kill 60 = .ok (.getfield 111, 3) := by decide +kernel
theorem dX5_kill_63 : decode cX5_kill 63 = .ok (.iload_n 1, 1) := by decide +kernel
theorem dX5_kill_64 : decode cX5_kill 64 = .ok (.iconst 0, 1) := by decide +kernel
theorem dX5_kill_65 : decode cX5_kill 65 = .ok (.iastore, 1) := by decide +kernel
theorem dX5_kill_66 : decode cX5_kill 66 = .ok (.iload_n 3, 1) := by decide +kernel
theorem dX5_kill_67 : decode cX5_kill 67 = .ok (.ireturn, 1) := by decide +kernel
set_option maxRecDepth 20000 in
theorem ggX5_pass_X0_record : GoodIn wsX5_pass wsX0_record := goodIn_r _ [9, 10, 11, 12, 13, 14, 15, 16, 17, 18, 19, 20, 21, 22, 23, 24, 25, 26, 27, 28, 132, 133, 134, 135, 136, 137, 138, 139, 140, 141] (by decide +kernel) (by decide +kernel)
set_option maxRecDepth 20000 in
theorem gX5_pass_X0_record : GoodIn wsX5_pass (wsV RX5 69 RX0 yX0_record wsX0_record) := goodIn_app (goodIn_of _ (by decide +kernel)) ggX5_pass_X0_record
set_option maxRecDepth 20000 in
theorem ggX5_pass_X2_make : GoodIn wsX5_pass wsX2_make := goodIn_r _ [33, 34, 35, 36, 37, 38, 39, 40, 16, 41, 18, 42, 43, 44, 45, 46, 47, 48, 49, 50, 51, 52, 53, 54, 32, 55, 56, 57, 58, 59, 60, 61, 62, 63, 64, 65, 66, 67, 68, 69, 70, 71, 72, 73, 74, 75, 24, 76, 77, 78, 79, 80, 81, 82, 83, 84, 85, 86, 87, 88, 89, 90, 91, 92, 93, 94, 95, 96, 97, 98, 99, 100, 101, 102, 103, 104, 105, 106, 107, 108, 109, 130, 131, 135, 136, 137, 138, 139, 140, 141] (by decide +kernel) (by decide +kernel)
set_option maxRecDepth 20000 in
theorem gX5_pass_X2_make : GoodIn wsX5_pass (wsV RX5 114 RX2 yX2_make wsX2_make) := goodIn_app (goodIn_of _ (by decide +kernel)) ggX5_pass_X2_make
set_option maxRecDepth 20000 in
theorem ggX5_pass_X3_passFrame : GoodIn wsX5_pass wsX3_passFrame := goodIn_r _ [113, 25, 23, 24, 114, 57, 44, 58, 42, 43, 45, 27, 115, 79, 80, 26, 28, 116, 117, 118, 16, 119, 135, 136, 137, 138, 139, 140, 141] (by decide +kernel) (by decide +kernel)
set_option maxRecDepth 20000 in
theorem gX5_pass_X3_passFrame : GoodIn wsX5_pass (wsV RX5 118 RX3 yX3_passFrame wsX3_passFrame) := goodIn_app (goodIn_of _ (by decide +kernel)) ggX5_pass_X3_passFrame
set_option maxRecDepth 20000 in
theorem ggX5_pass_X3_power : GoodIn wsX5_pass wsX3_power := goodIn_r _ [119, 23, 135, 136, 137, 138, 139, 140, 141] (by decide +kernel) (by decide +kernel)
set_option maxRecDepth 20000 in
theorem gX5_pass_X3_power : GoodIn wsX5_pass (wsV RX5 122 RX3 yX3_power wsX3_power) := goodIn_app (goodIn_of _ (by decide +kernel)) ggX5_pass_X3_power
theorem dX5_pass_0 : decode cX5_pass 0 = .ok (.iload_n 1, 1) := by decide +kernel
theorem dX5_pass_1 : decode cX5_pass 1 = .ok (.iconst 1, 1) := by decide +kernel
theorem dX5_pass_2 : decode cX5_pass 2 = .ok (.if_icmp .lt 9, 3) := by decide +kernel
theorem dX5_pass_5 : decode cX5_pass 5 = .ok (.iload_n 1, 1) := by decide +kernel
theorem dX5_pass_6 : decode cX5_pass 6 = .ok (.bipush 99, 2) := by decide +kernel
theorem dX5_pass_8 : decode cX5_pass 8 = .ok (.if_icmp .le 6, 3) := by decide +kernel
theorem dX5_pass_11 : decode cX5_pass 11 = .ok (.bipush (-2), 2) := by decide +kernel
theorem dX5_pass_13 : decode cX5_pass 13 = .ok (.ireturn, 1) := by decide +kernel
theorem dX5_pass_14 : decode cX5_pass 14 = .ok (.aload_n 0, 1) := by decide +kernel
theorem dX5_pass_15 : decode cX5_pass 15 = .ok (.getfield 26, 3) := by decide +kernel
theorem dX5_pass_18 : decode cX5_pass 18 = .ok (.aload_n 0, 1) := by decide +kernel
theorem dX5_pass_19 : decode cX5_pass 19 = .ok (.getfield 12, 3) := by decide +kernel
theorem dX5_pass_22 : decode cX5_pass 22 = .ok (.invokevirtual 69, 3) := by decide +kernel
theorem dX5_pass_25 : decode cX5_pass 25 = .ok (.aload_n 0, 1) := by decide +kernel
theorem dX5_pass_26 : decode cX5_pass 26 = .ok (.getfield 43, 3) := by decide +kernel
theorem dX5_pass_29 : decode cX5_pass 29 = .ok (.aload_n 0, 1) := by decide +kernel
theorem dX5_pass_30 : decode cX5_pass 30 = .ok (.getfield 12, 3) := by decide +kernel
theorem dX5_pass_33 : decode cX5_pass 33 = .ok (.invokevirtual 114, 3) := by decide +kernel
theorem dX5_pass_36 : decode cX5_pass 36 = .ok (.iconst 0, 1) := by decide +kernel
theorem dX5_pass_37 : decode cX5_pass 37 = .ok (.istore_n 2, 1) := by decide +kernel
theorem dX5_pass_38 : decode cX5_pass 38 = .ok (.iload_n 2, 1) := by decide +kernel
theorem dX5_pass_39 : decode cX5_pass 39 = .ok (.iload_n 1, 1) := by decide +kernel
theorem dX5_pass_40 : decode cX5_pass 40 = .ok (.if_icmp .ge 23, 3) := by decide +kernel
theorem dX5_pass_43 : decode cX5_pass 43 = .ok (.aload_n 0, 1) := by decide +kernel
theorem dX5_pass_44 : decode cX5_pass 44 = .ok (.getfield 12, 3) := by decide +kernel
theorem dX5_pass_47 : decode cX5_pass 47 = .ok (.aload_n 0, 1) := by decide +kernel
theorem dX5_pass_48 : decode cX5_pass 48 = .ok (.getfield 43, 3) := by decide +kernel
theorem dX5_pass_51 : decode cX5_pass 51 = .ok (.getfield 117, 3) := by decide +kernel
theorem dX5_pass_54 : decode cX5_pass 54 = .ok (.invokevirtual 118, 3) := by decide +kernel
theorem dX5_pass_57 : decode cX5_pass 57 = .ok (.iinc 2 1, 3) := by decide +kernel
theorem dX5_pass_60 : decode cX5_pass 60 = .ok (.goto (-22), 3) := by decide +kernel
theorem dX5_pass_63 : decode cX5_pass 63 = .ok (.aload_n 0, 1) := by decide +kernel
theorem dX5_pass_64 : decode cX5_pass 64 = .ok (.getfield 12, 3) := by decide +kernel
theorem dX5_pass_67 : decode cX5_pass 67 = .ok (.invokevirtual 122, 3) := by decide +kernel
theorem dX5_pass_70 : decode cX5_pass 70 = .ok (.ireturn, 1) := by decide +kernel
set_option maxRecDepth 20000 in
theorem ggX5_set_X0_record : GoodIn wsX5_set wsX0_record := goodIn_r _ [10, 11, 12, 13, 14, 15, 16, 17, 18, 19, 20, 21, 22, 23, 24, 25, 26, 27, 28, 29, 46, 47, 48, 39, 40, 41, 42, 43, 44, 45] (by decide +kernel) (by decide +kernel)
set_option maxRecDepth 20000 in
theorem gX5_set_X0_record : GoodIn wsX5_set (wsV RX5 69 RX0 yX0_record wsX0_record) := goodIn_app (goodIn_of _ (by decide +kernel)) ggX5_set_X0_record
theorem dX5_set_0 : decode cX5_set 0 = .ok (.iload_n 1, 1) := by decide +kernel
theorem dX5_set_1 : decode cX5_set 1 = .ok (.ifCond .lt 9, 3) := by decide +kernel
theorem dX5_set_4 : decode cX5_set 4 = .ok (.iload_n 1, 1) := by decide +kernel
theorem dX5_set_5 : decode cX5_set 5 = .ok (.bipush 8, 2) := by decide +kernel
theorem dX5_set_7 : decode cX5_set 7 = .ok (.if_icmp .lt 6, 3) := by decide +kernel
theorem dX5_set_10 : decode cX5_set 10 = .ok (.bipush (-2), 2) := by decide +kernel
theorem dX5_set_12 : decode cX5_set 12 = .ok (.ireturn, 1) := by decide +kernel
theorem dX5_set_13 : decode cX5_set 13 = .ok (.iload_n 2, 1) := by decide +kernel
theorem dX5_set_14 : decode cX5_set 14 = .ok (.getstatic 125, 3) := by decide +kernel
theorem dX5_set_17 : decode cX5_set 17 = .ok (.iload_n 1, 1) := by decide +kernel
theorem dX5_set_18 : decode cX5_set 18 = .ok (.iaload, 1) := by decide +kernel
theorem dX5_set_19 : decode cX5_set 19 = .ok (.if_icmp .lt 12, 3) := by decide +kernel
theorem dX5_set_22 : decode cX5_set 22 = .ok (.iload_n 2, 1) := by decide +kernel
theorem dX5_set_23 : decode cX5_set 23 = .ok (.getstatic 128, 3) := by decide +kernel
theorem dX5_set_26 : decode cX5_set 26 = .ok (.iload_n 1, 1) := by decide +kernel
theorem dX5_set_27 : decode cX5_set 27 = .ok (.iaload, 1) := by decide +kernel
theorem dX5_set_28 : decode cX5_set 28 = .ok (.if_icmp .le 6, 3) := by decide +kernel
theorem dX5_set_31 : decode cX5_set 31 = .ok (.bipush (-2), 2) := by decide +kernel
theorem dX5_set_33 : decode cX5_set 33 = .ok (.ireturn, 1) := by decide +kernel
theorem dX5_set_34 : decode cX5_set 34 = .ok (.aload_n 0, 1) := by decide +kernel
theorem dX5_set_35 : decode cX5_set 35 = .ok (.getfield 12, 3) := by decide +kernel
theorem dX5_set_38 : decode cX5_set 38 = .ok (.getfield 131, 3) := by decide +kernel
theorem dX5_set_41 : decode cX5_set 41 = .ok (.iload_n 1, 1) := by decide +kernel
theorem dX5_set_42 : decode cX5_set 42 = .ok (.iaload, 1) := by decide +kernel
theorem dX5_set_43 : decode cX5_set 43 = .ok (.istore_n 3, 1) := by decide +kernel
theorem dX5_set_44 : decode cX5_set 44 = .ok (.iload_n 3, 1) := by decide +kernel
theorem dX5_set_45 : decode cX5_set 45 = .ok (.iload_n 2, 1) := by decide +kernel
theorem dX5_set_46 : decode cX5_set 46 = .ok (.if_icmp .ne 6, 3) := by decide +kernel
theorem dX5_set_49 : decode cX5_set 49 = .ok (.bipush (-5), 2) := by decide +kernel
theorem dX5_set_51 : decode cX5_set 51 = .ok (.ireturn, 1) := by decide +kernel
theorem dX5_set_52 : decode cX5_set 52 = .ok (.aload_n 0, 1) := by decide +kernel
theorem dX5_set_53 : decode cX5_set 53 = .ok (.getfield 26, 3) := by decide +kernel
theorem dX5_set_56 : decode cX5_set 56 = .ok (.aload_n 0, 1) := by decide +kernel
theorem dX5_set_57 : decode cX5_set 57 = .ok (.getfield 12, 3) := by decide +kernel
theorem dX5_set_60 : decode cX5_set 60 = .ok (.invokevirtual 69, 3) := by decide +kernel
theorem dX5_set_63 : decode cX5_set 63 = .ok (.aload_n 0, 1) := by decide +kernel
theorem dX5_set_64 : decode cX5_set 64 = .ok (.getfield 12, 3) := by decide +kernel
theorem dX5_set_67 : decode cX5_set 67 = .ok (.getfield 131, 3) := by decide +kernel
theorem dX5_set_70 : decode cX5_set 70 = .ok (.iload_n 1, 1) := by decide +kernel
theorem dX5_set_71 : decode cX5_set 71 = .ok (.iload_n 2, 1) := by decide +kernel
theorem dX5_set_72 : decode cX5_set 72 = .ok (.iastore, 1) := by decide +kernel
theorem dX5_set_73 : decode cX5_set 73 = .ok (.iload_n 3, 1) := by decide +kernel
theorem dX5_set_74 : decode cX5_set 74 = .ok (.ireturn, 1) := by decide +kernel
set_option maxRecDepth 20000 in
theorem ggX5_type_X1_append : GoodIn wsX5_type wsX1_append := goodIn_r _ [7, 8, 9, 19, 20, 21, 22] (by decide +kernel) (by decide +kernel)
set_option maxRecDepth 20000 in
theorem gX5_type_X1_append : GoodIn wsX5_type (wsV RX5 134 RX1 yX1_append wsX1_append) := goodIn_app (goodIn_of _ (by decide +kernel)) ggX5_type_X1_append
theorem dX5_type_0 : decode cX5_type 0 = .ok (.aload_n 0, 1) := by decide +kernel
theorem dX5_type_1 : decode cX5_type 1 = .ok (.getfield 33, 3) := by decide +kernel
theorem dX5_type_4 : decode cX5_type 4 = .ok (.iload_n 1, 1) := by decide +kernel
theorem dX5_type_5 : decode cX5_type 5 = .ok (.invokevirtual 134, 3) := by decide +kernel
theorem dX5_type_8 : decode cX5_type 8 = .ok (.ifCond .eq 13, 3) := by decide +kernel
theorem dX5_type_11 : decode cX5_type 11 = .ok (.aload_n 0, 1) := by decide +kernel
theorem dX5_type_12 : decode cX5_type 12 = .ok (.getfield 33, 3) := by decide +kernel
theorem dX5_type_15 : decode cX5_type 15 = .ok (.getfield 138, 3) := by decide +kernel
theorem dX5_type_18 : decode cX5_type 18 = .ok (.goto 5, 3) := by decide +kernel
theorem dX5_type_21 : decode cX5_type 21 = .ok (.bipush (-3), 2) := by decide +kernel
theorem dX5_type_23 : decode cX5_type 23 = .ok (.ireturn, 1) := by decide +kernel
theorem dX5_clearText_0 : decode cX5_clearText 0 = .ok (.aload_n 0, 1) := by decide +kernel
theorem dX5_clearText_1 : decode cX5_clearText 1 = .ok (.getfield 33, 3) := by decide +kernel
theorem dX5_clearText_4 : decode cX5_clearText 4 = .ok (.getfield 138, 3) := by decide +kernel
theorem dX5_clearText_7 : decode cX5_clearText 7 = .ok (.istore_n 1, 1) := by decide +kernel
theorem dX5_clearText_8 : decode cX5_clearText 8 = .ok (.aload_n 0, 1) := by decide +kernel
theorem dX5_clearText_9 : decode cX5_clearText 9 = .ok (.getfield 33, 3) := by decide +kernel
theorem dX5_clearText_12 : decode cX5_clearText 12 = .ok (.iconst 0, 1) := by decide +kernel
theorem dX5_clearText_13 : decode cX5_clearText 13 = .ok (.putfield 138, 3) := by decide +kernel
theorem dX5_clearText_16 : decode cX5_clearText 16 = .ok (.iload_n 1, 1) := by decide +kernel
theorem dX5_clearText_17 : decode cX5_clearText 17 = .ok (.ireturn, 1) := by decide +kernel
set_option maxRecDepth 20000 in
theorem ggX5_fault_X1_read : GoodIn wsX5_fault wsX1_read := goodIn_r _ [6, 7, 8, 9, 10, 11, 12, 13, 5, 14, 15, 16, 17, 18, 19, 20, 30, 31, 32, 33] (by decide +kernel) (by decide +kernel)
set_option maxRecDepth 20000 in
theorem gX5_fault_X1_read : GoodIn wsX5_fault (wsV RX5 73 RX1 yX1_read wsX1_read) := goodIn_app (goodIn_of _ (by decide +kernel)) ggX5_fault_X1_read
theorem dX5_fault_0 : decode cX5_fault 0 = .ok (.aload_n 0, 1) := by decide +kernel
theorem dX5_fault_1 : decode cX5_fault 1 = .ok (.getfield 33, 3) := by decide +kernel
theorem dX5_fault_4 : decode cX5_fault 4 = .ok (.invokevirtual 73, 3) := by decide +kernel
theorem dX5_fault_7 : decode cX5_fault 7 = .ok (.ireturn, 1) := by decide +kernel
set_option maxRecDepth 20000 in
theorem ggX5_keep_X3_copyFrom : GoodIn wsX5_keep wsX3_copyFrom := goodIn_r _ [9, 10, 11, 12, 13, 14, 15, 16, 17, 18, 19, 20, 30, 31, 32, 33, 34, 35, 36] (by decide +kernel) (by decide +kernel)
set_option maxRecDepth 20000 in
theorem gX5_keep_X3_copyFrom : GoodIn wsX5_keep (wsV RX5 149 RX3 yX3_copyFrom wsX3_copyFrom) := goodIn_app (goodIn_of _ (by decide +kernel)) ggX5_keep_X3_copyFrom
theorem dX5_keep_0 : decode cX5_keep 0 = .ok (.aload_n 0, 1) := by decide +kernel
theorem dX5_keep_1 : decode cX5_keep 1 = .ok (.getfield 16, 3) := by decide +kernel
theorem dX5_keep_4 : decode cX5_keep 4 = .ok (.aload_n 0, 1) := by decide +kernel
theorem dX5_keep_5 : decode cX5_keep 5 = .ok (.getfield 12, 3) := by decide +kernel
theorem dX5_keep_8 : decode cX5_keep 8 = .ok (.invokevirtual 149, 3) := by decide +kernel
theorem dX5_keep_11 : decode cX5_keep 11 = .ok (.aload_n 0, 1) := by decide +kernel
theorem dX5_keep_12 : decode cX5_keep 12 = .ok (.iconst 1, 1) := by decide +kernel
theorem dX5_keep_13 : decode cX5_keep 13 = .ok (.putfield 19, 3) := by decide +kernel
theorem dX5_keep_16 : decode cX5_keep 16 = .ok (.aload_n 0, 1) := by decide +kernel
theorem dX5_keep_17 : decode cX5_keep 17 = .ok (.getfield 12, 3) := by decide +kernel
theorem dX5_keep_20 : decode cX5_keep 20 = .ok (.getfield 152, 3) := by decide +kernel
theorem dX5_keep_23 : decode cX5_keep 23 = .ok (.ireturn, 1) := by decide +kernel
set_option maxRecDepth 20000 in
theorem ggX5_restore_X0_record : GoodIn wsX5_restore wsX0_record := goodIn_r _ [10, 11, 12, 13, 14, 15, 16, 17, 18, 19, 20, 21, 22, 23, 24, 25, 26, 27, 28, 29, 47, 48, 49, 40, 41, 42, 43, 44, 45, 46] (by decide +kernel) (by decide +kernel)
set_option maxRecDepth 20000 in
theorem gX5_restore_X0_record : GoodIn wsX5_restore (wsV RX5 69 RX0 yX0_record wsX0_record) := goodIn_app (goodIn_of _ (by decide +kernel)) ggX5_restore_X0_record
set_option maxRecDepth 20000 in
theorem ggX5_restore_X3_copyFrom : GoodIn wsX5_restore wsX3_copyFrom := goodIn_r _ [18, 19, 20, 21, 22, 23, 24, 25, 26, 27, 28, 29, 40, 41, 42, 43, 44, 45, 46] (by decide +kernel) (by decide +kernel)
set_option maxRecDepth 20000 in
theorem gX5_restore_X3_copyFrom : GoodIn wsX5_restore (wsV RX5 149 RX3 yX3_copyFrom wsX3_copyFrom) := goodIn_app (goodIn_of _ (by decide +kernel)) ggX5_restore_X3_copyFrom
theorem dX5_restore_0 : decode cX5_restore 0 = .ok (.aload_n 0, 1) := by decide +kernel
theorem dX5_restore_1 : decode cX5_restore 1 = .ok (.getfield 19, 3) := by decide +kernel
theorem dX5_restore_4 : decode cX5_restore 4 = .ok (.ifCond .ne 6, 3) := by decide +kernel
theorem dX5_restore_7 : decode cX5_restore 7 = .ok (.bipush (-5), 2) := by decide +kernel
theorem dX5_restore_9 : decode cX5_restore 9 = .ok (.ireturn, 1) := by decide +kernel
theorem dX5_restore_10 : decode cX5_restore 10 = .ok (.aload_n 0, 1) := by decide +kernel
theorem dX5_restore_11 : decode cX5_restore 11 = .ok (.getfield 26, 3) := by decide +kernel
theorem dX5_restore_14 : decode cX5_restore 14 = .ok (.aload_n 0, 1) := by decide +kernel
theorem dX5_restore_15 : decode cX5_restore 15 = .ok (.getfield 12, 3) := by decide +kernel
theorem dX5_restore_18 : decode cX5_restore 18 = .ok (.invokevirtual 69, 3) := by decide +kernel
theorem dX5_restore_21 : decode cX5_restore 21 = .ok (.aload_n 0, 1) := by decide +kernel
theorem dX5_restore_22 : decode cX5_restore 22 = .ok (.getfield 12, 3) := by decide +kernel
theorem dX5_restore_25 : decode cX5_restore 25 = .ok (.aload_n 0, 1) := by decide +kernel
theorem dX5_restore_26 : decode cX5_restore 26 = .ok (.getfield 16, 3) := by decide +kernel
theorem dX5_restore_29 : decode cX5_restore 29 = .ok (.invokevirtual 149, 3) := by decide +kernel
theorem dX5_restore_32 : decode cX5_restore 32 = .ok (.aload_n 0, 1) := by decide +kernel
theorem dX5_restore_33 : decode cX5_restore 33 = .ok (.getfield 12, 3) := by decide +kernel
theorem dX5_restore_36 : decode cX5_restore 36 = .ok (.getfield 152, 3) := by decide +kernel
theorem dX5_restore_39 : decode cX5_restore 39 = .ok (.ireturn, 1) := by decide +kernel
set_option maxRecDepth 20000 in
theorem ggX5_spot_X5_onScreen : GoodIn wsX5_spot wsX5_onScreen := goodIn_r _ [6] (by decide +kernel) (by decide +kernel)
set_option maxRecDepth 20000 in
theorem gX5_spot_X5_onScreen : GoodIn wsX5_spot (va_wsS RX5 58 yX5_onScreen wsX5_onScreen) := goodIn_app (goodIn_of _ (by decide +kernel)) ggX5_spot_X5_onScreen
set_option maxRecDepth 20000 in
theorem ggX5_spot_X5_spotAt : GoodIn wsX5_spot wsX5_spotAt := goodIn_r _ [9] (by decide +kernel) (by decide +kernel)
set_option maxRecDepth 20000 in
theorem gX5_spot_X5_spotAt : GoodIn wsX5_spot (va_wsS RX5 62 yX5_spotAt wsX5_spotAt) := goodIn_app (goodIn_of _ (by decide +kernel)) ggX5_spot_X5_spotAt
set_option maxRecDepth 20000 in
theorem ggX5_spot_X3_light : GoodIn wsX5_spot wsX3_light := goodIn_r _ [14, 15, 16, 17, 18, 13, 19, 20, 21, 5, 22, 23, 24, 25, 26, 27, 28, 29, 30, 31, 32, 33, 34, 62, 63, 64, 65, 66, 67, 68] (by decide +kernel) (by decide +kernel)
set_option maxRecDepth 20000 in
theorem gX5_spot_X3_light : GoodIn wsX5_spot (wsV RX5 155 RX3 yX3_light wsX3_light) := goodIn_app (goodIn_of _ (by decide +kernel)) ggX5_spot_X3_light
set_option maxRecDepth 20000 in
theorem ggX5_spot_X5_glassFor : GoodIn wsX5_spot wsX5_glassFor := goodIn_r _ [37, 32, 33, 25, 34, 38, 39, 5, 40] (by decide +kernel) (by decide +kernel)
set_option maxRecDepth 20000 in
theorem gX5_spot_X5_glassFor : GoodIn wsX5_spot (va_wsS RX5 159 yX5_glassFor wsX5_glassFor) := goodIn_app (goodIn_of _ (by decide +kernel)) ggX5_spot_X5_glassFor
set_option maxRecDepth 20000 in
theorem ggX5_spot_X3_shown : GoodIn wsX5_spot wsX3_shown := goodIn_r _ [44, 45, 28, 25, 29, 36, 5, 37, 32, 33, 34, 38, 39, 40, 46, 47, 48, 13, 49, 20, 62, 63, 64, 65, 66, 67, 68] (by decide +kernel) (by decide +kernel)
set_option maxRecDepth 20000 in
theorem gX5_spot_X3_shown : GoodIn wsX5_spot (wsV RX5 162 RX3 yX3_shown wsX3_shown) := goodIn_app (goodIn_of _ (by decide +kernel)) ggX5_spot_X3_shown
set_option maxRecDepth 20000 in
theorem ggX5_spot_X5_verdict : GoodIn wsX5_spot wsX5_verdict := goodIn_r _ [52] (by decide +kernel) (by decide +kernel)
set_option maxRecDepth 20000 in
theorem gX5_spot_X5_verdict : GoodIn wsX5_spot (va_wsS RX5 165 yX5_verdict wsX5_verdict) := goodIn_app (goodIn_of _ (by decide +kernel)) ggX5_spot_X5_verdict
theorem dX5_spot_0 : decode cX5_spot 0 = .ok (.iload_n 1, 1) := by decide +kernel
theorem dX5_spot_1 : decode cX5_spot 1 = .ok (.iload_n 2, 1) := by decide +kernel
theorem dX5_spot_2 : decode cX5_spot 2 = .ok (.invokestatic 58, 3) := by decide +kernel
theorem dX5_spot_5 : decode cX5_spot 5 = .ok (.ifCond .ne 5, 3) := by decide +kernel
theorem dX5_spot_8 : decode cX5_spot 8 = .ok (.iconst (-1), 1) := by decide +kernel
theorem dX5_spot_9 : decode cX5_spot 9 = .ok (.ireturn, 1) := by decide +kernel
theorem dX5_spot_10 : decode cX5_spot 10 = .ok (.iload_n 3, 1) := by decide +kernel
theorem dX5_spot_11 : decode cX5_spot 11 = .ok (.ifCond .lt 8, 3) := by decide +kernel
theorem dX5_spot_14 : decode cX5_spot 14 = .ok (.iload_n 3, 1) := by decide +kernel
theorem dX5_spot_15 : decode cX5_spot 15 = .ok (.iconst 4, 1) := by decide +kernel
theorem dX5_spot_16 : decode cX5_spot 16 = .ok (.if_icmp .le 6, 3) := by decide +kernel
theorem dX5_spot_19 : decode cX5_spot 19 = .ok (.bipush (-2), 2) := by decide +kernel
theorem dX5_spot_21 : decode cX5_spot 21 = .ok (.ireturn, 1) := by decide +kernel
theorem dX5_spot_22 : decode cX5_spot 22 = .ok (.aload_n 0, 1) := by decide +kernel
theorem dX5_spot_23 : decode cX5_spot 23 = .ok (.getfield 12, 3) := by decide +kernel
theorem dX5_spot_26 : decode cX5_spot 26 = .ok (.getfield 66, 3) := by decide +kernel
theorem dX5_spot_29 : decode cX5_spot 29 = .ok (.iload_n 1, 1) := by decide +kernel
theorem dX5_spot_30 : decode cX5_spot 30 = .ok (.iload_n 2, 1) := by decide +kernel
theorem dX5_spot_31 : decode cX5_spot 31 = .ok (.invokestatic 62, 3) := by decide +kernel
theorem dX5_spot_34 : decode cX5_spot 34 = .ok (.iaload, 1) := by decide +kernel
theorem dX5_spot_35 : decode cX5_spot 35 = .ok (.istore 4, 2) := by decide +kernel
theorem dX5_spot_37 : decode cX5_spot 37 = .ok (.aload_n 0, 1) := by decide +kernel
theorem dX5_spot_38 : decode cX5_spot 38 = .ok (.getfield 12, 3) := by decide +kernel
theorem dX5_spot_41 : decode cX5_spot 41 = .ok (.bipush 6, 2) := by decide +kernel
theorem dX5_spot_43 : decode cX5_spot 43 = .ok (.iload_n 2, 1) := by decide +kernel
theorem dX5_spot_44 : decode cX5_spot 44 = .ok (.iconst 4, 1) := by decide +kernel
theorem dX5_spot_45 : decode cX5_spot 45 = .ok (.idiv, 1) := by decide +kernel
theorem dX5_spot_46 : decode cX5_spot 46 = .ok (.imul, 1) := by decide +kernel
theorem dX5_spot_47 : decode cX5_spot 47 = .ok (.iload_n 1, 1) := by decide +kernel
theorem dX5_spot_48 : decode cX5_spot 48 = .ok (.iconst 4, 1) := by decide +kernel
theorem dX5_spot_49 : decode cX5_spot 49 = .ok (.idiv, 1) := by decide +kernel
theorem dX5_spot_50 : decode cX5_spot 50 = .ok (.iadd, 1) := by decide +kernel
theorem dX5_spot_51 : decode cX5_spot 51 = .ok (.invokevirtual 155, 3) := by decide +kernel
theorem dX5_spot_54 : decode cX5_spot 54 = .ok (.istore 5, 2) := by decide +kernel
theorem dX5_spot_56 : decode cX5_spot 56 = .ok (.iload_n 3, 1) := by decide +kernel
theorem dX5_spot_57 : decode cX5_spot 57 = .ok (.tableswitch 57 0 3 #[31, 34, 37, 45], 31) := by decide +kernel
theorem dX5_spot_88 : decode cX5_spot 88 = .ok (.iload 4, 2) := by decide +kernel
theorem dX5_spot_90 : decode cX5_spot 90 = .ok (.ireturn, 1) := by decide +kernel
theorem dX5_spot_91 : decode cX5_spot 91 = .ok (.iload 5, 2) := by decide +kernel
theorem dX5_spot_93 : decode cX5_spot 93 = .ok (.ireturn, 1) := by decide +kernel
theorem dX5_spot_94 : decode cX5_spot 94 = .ok (.iload 4, 2) := by decide +kernel
theorem dX5_spot_96 : decode cX5_spot 96 = .ok (.iload 5, 2) := by decide +kernel
theorem dX5_spot_98 : decode cX5_spot 98 = .ok (.invokestatic 159, 3) := by decide +kernel
theorem dX5_spot_101 : decode cX5_spot 101 = .ok (.ireturn, 1) := by decide +kernel
theorem dX5_spot_102 : decode cX5_spot 102 = .ok (.aload_n 0, 1) := by decide +kernel
theorem dX5_spot_103 : decode cX5_spot 103 = .ok (.getfield 12, 3) := by decide +kernel
theorem dX5_spot_106 : decode cX5_spot 106 = .ok (.iload 4, 2) := by decide +kernel
theorem dX5_spot_108 : decode cX5_spot 108 = .ok (.iload 5, 2) := by decide +kernel
theorem dX5_spot_110 : decode cX5_spot 110 = .ok (.invokevirtual 162, 3) := by decide +kernel
theorem dX5_spot_113 : decode cX5_spot 113 = .ok (.ireturn, 1) := by decide +kernel
theorem dX5_spot_114 : decode cX5_spot 114 = .ok (.iload 4, 2) := by decide +kernel
theorem dX5_spot_116 : decode cX5_spot 116 = .ok (.aload_n 0, 1) := by decide +kernel
theorem dX5_spot_117 : decode cX5_spot 117 = .ok (.getfield 12, 3) := by decide +kernel
theorem dX5_spot_120 : decode cX5_spot 120 = .ok (.iload 4, 2) := by decide +kernel
theorem dX5_spot_122 : decode cX5_spot 122 = .ok (.iload 5, 2) := by decide +kernel
theorem dX5_spot_124 : decode cX5_spot 124 = .ok (.invokevirtual 162, 3) := by decide +kernel
theorem dX5_spot_127 : decode cX5_spot 127 = .ok (.invokestatic 165, 3) := by decide +kernel
theorem dX5_spot_130 : decode cX5_spot 130 = .ok (.ireturn, 1) := by decide +kernel
set_option maxRecDepth 20000 in
theorem ggX5_zone_X5_isZone : GoodIn wsX5_zone wsX5_isZone := goodIn_r _ [12] (by decide +kernel) (by decide +kernel)
set_option maxRecDepth 20000 in
theorem gX5_zone_X5_isZone : GoodIn wsX5_zone (va_wsS RX5 103 yX5_isZone wsX5_isZone) := goodIn_app (goodIn_of _ (by decide +kernel)) ggX5_zone_X5_isZone
set_option maxRecDepth 20000 in
theorem ggX5_zone_X2_make : GoodIn wsX5_zone wsX2_make := goodIn_r _ [17, 18, 19, 20, 21, 22, 23, 24, 25, 26, 27, 28, 29, 30, 31, 32, 11, 33, 34, 35, 36, 37, 38, 39, 16, 40, 41, 42, 43, 44, 45, 46, 47, 48, 49, 50, 51, 52, 53, 54, 55, 56, 57, 58, 59, 60, 61, 62, 63, 64, 65, 66, 67, 68, 69, 70, 71, 72, 73, 74, 75, 76, 77, 78, 79, 80, 81, 82, 83, 84, 85, 86, 87, 88, 89, 90, 91, 92, 93, 94, 95, 157, 158, 150, 151, 152, 153, 154, 155, 156] (by decide +kernel) (by decide +kernel)
set_option maxRecDepth 20000 in
theorem gX5_zone_X2_make : GoodIn wsX5_zone (wsV RX5 114 RX2 yX2_make wsX2_make) := goodIn_app (goodIn_of _ (by decide +kernel)) ggX5_zone_X2_make
set_option maxRecDepth 20000 in
theorem ggX5_zone_X3_light : GoodIn wsX5_zone wsX3_light := goodIn_r _ [99, 100, 101, 58, 59, 25, 60, 61, 62, 11, 63, 64, 65, 30, 66, 67, 29, 31, 68, 69, 70, 42, 43, 150, 151, 152, 153, 154, 155, 156] (by decide +kernel) (by decide +kernel)
set_option maxRecDepth 20000 in
theorem gX5_zone_X3_light : GoodIn wsX5_zone (wsV RX5 155 RX3 yX3_light wsX3_light) := goodIn_app (goodIn_of _ (by decide +kernel)) ggX5_zone_X3_light
set_option maxRecDepth 20000 in
theorem ggX5_zone_X3_peak : GoodIn wsX5_zone wsX3_peak := goodIn_r _ [26, 27, 28, 29, 30, 31, 32, 11, 33, 34, 35, 36, 150, 151, 152, 153, 154, 155, 156] (by decide +kernel) (by decide +kernel)
set_option maxRecDepth 20000 in
theorem gX5_zone_X3_peak : GoodIn wsX5_zone (wsV RX5 168 RX3 yX3_peak wsX3_peak) := goodIn_app (goodIn_of _ (by decide +kernel)) ggX5_zone_X3_peak
set_option maxRecDepth 20000 in
theorem ggX5_zone_X3_mean : GoodIn wsX5_zone wsX3_mean := goodIn_r _ [51, 27, 32, 11, 33, 34, 35, 36, 150, 151, 152, 153, 154, 155, 156] (by decide +kernel) (by decide +kernel)
set_option maxRecDepth 20000 in
theorem gX5_zone_X3_mean : GoodIn wsX5_zone (wsV RX5 171 RX3 yX3_mean wsX3_mean) := goodIn_app (goodIn_of _ (by decide +kernel)) ggX5_zone_X3_mean
set_option maxRecDepth 20000 in
theorem ggX5_zone_X3_leakOf : GoodIn wsX5_zone wsX3_leakOf := goodIn_r _ [95, 61, 150, 151, 152, 153, 154, 155, 156] (by decide +kernel) (by decide +kernel)
set_option maxRecDepth 20000 in
theorem gX5_zone_X3_leakOf : GoodIn wsX5_zone (wsV RX5 174 RX3 yX3_leakOf wsX3_leakOf) := goodIn_app (goodIn_of _ (by decide +kernel)) ggX5_zone_X3_leakOf
set_option maxRecDepth 20000 in
theorem ggX5_zone_X4_takeZone : GoodIn wsX5_zone wsX4_takeZone := goodIn_r _ [109, 110, 111, 112, 108, 113, 114, 115, 116, 117, 118, 119, 120, 121, 122, 123, 124, 97, 98, 25, 99, 100, 101, 58, 59, 60, 61, 62, 11, 63, 64, 65, 30, 66, 67, 29, 31, 68, 69, 70, 42, 43, 32, 33, 34, 35, 36, 125, 126, 127, 128, 28, 129, 130, 131, 78, 79, 132, 93, 94, 95, 133, 134, 135, 136, 137, 138, 139, 140, 159, 160, 161, 162, 163, 150, 151, 152, 153, 154, 155, 156] (by decide +kernel) (by decide +kernel)
set_option maxRecDepth 20000 in
theorem gX5_zone_X4_takeZone : GoodIn wsX5_zone (wsV RX5 177 RX4 yX4_takeZone wsX4_takeZone) := goodIn_app (goodIn_of _ (by decide +kernel)) ggX5_zone_X4_takeZone
theorem dX5_zone_0 : decode cX5_zone 0 = .ok (.iload_n 1, 1) := by decide +kernel
theorem dX5_zone_1 : decode cX5_zone 1 = .ok (.invokestatic 103, 3) := by decide +kernel
theorem dX5_zone_4 : decode cX5_zone 4 = .ok (.ifCond .ne 5, 3) := by decide +kernel
theorem dX5_zone_7 : decode cX5_zone 7 = .ok (.iconst (-1), 1) := by decide +kernel
theorem dX5_zone_8 : decode cX5_zone 8 = .ok (.ireturn, 1) := by decide +kernel
theorem dX5_zone_9 : decode cX5_zone 9 = .ok (.iload_n 2, 1) := by decide +kernel
theorem dX5_zone_10 : decode cX5_zone 10 = .ok (.tableswitch 182 0 8 #[50, 60, 81, 90, 108, 117, 126, 142, 162], 50) := by decide +kernel
theorem dX5_zone_60 : decode cX5_zone 60 = .ok (.aload_n 0, 1) := by decide +kernel
theorem dX5_zone_61 : decode cX5_zone 61 = .ok (.getfield 12, 3) := by decide +kernel
theorem dX5_zone_64 : decode cX5_zone 64 = .ok (.getfield 111, 3) := by decide +kernel
theorem dX5_zone_67 : decode cX5_zone 67 = .ok (.iload_n 1, 1) := by decide +kernel
theorem dX5_zone_68 : decode cX5_zone 68 = .ok (.iaload, 1) := by decide +kernel
theorem dX5_zone_69 : decode cX5_zone 69 = .ok (.ireturn, 1) := by decide +kernel
theorem dX5_zone_70 : decode cX5_zone 70 = .ok (.aload_n 0, 1) := by decide +kernel
theorem dX5_zone_71 : decode cX5_zone 71 = .ok (.getfield 43, 3) := by decide +kernel
theorem dX5_zone_74 : decode cX5_zone 74 = .ok (.aload_n 0, 1) := by decide +kernel
theorem dX5_zone_75 : decode cX5_zone 75 = .ok (.getfield 12, 3) := by decide +kernel
theorem dX5_zone_78 : decode cX5_zone 78 = .ok (.invokevirtual 114, 3) := by decide +kernel
theorem dX5_zone_81 : decode cX5_zone 81 = .ok (.aload_n 0, 1) := by decide +kernel
theorem dX5_zone_82 : decode cX5_zone 82 = .ok (.getfield 43, 3) := by decide +kernel
theorem dX5_zone_85 : decode cX5_zone 85 = .ok (.getfield 117, 3) := by decide +kernel
theorem dX5_zone_88 : decode cX5_zone 88 = .ok (.iload_n 1, 1) := by decide +kernel
theorem dX5_zone_89 : decode cX5_zone 89 = .ok (.iaload, 1) := by decide +kernel
theorem dX5_zone_90 : decode cX5_zone 90 = .ok (.ireturn, 1) := by decide +kernel
theorem dX5_zone_91 : decode cX5_zone 91 = .ok (.aload_n 0, 1) := by decide +kernel
theorem dX5_zone_92 : decode cX5_zone 92 = .ok (.getfield 12, 3) := by decide +kernel
theorem dX5_zone_95 : decode cX5_zone 95 = .ok (.iload_n 1, 1) := by decide +kernel
theorem dX5_zone_96 : decode cX5_zone 96 = .ok (.invokevirtual 155, 3) := by decide +kernel
theorem dX5_zone_99 : decode cX5_zone 99 = .ok (.ireturn, 1) := by decide +kernel
theorem dX5_zone_100 : decode cX5_zone 100 = .ok (.aload_n 0, 1) := by decide +kernel
theorem dX5_zone_101 : decode cX5_zone 101 = .ok (.getfield 12, 3) := by decide +kernel
theorem dX5_zone_104 : decode cX5_zone 104 = .ok (.getfield 107, 3) := by decide +kernel
theorem dX5_zone_107 : decode cX5_zone 107 = .ok (.iload_n 1, 1) := by decide +kernel
theorem dX5_zone_108 : decode cX5_zone 108 = .ok (.baload, 1) := by decide +kernel
theorem dX5_zone_109 : decode cX5_zone 109 = .ok (.ifCond .eq 7, 3) := by decide +kernel
theorem dX5_zone_112 : decode cX5_zone 112 = .ok (.iconst 1, 1) := by decide +kernel
theorem dX5_zone_113 : decode cX5_zone 113 = .ok (.goto 4, 3) := by decide +kernel
theorem dX5_zone_116 : decode cX5_zone 116 = .ok (.iconst 0, 1) := by decide +kernel
theorem dX5_zone_117 : decode cX5_zone 117 = .ok (.ireturn, 1) := by decide +kernel
theorem dX5_zone_118 : decode cX5_zone 118 = .ok (.aload_n 0, 1) := by decide +kernel
theorem dX5_zone_119 : decode cX5_zone 119 = .ok (.getfield 12, 3) := by decide +kernel
theorem dX5_zone_122 : decode cX5_zone 122 = .ok (.iload_n 1, 1) := by decide +kernel
theorem dX5_zone_123 : decode cX5_zone 123 = .ok (.invokevirtual 168, 3) := by decide +kernel
theorem dX5_zone_126 : decode cX5_zone 126 = .ok (.ireturn, 1) := by decide +kernel
theorem dX5_zone_127 : decode cX5_zone 127 = .ok (.aload_n 0, 1) := by decide +kernel
theorem dX5_zone_128 : decode cX5_zone 128 = .ok (.getfield 12, 3) := by decide +kernel
theorem dX5_zone_131 : decode cX5_zone 131 = .ok (.iload_n 1, 1) := by decide +kernel
theorem dX5_zone_132 : decode cX5_zone 132 = .ok (.invokevirtual 171, 3) := by decide +kernel
theorem dX5_zone_135 : decode cX5_zone 135 = .ok (.ireturn, 1) := by decide +kernel
theorem dX5_zone_136 : decode cX5_zone 136 = .ok (.aload_n 0, 1) := by decide +kernel
theorem dX5_zone_137 : decode cX5_zone 137 = .ok (.getfield 12, 3) := by decide +kernel
theorem dX5_zone_140 : decode cX5_zone 140 = .ok (.aload_n 0, 1) := by decide +kernel
theorem dX5_zone_141 : decode cX5_zone 141 = .ok (.getfield 12, 3) := by decide +kernel
theorem dX5_zone_144 : decode cX5_zone 144 = .ok (.iload_n 1, 1) := by decide +kernel
theorem dX5_zone_145 : decode cX5_zone 145 = .ok (.invokevirtual 155, 3) := by decide +kernel
theorem dX5_zone_148 : decode cX5_zone 148 = .ok (.invokevirtual 174, 3) := by decide +kernel
theorem dX5_zone_151 : decode cX5_zone 151 = .ok (.ireturn, 1) := by decide +kernel
theorem dX5_zone_152 : decode cX5_zone 152 = .ok (.aload_n 0, 1) := by decide +kernel
theorem dX5_zone_153 : decode cX5_zone 153 = .ok (.getfield 50, 3) := by decide +kernel
theorem dX5_zone_156 : decode cX5_zone 156 = .ok (.aload_n 0, 1) := by decide +kernel
theorem dX5_zone_157 : decode cX5_zone 157 = .ok (.getfield 12, 3) := by decide +kernel
theorem dX5_zone_160 : decode cX5_zone 160 = .ok (.iload_n 1, 1) := by decide +kernel
theorem dX5_zone_161 : decode cX5_zone 161 = .ok (.invokevirtual 177, 3) := by decide +kernel
theorem dX5_zone_164 : decode cX5_zone 164 = .ok (.aload_n 0, 1) := by decide +kernel
theorem dX5_zone_165 : decode cX5_zone 165 = .ok (.getfield 50, 3) := by decide +kernel
theorem dX5_zone_168 : decode cX5_zone 168 = .ok (.getfield 181, 3) := by decide +kernel
theorem dX5_zone_171 : decode cX5_zone 171 = .ok (.ireturn, 1) := by decide +kernel
theorem dX5_zone_172 : decode cX5_zone 172 = .ok (.aload_n 0, 1) := by decide +kernel
theorem dX5_zone_173 : decode cX5_zone 173 = .ok (.getfield 50, 3) := by decide +kernel
theorem dX5_zone_176 : decode cX5_zone 176 = .ok (.aload_n 0, 1) := by decide +kernel
theorem dX5_zone_177 : decode cX5_zone 177 = .ok (.getfield 12, 3) := by decide +kernel
theorem dX5_zone_180 : decode cX5_zone 180 = .ok (.iload_n 1, 1) := by decide +kernel
theorem dX5_zone_181 : decode cX5_zone 181 = .ok (.invokevirtual 177, 3) := by decide +kernel
theorem dX5_zone_184 : decode cX5_zone 184 = .ok (.aload_n 0, 1) := by decide +kernel
theorem dX5_zone_185 : decode cX5_zone 185 = .ok (.getfield 50, 3) := by decide +kernel
theorem dX5_zone_188 : decode cX5_zone 188 = .ok (.getfield 184, 3) := by decide +kernel
theorem dX5_zone_191 : decode cX5_zone 191 = .ok (.ireturn, 1) := by decide +kernel
theorem dX5_zone_192 : decode cX5_zone 192 = .ok (.bipush (-2), 2) := by decide +kernel
theorem dX5_zone_194 : decode cX5_zone 194 = .ok (.ireturn, 1) := by decide +kernel
set_option maxRecDepth 20000 in
theorem ggX5_count_X3_power : GoodIn wsX5_count wsX3_power := goodIn_r _ [14, 15, 169, 170, 171, 172, 173, 174, 175] (by decide +kernel) (by decide +kernel)
set_option maxRecDepth 20000 in
theorem gX5_count_X3_power : GoodIn wsX5_count (wsV RX5 122 RX3 yX3_power wsX3_power) := goodIn_app (goodIn_of _ (by decide +kernel)) ggX5_count_X3_power
set_option maxRecDepth 20000 in
theorem ggX5_count_X3_deadZones : GoodIn wsX5_count wsX3_deadZones := goodIn_r _ [19, 20, 169, 170, 171, 172, 173, 174, 175] (by decide +kernel) (by decide +kernel)
set_option maxRecDepth 20000 in
theorem gX5_count_X3_deadZones : GoodIn wsX5_count (wsV RX5 193 RX3 yX3_deadZones wsX3_deadZones) := goodIn_app (goodIn_of _ (by decide +kernel)) ggX5_count_X3_deadZones
set_option maxRecDepth 20000 in
theorem ggX5_count_X5_greatestGap : GoodIn wsX5_count wsX5_greatestGap := goodIn_r _ [25, 26, 1, 27, 28, 29, 30, 31, 32, 33, 34, 35, 36, 37, 38, 39, 40, 41, 42, 43, 44, 45, 46, 47, 13, 48, 49, 50, 51, 24, 52, 53, 54, 55, 56, 57, 58, 59, 60, 61, 62, 63, 64, 65, 66, 67, 68, 69, 70, 71, 72, 73, 74, 75, 76, 77, 78, 79, 80, 81, 82, 83, 84, 85, 86, 87, 88, 89, 90, 91, 92, 93, 94, 95, 96, 97, 98, 99, 100, 101, 102, 103, 104, 105, 106, 107, 108, 109, 110, 160, 161, 162, 163, 164, 165, 166, 167, 168, 183, 184, 169, 170, 171, 172, 173, 174, 175] (by decide +kernel) (by decide +kernel)
set_option maxRecDepth 20000 in
theorem gX5_count_X5_greatestGap : GoodIn wsX5_count (wsV RX5 196 RX5 yX5_greatestGap wsX5_greatestGap) := goodIn_app (goodIn_of _ (by decide +kernel)) ggX5_count_X5_greatestGap
set_option maxRecDepth 20000 in
theorem ggX5_count_X5_countSpots : GoodIn wsX5_count wsX5_countSpots := goodIn_r _ [114, 115, 1, 116, 117, 118, 119, 120, 121, 122, 123, 124, 125, 126, 127, 128, 129, 130, 131, 132, 133, 134, 135, 136, 137, 138, 139, 140, 141, 13, 142, 15, 143, 77, 78, 79, 80, 81, 24, 82, 29, 30, 31, 32, 33, 34, 35, 83, 84, 85, 61, 62, 51, 52, 53, 54, 55, 144, 145, 146, 147, 50, 148, 149, 150, 93, 94, 151, 108, 109, 110, 152, 153, 154, 155, 156, 157, 158, 159, 160, 161, 162, 163, 164, 165, 166, 167, 168, 185, 186, 187, 188, 189, 169, 170, 171, 172, 173, 174, 175] (by decide +kernel) (by decide +kernel)
set_option maxRecDepth 20000 in
theorem gX5_count_X5_countSpots : GoodIn wsX5_count (wsV RX5 199 RX5 yX5_countSpots wsX5_countSpots) := goodIn_app (goodIn_of _ (by decide +kernel)) ggX5_count_X5_countSpots
theorem dX5_count_0 : decode cX5_count 0 = .ok (.iload_n 1, 1) := by decide +kernel
theorem dX5_count_1 : decode cX5_count 1 = .ok (.ifCond .lt 9, 3) := by decide +kernel
theorem dX5_count_4 : decode cX5_count 4 = .ok (.iload_n 1, 1) := by decide +kernel
theorem dX5_count_5 : decode cX5_count 5 = .ok (.bipush 21, 2) := by decide +kernel
theorem dX5_count_7 : decode cX5_count 7 = .ok (.if_icmp .lt 6, 3) := by decide +kernel
theorem dX5_count_10 : decode cX5_count 10 = .ok (.bipush (-2), 2) := by decide +kernel
theorem dX5_count_12 : decode cX5_count 12 = .ok (.ireturn, 1) := by decide +kernel
theorem dX5_count_13 : decode cX5_count 13 = .ok (.iload_n 1, 1) := by decide +kernel
theorem dX5_count_14 : decode cX5_count 14 = .ok (.bipush 13, 2) := by decide +kernel
theorem dX5_count_16 : decode cX5_count 16 = .ok (.if_icmp .lt 16, 3) := by decide +kernel
theorem dX5_count_19 : decode cX5_count 19 = .ok (.aload_n 0, 1) := by decide +kernel
theorem dX5_count_20 : decode cX5_count 20 = .ok (.getfield 12, 3) := by decide +kernel
theorem dX5_count_23 : decode cX5_count 23 = .ok (.getfield 131, 3) := by decide +kernel
theorem dX5_count_26 : decode cX5_count 26 = .ok (.iload_n 1, 1) := by decide +kernel
theorem dX5_count_27 : decode cX5_count 27 = .ok (.bipush 13, 2) := by decide +kernel
theorem dX5_count_29 : decode cX5_count 29 = .ok (.isub, 1) := by decide +kernel
theorem dX5_count_30 : decode cX5_count 30 = .ok (.iaload, 1) := by decide +kernel
theorem dX5_count_31 : decode cX5_count 31 = .ok (.ireturn, 1) := by decide +kernel
theorem dX5_count_32 : decode cX5_count 32 = .ok (.iload_n 1, 1) := by decide +kernel
theorem dX5_count_33 : decode cX5_count 33 = .ok (.tableswitch 136 0 12 #[67, 75, 83, 91, 136, 136, 136, 136, 136, 99, 107, 120, 128], 67) := by decide +kernel
theorem dX5_count_100 : decode cX5_count 100 = .ok (.aload_n 0, 1) := by decide +kernel
theorem dX5_count_101 : decode cX5_count 101 = .ok (.getfield 12, 3) := by decide +kernel
theorem dX5_count_104 : decode cX5_count 104 = .ok (.getfield 152, 3) := by decide +kernel
theorem dX5_count_107 : decode cX5_count 107 = .ok (.ireturn, 1) := by decide +kernel
theorem dX5_count_108 : decode cX5_count 108 = .ok (.aload_n 0, 1) := by decide +kernel
theorem dX5_count_109 : decode cX5_count 109 = .ok (.getfield 12, 3) := by decide +kernel
theorem dX5_count_112 : decode cX5_count 112 = .ok (.invokevirtual 122, 3) := by decide +kernel
theorem dX5_count_115 : decode cX5_count 115 = .ok (.ireturn, 1) := by decide +kernel
theorem dX5_count_116 : decode cX5_count 116 = .ok (.aload_n 0, 1) := by decide +kernel
theorem dX5_count_117 : decode cX5_count 117 = .ok (.getfield 12, 3) := by decide +kernel
theorem dX5_count_120 : decode cX5_count 120 = .ok (.getfield 187, 3) := by decide +kernel
theorem dX5_count_123 : decode cX5_count 123 = .ok (.ireturn, 1) := by decide +kernel
theorem dX5_count_124 : decode cX5_count 124 = .ok (.aload_n 0, 1) := by decide +kernel
theorem dX5_count_125 : decode cX5_count 125 = .ok (.getfield 12, 3) := by decide +kernel
theorem dX5_count_128 : decode cX5_count 128 = .ok (.getfield 190, 3) := by decide +kernel
theorem dX5_count_131 : decode cX5_count 131 = .ok (.ireturn, 1) := by decide +kernel
theorem dX5_count_132 : decode cX5_count 132 = .ok (.aload_n 0, 1) := by decide +kernel
theorem dX5_count_133 : decode cX5_count 133 = .ok (.getfield 12, 3) := by decide +kernel
theorem dX5_count_136 : decode cX5_count 136 = .ok (.invokevirtual 193, 3) := by decide +kernel
theorem dX5_count_139 : decode cX5_count 139 = .ok (.ireturn, 1) := by decide +kernel
theorem dX5_count_140 : decode cX5_count 140 = .ok (.aload_n 0, 1) := by decide +kernel
theorem dX5_count_141 : decode cX5_count 141 = .ok (.invokevirtual 196, 3) := by decide +kernel
theorem dX5_count_144 : decode cX5_count 144 = .ok (.ifCond .ne 7, 3) := by decide +kernel
theorem dX5_count_147 : decode cX5_count 147 = .ok (.iconst 1, 1) := by decide +kernel
theorem dX5_count_148 : decode cX5_count 148 = .ok (.goto 4, 3) := by decide +kernel
theorem dX5_count_151 : decode cX5_count 151 = .ok (.iconst 0, 1) := by decide +kernel
theorem dX5_count_152 : decode cX5_count 152 = .ok (.ireturn, 1) := by decide +kernel
theorem dX5_count_153 : decode cX5_count 153 = .ok (.aload_n 0, 1) := by decide +kernel
theorem dX5_count_154 : decode cX5_count 154 = .ok (.getfield 26, 3) := by decide +kernel
theorem dX5_count_157 : decode cX5_count 157 = .ok (.getfield 146, 3) := by decide +kernel
theorem dX5_count_160 : decode cX5_count 160 = .ok (.ireturn, 1) := by decide +kernel
theorem dX5_count_161 : decode cX5_count 161 = .ok (.aload_n 0, 1) := by decide +kernel
theorem dX5_count_162 : decode cX5_count 162 = .ok (.getfield 33, 3) := by decide +kernel
theorem dX5_count_165 : decode cX5_count 165 = .ok (.getfield 138, 3) := by decide +kernel
theorem dX5_count_168 : decode cX5_count 168 = .ok (.ireturn, 1) := by decide +kernel
theorem dX5_count_169 : decode cX5_count 169 = .ok (.aload_n 0, 1) := by decide +kernel
theorem dX5_count_170 : decode cX5_count 170 = .ok (.iload_n 1, 1) := by decide +kernel
theorem dX5_count_171 : decode cX5_count 171 = .ok (.invokevirtual 199, 3) := by decide +kernel
theorem dX5_count_174 : decode cX5_count 174 = .ok (.ireturn, 1) := by decide +kernel
set_option maxRecDepth 20000 in
theorem ggX5_meanShown_X4_takeAll : GoodIn wsX5_meanShown wsX4_takeAll := goodIn_r _ [9, 10, 11, 12, 8, 13, 14, 15, 16, 17, 18, 19, 20, 21, 22, 23, 24, 25, 26, 27, 28, 29, 30, 31, 32, 33, 34, 35, 36, 37, 38, 39, 40, 41, 42, 43, 44, 45, 46, 47, 48, 49, 50, 51, 52, 53, 54, 55, 56, 57, 58, 59, 60, 61, 62, 63, 64, 65, 66, 67, 68, 69, 70, 71, 72, 73, 74, 75, 76, 86, 87, 88, 89, 90, 91, 92, 93, 94, 95, 96, 97] (by decide +kernel) (by decide +kernel)
set_option maxRecDepth 20000 in
theorem gX5_meanShown_X4_takeAll : GoodIn wsX5_meanShown (wsV RX5 202 RX4 yX4_takeAll wsX4_takeAll) := goodIn_app (goodIn_of _ (by decide +kernel)) ggX5_meanShown_X4_takeAll
theorem dX5_meanShown_0 : decode cX5_meanShown 0 = .ok (.aload_n 0, 1) := by decide +kernel
theorem dX5_meanShown_1 : decode cX5_meanShown 1 = .ok (.getfield 50, 3) := by decide +kernel
theorem dX5_meanShown_4 : decode cX5_meanShown 4 = .ok (.aload_n 0, 1) := by decide +kernel
theorem dX5_meanShown_5 : decode cX5_meanShown 5 = .ok (.getfield 12, 3) := by decide +kernel
theorem dX5_meanShown_8 : decode cX5_meanShown 8 = .ok (.invokevirtual 202, 3) := by decide +kernel
theorem dX5_meanShown_11 : decode cX5_meanShown 11 = .ok (.aload_n 0, 1) := by decide +kernel
theorem dX5_meanShown_12 : decode cX5_meanShown 12 = .ok (.getfield 50, 3) := by decide +kernel
theorem dX5_meanShown_15 : decode cX5_meanShown 15 = .ok (.getfield 205, 3) := by decide +kernel
theorem dX5_meanShown_18 : decode cX5_meanShown 18 = .ok (.i2d, 1) := by decide +kernel
theorem dX5_meanShown_19 : decode cX5_meanShown 19 = .ok (.ldc2_w 207, 3) := by decide +kernel
theorem dX5_meanShown_22 : decode cX5_meanShown 22 = .ok (.ddiv, 1) := by decide +kernel
theorem dX5_meanShown_23 : decode cX5_meanShown 23 = .ok (.dreturn, 1) := by decide +kernel
set_option maxRecDepth 20000 in
theorem ggX5_restsIn_X5_greatestGap : GoodIn wsX5_restsIn wsX5_greatestGap := goodIn_r _ [7, 8, 1, 9, 10, 11, 12, 13, 14, 15, 16, 17, 18, 19, 20, 21, 22, 23, 24, 25, 26, 27, 28, 29, 30, 31, 32, 33, 34, 6, 35, 36, 37, 38, 39, 40, 41, 42, 43, 44, 45, 46, 47, 48, 49, 50, 51, 52, 53, 54, 55, 56, 57, 58, 59, 60, 61, 62, 63, 64, 65, 66, 67, 68, 69, 70, 71, 72, 73, 74, 75, 76, 77, 78, 79, 80, 81, 82, 83, 84, 85, 86, 87, 88, 89, 90, 91, 92, 93, 95, 96, 97, 98, 99, 100, 101, 102, 103, 111, 112, 104, 105, 106, 107, 108, 109, 110] (by decide +kernel) (by decide +kernel)
set_option maxRecDepth 20000 in
theorem gX5_restsIn_X5_greatestGap : GoodIn wsX5_restsIn (wsV RX5 196 RX5 yX5_greatestGap wsX5_greatestGap) := goodIn_app (goodIn_of _ (by decide +kernel)) ggX5_restsIn_X5_greatestGap
set_option maxRecDepth 20000 in
theorem ggX5_restsIn_X5_roundedUp : GoodIn wsX5_restsIn wsX5_roundedUp := goodIn_r _ [77] (by decide +kernel) (by decide +kernel)
set_option maxRecDepth 20000 in
theorem gX5_restsIn_X5_roundedUp : GoodIn wsX5_restsIn (va_wsS RX5 209 yX5_roundedUp wsX5_roundedUp) := goodIn_app (goodIn_of _ (by decide +kernel)) ggX5_restsIn_X5_roundedUp
theorem dX5_restsIn_0 : decode cX5_restsIn 0 = .ok (.aload_n 0, 1) := by decide +kernel
theorem dX5_restsIn_1 : decode cX5_restsIn 1 = .ok (.invokevirtual 196, 3) := by decide +kernel
theorem dX5_restsIn_4 : decode cX5_restsIn 4 = .ok (.aload_n 0, 1) := by decide +kernel
theorem dX5_restsIn_5 : decode cX5_restsIn 5 = .ok (.getfield 12, 3) := by decide +kernel
theorem dX5_restsIn_8 : decode cX5_restsIn 8 = .ok (.getfield 131, 3) := by decide +kernel
theorem dX5_restsIn_11 : decode cX5_restsIn 11 = .ok (.bipush 7, 2) := by decide +kernel
theorem dX5_restsIn_13 : decode cX5_restsIn 13 = .ok (.iaload, 1) := by decide +kernel
theorem dX5_restsIn_14 : decode cX5_restsIn 14 = .ok (.invokestatic 209, 3) := by decide +kernel
theorem dX5_restsIn_17 : decode cX5_restsIn 17 = .ok (.ireturn, 1) := by decide +kernel
set_option maxRecDepth 20000 in
theorem ggX5_bestRule_X3_copyFrom : GoodIn wsX5_bestRule wsX3_copyFrom := goodIn_r _ [10, 11, 12, 13, 14, 15, 16, 17, 18, 19, 20, 21, 164, 165, 166, 167, 168, 169, 170] (by decide +kernel) (by decide +kernel)
set_option maxRecDepth 20000 in
theorem gX5_bestRule_X3_copyFrom : GoodIn wsX5_bestRule (wsV RX5 149 RX3 yX3_copyFrom wsX3_copyFrom) := goodIn_app (goodIn_of _ (by decide +kernel)) ggX5_bestRule_X3_copyFrom
set_option maxRecDepth 20000 in
theorem ggX5_bestRule_X5_settleTrial : GoodIn wsX5_bestRule wsX5_settleTrial := goodIn_r _ [26, 27, 1, 28, 29, 30, 13, 14, 15, 4, 31, 32, 33, 34, 35, 36, 37, 38, 39, 40, 41, 42, 9, 43, 11, 44, 45, 46, 47, 48, 25, 49, 50, 51, 52, 53, 54, 55, 56, 57, 58, 59, 60, 61, 62, 63, 64, 65, 66, 67, 68, 69, 70, 71, 72, 73, 74, 75, 76, 17, 77, 78, 79, 80, 81, 82, 83, 84, 85, 86, 87, 88, 89, 90, 91, 92, 93, 94, 95, 96, 97, 98, 99, 100, 101, 102, 103, 104, 105, 106, 107, 108, 109, 110, 111, 112, 113, 114, 115, 116, 117, 118, 119, 120, 121, 122, 123, 124, 125, 126, 127, 128, 129, 130, 131, 132, 133, 16, 134, 135, 136, 137, 138, 139, 140, 141, 142, 143, 144, 145, 146, 147, 148, 149, 150, 155, 156, 157, 158, 159, 160, 161, 162, 163, 176, 177, 164, 165, 166, 167, 168, 169, 170, 171, 172, 173, 174, 175] (by decide +kernel) (by decide +kernel)
set_option maxRecDepth 20000 in
theorem gX5_bestRule_X5_settleTrial : GoodIn wsX5_bestRule (wsV RX5 212 RX5 yX5_settleTrial wsX5_settleTrial) := goodIn_app (goodIn_of _ (by decide +kernel)) ggX5_bestRule_X5_settleTrial
set_option maxRecDepth 20000 in
theorem ggX5_bestRule_X3_power : GoodIn wsX5_bestRule wsX3_power := goodIn_r _ [154, 16, 164, 165, 166, 167, 168, 169, 170] (by decide +kernel) (by decide +kernel)
set_option maxRecDepth 20000 in
theorem gX5_bestRule_X3_power : GoodIn wsX5_bestRule (wsV RX5 122 RX3 yX3_power wsX3_power) := goodIn_app (goodIn_of _ (by decide +kernel)) ggX5_bestRule_X3_power
theorem dX5_bestRule_0 : decode cX5_bestRule 0 = .ok (.iconst 0, 1) := by decide +kernel
theorem dX5_bestRule_1 : decode cX5_bestRule 1 = .ok (.istore_n 1, 1) := by decide +kernel
theorem dX5_bestRule_2 : decode cX5_bestRule 2 = .ok (.iconst 0, 1) := by decide +kernel
theorem dX5_bestRule_3 : decode cX5_bestRule 3 = .ok (.istore_n 2, 1) := by decide +kernel
theorem dX5_bestRule_4 : decode cX5_bestRule 4 = .ok (.iconst 0, 1) := by decide +kernel
theorem dX5_bestRule_5 : decode cX5_bestRule 5 = .ok (.istore_n 3, 1) := by decide +kernel
theorem dX5_bestRule_6 : decode cX5_bestRule 6 = .ok (.iconst 0, 1) := by decide +kernel
theorem dX5_bestRule_7 : decode cX5_bestRule 7 = .ok (.istore 4, 2) := by decide +kernel
theorem dX5_bestRule_9 : decode cX5_bestRule 9 = .ok (.iload 4, 2) := by decide +kernel
theorem dX5_bestRule_11 : decode cX5_bestRule 11 = .ok (.iconst 3, 1) := by decide +kernel
theorem dX5_bestRule_12 : decode cX5_bestRule 12 = .ok (.if_icmp .ge 103, 3) := by decide +kernel
theorem dX5_bestRule_15 : decode cX5_bestRule 15 = .ok (.aload_n 0, 1) := by decide +kernel
theorem dX5_bestRule_16 : decode cX5_bestRule 16 = .ok (.getfield 37, 3) := by decide +kernel
theorem dX5_bestRule_19 : decode cX5_bestRule 19 = .ok (.aload_n 0, 1) := by decide +kernel
theorem dX5_bestRule_20 : decode cX5_bestRule 20 = .ok (.getfield 12, 3) := by decide +kernel
theorem dX5_bestRule_23 : decode cX5_bestRule 23 = .ok (.invokevirtual 149, 3) := by decide +kernel
theorem dX5_bestRule_26 : decode cX5_bestRule 26 = .ok (.aload_n 0, 1) := by decide +kernel
theorem dX5_bestRule_27 : decode cX5_bestRule 27 = .ok (.getfield 37, 3) := by decide +kernel
theorem dX5_bestRule_30 : decode cX5_bestRule 30 = .ok (.getfield 131, 3) := by decide +kernel
theorem dX5_bestRule_33 : decode cX5_bestRule 33 = .ok (.iconst 3, 1) := by decide +kernel
theorem dX5_bestRule_34 : decode cX5_bestRule 34 = .ok (.iload 4, 2) := by decide +kernel
theorem dX5_bestRule_36 : decode cX5_bestRule 36 = .ok (.iastore, 1) := by decide +kernel
theorem dX5_bestRule_37 : decode cX5_bestRule 37 = .ok (.aload_n 0, 1) := by decide +kernel
theorem dX5_bestRule_38 : decode cX5_bestRule 38 = .ok (.invokevirtual 212, 3) := by decide +kernel
theorem dX5_bestRule_41 : decode cX5_bestRule 41 = .ok (.aload_n 0, 1) := by decide +kernel
theorem dX5_bestRule_42 : decode cX5_bestRule 42 = .ok (.getfield 37, 3) := by decide +kernel
theorem dX5_bestRule_45 : decode cX5_bestRule 45 = .ok (.invokevirtual 122, 3) := by decide +kernel
theorem dX5_bestRule_48 : decode cX5_bestRule 48 = .ok (.istore 5, 2) := by decide +kernel
theorem dX5_bestRule_50 : decode cX5_bestRule 50 = .ok (.aload_n 0, 1) := by decide +kernel
theorem dX5_bestRule_51 : decode cX5_bestRule 51 = .ok (.getfield 50, 3) := by decide +kernel
theorem dX5_bestRule_54 : decode cX5_bestRule 54 = .ok (.getfield 215, 3) := by decide +kernel
theorem dX5_bestRule_57 : decode cX5_bestRule 57 = .ok (.iload_n 2, 1) := by decide +kernel
theorem dX5_bestRule_58 : decode cX5_bestRule 58 = .ok (.if_icmp .lt 20, 3) := by decide +kernel
theorem dX5_bestRule_61 : decode cX5_bestRule 61 = .ok (.aload_n 0, 1) := by decide +kernel
theorem dX5_bestRule_62 : decode cX5_bestRule 62 = .ok (.getfield 50, 3) := by decide +kernel
theorem dX5_bestRule_65 : decode cX5_bestRule 65 = .ok (.getfield 215, 3) := by decide +kernel
theorem dX5_bestRule_68 : decode cX5_bestRule 68 = .ok (.iload_n 2, 1) := by decide +kernel
theorem dX5_bestRule_69 : decode cX5_bestRule 69 = .ok (.if_icmp .ne 13, 3) := by decide +kernel
theorem dX5_bestRule_72 : decode cX5_bestRule 72 = .ok (.iload 5, 2) := by decide +kernel
theorem dX5_bestRule_74 : decode cX5_bestRule 74 = .ok (.iload_n 3, 1) := by decide +kernel
theorem dX5_bestRule_75 : decode cX5_bestRule 75 = .ok (.if_icmp .ge 7, 3) := by decide +kernel
theorem dX5_bestRule_78 : decode cX5_bestRule 78 = .ok (.iconst 1, 1) := by decide +kernel
theorem dX5_bestRule_79 : decode cX5_bestRule 79 = .ok (.goto 4, 3) := by decide +kernel
theorem dX5_bestRule_82 : decode cX5_bestRule 82 = .ok (.iconst 0, 1) := by decide +kernel
theorem dX5_bestRule_83 : decode cX5_bestRule 83 = .ok (.istore 6, 2) := by decide +kernel
theorem dX5_bestRule_85 : decode cX5_bestRule 85 = .ok (.iload 4, 2) := by decide +kernel
theorem dX5_bestRule_87 : decode cX5_bestRule 87 = .ok (.ifCond .eq 8, 3) := by decide +kernel
theorem dX5_bestRule_90 : decode cX5_bestRule 90 = .ok (.iload 6, 2) := by decide +kernel
theorem dX5_bestRule_92 : decode cX5_bestRule 92 = .ok (.ifCond .eq 17, 3) := by decide +kernel
theorem dX5_bestRule_95 : decode cX5_bestRule 95 = .ok (.iload 4, 2) := by decide +kernel
theorem dX5_bestRule_97 : decode cX5_bestRule 97 = .ok (.istore_n 1, 1) := by decide +kernel
theorem dX5_bestRule_98 : decode cX5_bestRule 98 = .ok (.aload_n 0, 1) := by decide +kernel
theorem dX5_bestRule_99 : decode cX5_bestRule 99 = .ok (.getfield 50, 3) := by decide +kernel
theorem dX5_bestRule_102 : decode cX5_bestRule 102 = .ok (.getfield 215, 3) := by decide +kernel
theorem dX5_bestRule_105 : decode cX5_bestRule 105 = .ok (.istore_n 2, 1) := by decide +kernel
theorem dX5_bestRule_106 : decode cX5_bestRule 106 = .ok (.iload 5, 2) := by decide +kernel
theorem dX5_bestRule_108 : decode cX5_bestRule 108 = .ok (.istore_n 3, 1) := by decide +kernel
theorem dX5_bestRule_109 : decode cX5_bestRule 109 = .ok (.iinc 4 1, 3) := by decide +kernel
theorem dX5_bestRule_112 : decode cX5_bestRule 112 = .ok (.goto (-103), 3) := by decide +kernel
theorem dX5_bestRule_115 : decode cX5_bestRule 115 = .ok (.iload_n 1, 1) := by decide +kernel
theorem dX5_bestRule_116 : decode cX5_bestRule 116 = .ok (.ireturn, 1) := by decide +kernel
set_option maxRecDepth 20000 in
theorem ggX5_leastStep_X5_greatestGap : GoodIn wsX5_leastStep wsX5_greatestGap := goodIn_r _ [5, 6, 7, 8, 9, 10, 11, 12, 13, 14, 15, 16, 17, 18, 19, 20, 21, 22, 23, 24, 25, 26, 27, 28, 29, 30, 31, 32, 33, 4, 34, 35, 36, 37, 38, 39, 40, 41, 42, 43, 44, 45, 46, 47, 48, 49, 50, 51, 52, 53, 54, 55, 56, 57, 58, 59, 60, 61, 62, 63, 64, 65, 66, 67, 68, 69, 70, 71, 72, 73, 74, 75, 76, 77, 78, 79, 80, 81, 82, 83, 84, 85, 86, 87, 88, 89, 90, 91, 92, 94, 95, 96, 97, 98, 99, 100, 101, 102, 103, 104, 105, 106, 107, 108, 109, 110, 111] (by decide +kernel) (by decide +kernel)
set_option maxRecDepth 20000 in
theorem gX5_leastStep_X5_greatestGap : GoodIn wsX5_leastStep (wsV RX5 196 RX5 yX5_greatestGap wsX5_greatestGap) := goodIn_app (goodIn_of _ (by decide +kernel)) ggX5_leastStep_X5_greatestGap
set_option maxRecDepth 20000 in
theorem ggX5_leastStep_X5_roundedUp : GoodIn wsX5_leastStep wsX5_roundedUp := goodIn_r _ [76] (by decide +kernel) (by decide +kernel)
set_option maxRecDepth 20000 in
theorem gX5_leastStep_X5_roundedUp : GoodIn wsX5_leastStep (va_wsS RX5 209 yX5_roundedUp wsX5_roundedUp) := goodIn_app (goodIn_of _ (by decide +kernel)) ggX5_leastStep_X5_roundedUp
theorem dX5_leastStep_0 : decode cX5_leastStep 0 = .ok (.iload_n 1, 1) := by decide +kernel
theorem dX5_leastStep_1 : decode cX5_leastStep 1 = .ok (.iconst 1, 1) := by decide +kernel
theorem dX5_leastStep_2 : decode cX5_leastStep 2 = .ok (.if_icmp .lt 10, 3) := by decide +kernel
theorem dX5_leastStep_5 : decode cX5_leastStep 5 = .ok (.iload_n 1, 1) := by decide +kernel
theorem dX5_leastStep_6 : decode cX5_leastStep 6 = .ok (.sipush 255, 3) := by decide +kernel
theorem dX5_leastStep_9 : decode cX5_leastStep 9 = .ok (.if_icmp .le 6, 3) := by decide +kernel
theorem dX5_leastStep_12 : decode cX5_leastStep 12 = .ok (.bipush (-2), 2) := by decide +kernel
theorem dX5_leastStep_14 : decode cX5_leastStep 14 = .ok (.ireturn, 1) := by decide +kernel
theorem dX5_leastStep_15 : decode cX5_leastStep 15 = .ok (.aload_n 0, 1) := by decide +kernel
theorem dX5_leastStep_16 : decode cX5_leastStep 16 = .ok (.invokevirtual 196, 3) := by decide +kernel
theorem dX5_leastStep_19 : decode cX5_leastStep 19 = .ok (.iload_n 1, 1) := by decide +kernel
theorem dX5_leastStep_20 : decode cX5_leastStep 20 = .ok (.invokestatic 209, 3) := by decide +kernel
theorem dX5_leastStep_23 : decode cX5_leastStep 23 = .ok (.ireturn, 1) := by decide +kernel
theorem dX5_rememberPicture_0 : decode cX5_rememberPicture 0 = .ok (.aload_n 0, 1) := by decide +kernel
theorem dX5_rememberPicture_1 : decode cX5_rememberPicture 1 = .ok (.getfield 12, 3) := by decide +kernel
theorem dX5_rememberPicture_4 : decode cX5_rememberPicture 4 = .ok (.getfield 66, 3) := by decide +kernel
theorem dX5_rememberPicture_7 : decode cX5_rememberPicture 7 = .ok (.iconst 0, 1) := by decide +kernel
theorem dX5_rememberPicture_8 : decode cX5_rememberPicture 8 = .ok (.aload_n 0, 1) := by decide +kernel
theorem dX5_rememberPicture_9 : decode cX5_rememberPicture 9 = .ok (.getfield 54, 3) := by decide +kernel
theorem dX5_rememberPicture_12 : decode cX5_rememberPicture 12 = .ok (.iconst 0, 1) := by decide +kernel
theorem dX5_rememberPicture_13 : decode cX5_rememberPicture 13 = .ok (.sipush 288, 3) := by decide +kernel
theorem dX5_rememberPicture_16 : decode cX5_rememberPicture 16 = .ok (.invokestatic 218, 3) := by decide +kernel
theorem dX5_rememberPicture_19 : decode cX5_rememberPicture 19 = .ok (.return_, 1) := by decide +kernel
theorem dX5_changedSpots_0 : decode cX5_changedSpots 0 = .ok (.iconst 0, 1) := by decide +kernel
theorem dX5_changedSpots_1 : decode cX5_changedSpots 1 = .ok (.istore_n 1, 1) := by decide +kernel
theorem dX5_changedSpots_2 : decode cX5_changedSpots 2 = .ok (.iconst 0, 1) := by decide +kernel
theorem dX5_changedSpots_3 : decode cX5_changedSpots 3 = .ok (.istore_n 2, 1) := by decide +kernel
theorem dX5_changedSpots_4 : decode cX5_changedSpots 4 = .ok (.iload_n 2, 1) := by decide +kernel
theorem dX5_changedSpots_5 : decode cX5_changedSpots 5 = .ok (.sipush 288, 3) := by decide +kernel
theorem dX5_changedSpots_8 : decode cX5_changedSpots 8 = .ok (.if_icmp .ge 30, 3) := by decide +kernel
theorem dX5_changedSpots_11 : decode cX5_changedSpots 11 = .ok (.aload_n 0, 1) := by decide +kernel
theorem dX5_changedSpots_12 : decode cX5_changedSpots 12 = .ok (.getfield 12, 3) := by decide +kernel
theorem dX5_changedSpots_15 : decode cX5_changedSpots 15 = .ok (.getfield 66, 3) := by decide +kernel
theorem dX5_changedSpots_18 : decode cX5_changedSpots 18 = .ok (.iload_n 2, 1) := by decide +kernel
theorem dX5_changedSpots_19 : decode cX5_changedSpots 19 = .ok (.iaload, 1) := by decide +kernel
theorem dX5_changedSpots_20 : decode cX5_changedSpots 20 = .ok (.aload_n 0, 1) := by decide +kernel
theorem dX5_changedSpots_21 : decode cX5_changedSpots 21 = .ok (.getfield 54, 3) := by decide +kernel
theorem dX5_changedSpots_24 : decode cX5_changedSpots 24 = .ok (.iload_n 2, 1) := by decide +kernel
theorem dX5_changedSpots_25 : decode cX5_changedSpots 25 = .ok (.iaload, 1) := by decide +kernel
theorem dX5_changedSpots_26 : decode cX5_changedSpots 26 = .ok (.if_icmp .eq 6, 3) := by decide +kernel
theorem dX5_changedSpots_29 : decode cX5_changedSpots 29 = .ok (.iinc 1 1, 3) := by decide +kernel
theorem dX5_changedSpots_32 : decode cX5_changedSpots 32 = .ok (.iinc 2 1, 3) := by decide +kernel
