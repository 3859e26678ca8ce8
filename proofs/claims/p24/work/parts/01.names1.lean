theorem inlX0 : ∀ w ∈ wsX00, w ∈ wsL_law := fun _ h => List.mem_append_left _ (List.mem_append_left _ (List.mem_append_left _ (List.mem_append_left _ (List.mem_append_right _ h))))
theorem inX0 : ∀ w ∈ wsX00, w ∈ lw_tbl := fun w h => wsL_law_in w (inlX0 w h)
theorem inlX1 : ∀ w ∈ wsX10, w ∈ wsL_law := fun _ h => List.mem_append_left _ (List.mem_append_left _ (List.mem_append_left _ (List.mem_append_right _ h)))
theorem inX1 : ∀ w ∈ wsX10, w ∈ lw_tbl := fun w h => wsL_law_in w (inlX1 w h)
theorem inlX2 : ∀ w ∈ wsX20, w ∈ wsL_law := fun _ h => List.mem_append_left _ (List.mem_append_left _ (List.mem_append_right _ h))
theorem inX2 : ∀ w ∈ wsX20, w ∈ lw_tbl := fun w h => wsL_law_in w (inlX2 w h)
theorem inlX3 : ∀ w ∈ wsX30, w ∈ wsL_law := fun _ h => List.mem_append_left _ (List.mem_append_left _ (List.mem_append_left _ (List.mem_append_left _ (List.mem_append_left _ (List.mem_append_right _ h)))))
theorem inX3 : ∀ w ∈ wsX30, w ∈ lw_tbl := fun w h => wsL_law_in w (inlX3 w h)
theorem inlX4 : ∀ w ∈ wsX40, w ∈ wsL_law := fun _ h => List.mem_append_left _ (List.mem_append_right _ h)
theorem inX4 : ∀ w ∈ wsX40, w ∈ lw_tbl := fun w h => wsL_law_in w (inlX4 w h)
theorem inlX5 : ∀ w ∈ wsX50, w ∈ wsL_law := fun _ h => List.mem_append_left _ (List.mem_append_left _ (List.mem_append_left _ (List.mem_append_left _ (List.mem_append_left _ (List.mem_append_left _ (List.mem_append_right _ h))))))
theorem inX5 : ∀ w ∈ wsX50, w ∈ lw_tbl := fun w h => wsL_law_in w (inlX5 w h)
theorem inX6 : ∀ w ∈ wsX60, w ∈ lw_tbl := by decide +kernel
theorem inJ9 : ∀ w ∈ wsJ90, w ∈ lw_tbl := by decide +kernel
theorem inJ10 : ∀ w ∈ wsJ100, w ∈ lw_tbl := by decide +kernel
set_option maxRecDepth 20000 in
theorem ggX0_init_X3_init : GoodIn wsX0_init wsX3_init := goodIn_r _ [12, 13, 2, 3, 14, 15, 16, 17, 18, 19, 20, 21, 22, 23, 24, 25, 26, 30, 31, 32, 33, 34, 35, 36] (by decide +kernel) (by decide +kernel)
set_option maxRecDepth 20000 in
theorem gX0_init_X3_init : GoodIn wsX0_init (wsX3_init) := ggX0_init_X3_init
theorem dX0_init_0 : decode cX0_init 0 = .ok (.aload_n 0, 1) := by decide +kernel
theorem dX0_init_1 : decode cX0_init 1 = .ok (.invokespecial 1, 3) := by decide +kernel
theorem dX0_init_4 : decode cX0_init 4 = .ok (.aload_n 0, 1) := by decide +kernel
theorem dX0_init_5 : decode cX0_init 5 = .ok (.iconst 4, 1) := by decide +kernel
theorem dX0_init_6 : decode cX0_init 6 = .ok (.anewarray 9, 3) := by decide +kernel
theorem dX0_init_9 : decode cX0_init 9 = .ok (.putfield 11, 3) := by decide +kernel
theorem dX0_init_12 : decode cX0_init 12 = .ok (.aload_n 0, 1) := by decide +kernel
theorem dX0_init_13 : decode cX0_init 13 = .ok (.iconst 0, 1) := by decide +kernel
theorem dX0_init_14 : decode cX0_init 14 = .ok (.putfield 15, 3) := by decide +kernel
theorem dX0_init_17 : decode cX0_init 17 = .ok (.aload_n 0, 1) := by decide +kernel
theorem dX0_init_18 : decode cX0_init 18 = .ok (.iconst 0, 1) := by decide +kernel
theorem dX0_init_19 : decode cX0_init 19 = .ok (.putfield 19, 3) := by decide +kernel
theorem dX0_init_22 : decode cX0_init 22 = .ok (.iconst 0, 1) := by decide +kernel
theorem dX0_init_23 : decode cX0_init 23 = .ok (.istore_n 1, 1) := by decide +kernel
theorem dX0_init_24 : decode cX0_init 24 = .ok (.iload_n 1, 1) := by decide +kernel
theorem dX0_init_25 : decode cX0_init 25 = .ok (.iconst 4, 1) := by decide +kernel
theorem dX0_init_26 : decode cX0_init 26 = .ok (.if_icmp .ge 22, 3) := by decide +kernel
theorem dX0_init_29 : decode cX0_init 29 = .ok (.aload_n 0, 1) := by decide +kernel
theorem dX0_init_30 : decode cX0_init 30 = .ok (.getfield 11, 3) := by decide +kernel
theorem dX0_init_33 : decode cX0_init 33 = .ok (.iload_n 1, 1) := by decide +kernel
theorem dX0_init_34 : decode cX0_init 34 = .ok (.new 9, 3) := by decide +kernel
theorem dX0_init_37 : decode cX0_init 37 = .ok (.dup, 1) := by decide +kernel
theorem dX0_init_38 : decode cX0_init 38 = .ok (.invokespecial 22, 3) := by decide +kernel
theorem dX0_init_41 : decode cX0_init 41 = .ok (.aastore, 1) := by decide +kernel
theorem dX0_init_42 : decode cX0_init 42 = .ok (.iinc 1 1, 3) := by decide +kernel
theorem dX0_init_45 : decode cX0_init 45 = .ok (.goto (-21), 3) := by decide +kernel
theorem dX0_init_48 : decode cX0_init 48 = .ok (.return_, 1) := by decide +kernel
set_option maxRecDepth 20000 in
theorem ggX0_record_X3_copyFrom : GoodIn wsX0_record wsX3_copyFrom := goodIn_r _ [8, 9, 10, 11, 12, 13, 14, 15, 16, 17, 18, 19, 23, 24, 25, 26, 27, 28, 29] (by decide +kernel) (by decide +kernel)
set_option maxRecDepth 20000 in
theorem gX0_record_X3_copyFrom : GoodIn wsX0_record (wsV RX0 23 RX3 yX3_copyFrom wsX3_copyFrom) := goodIn_app (goodIn_of _ (by decide +kernel)) ggX0_record_X3_copyFrom
theorem dX0_record_0 : decode cX0_record 0 = .ok (.aload_n 0, 1) := by decide +kernel
theorem dX0_record_1 : decode cX0_record 1 = .ok (.getfield 19, 3) := by decide +kernel
theorem dX0_record_4 : decode cX0_record 4 = .ok (.iconst 4, 1) := by decide +kernel
theorem dX0_record_5 : decode cX0_record 5 = .ok (.if_icmp .ne 25, 3) := by decide +kernel
theorem dX0_record_8 : decode cX0_record 8 = .ok (.aload_n 0, 1) := by decide +kernel
theorem dX0_record_9 : decode cX0_record 9 = .ok (.aload_n 0, 1) := by decide +kernel
theorem dX0_record_10 : decode cX0_record 10 = .ok (.getfield 15, 3) := by decide +kernel
theorem dX0_record_13 : decode cX0_record 13 = .ok (.iconst 1, 1) := by decide +kernel
theorem dX0_record_14 : decode cX0_record 14 = .ok (.iadd, 1) := by decide +kernel
theorem dX0_record_15 : decode cX0_record 15 = .ok (.iconst 4, 1) := by decide +kernel
theorem dX0_record_16 : decode cX0_record 16 = .ok (.irem, 1) := by decide +kernel
theorem dX0_record_17 : decode cX0_record 17 = .ok (.putfield 15, 3) := by decide +kernel
theorem dX0_record_20 : decode cX0_record 20 = .ok (.aload_n 0, 1) := by decide +kernel
theorem dX0_record_21 : decode cX0_record 21 = .ok (.dup, 1) := by decide +kernel
theorem dX0_record_22 : decode cX0_record 22 = .ok (.getfield 19, 3) := by decide +kernel
theorem dX0_record_25 : decode cX0_record 25 = .ok (.iconst 1, 1) := by decide +kernel
theorem dX0_record_26 : decode cX0_record 26 = .ok (.isub, 1) := by decide +kernel
theorem dX0_record_27 : decode cX0_record 27 = .ok (.putfield 19, 3) := by decide +kernel
theorem dX0_record_30 : decode cX0_record 30 = .ok (.aload_n 0, 1) := by decide +kernel
theorem dX0_record_31 : decode cX0_record 31 = .ok (.getfield 11, 3) := by decide +kernel
theorem dX0_record_34 : decode cX0_record 34 = .ok (.aload_n 0, 1) := by decide +kernel
theorem dX0_record_35 : decode cX0_record 35 = .ok (.getfield 15, 3) := by decide +kernel
theorem dX0_record_38 : decode cX0_record 38 = .ok (.aload_n 0, 1) := by decide +kernel
theorem dX0_record_39 : decode cX0_record 39 = .ok (.getfield 19, 3) := by decide +kernel
theorem dX0_record_42 : decode cX0_record 42 = .ok (.iadd, 1) := by decide +kernel
theorem dX0_record_43 : decode cX0_record 43 = .ok (.iconst 4, 1) := by decide +kernel
theorem dX0_record_44 : decode cX0_record 44 = .ok (.irem, 1) := by decide +kernel
theorem dX0_record_45 : decode cX0_record 45 = .ok (.aaload, 1) := by decide +kernel
theorem dX0_record_46 : decode cX0_record 46 = .ok (.aload_n 1, 1) := by decide +kernel
theorem dX0_record_47 : decode cX0_record 47 = .ok (.invokevirtual 23, 3) := by decide +kernel
theorem dX0_record_50 : decode cX0_record 50 = .ok (.aload_n 0, 1) := by decide +kernel
theorem dX0_record_51 : decode cX0_record 51 = .ok (.dup, 1) := by decide +kernel
theorem dX0_record_52 : decode cX0_record 52 = .ok (.getfield 19, 3) := by decide +kernel
theorem dX0_record_55 : decode cX0_record 55 = .ok (.iconst 1, 1) := by decide +kernel
theorem dX0_record_56 : decode cX0_record 56 = .ok (.iadd, 1) := by decide +kernel
theorem dX0_record_57 : decode cX0_record 57 = .ok (.putfield 19, 3) := by decide +kernel
theorem dX0_record_60 : decode cX0_record 60 = .ok (.return_, 1) := by decide +kernel
theorem dX1_init_0 : decode cX1_init 0 = .ok (.aload_n 0, 1) := by decide +kernel
theorem dX1_init_1 : decode cX1_init 1 = .ok (.invokespecial 5, 3) := by decide +kernel
theorem dX1_init_4 : decode cX1_init 4 = .ok (.aload_n 0, 1) := by decide +kernel
theorem dX1_init_5 : decode cX1_init 5 = .ok (.bipush 60, 2) := by decide +kernel
theorem dX1_init_7 : decode cX1_init 7 = .ok (.newarray .char, 2) := by decide +kernel
theorem dX1_init_9 : decode cX1_init 9 = .ok (.putfield 11, 3) := by decide +kernel
theorem dX1_init_12 : decode cX1_init 12 = .ok (.aload_n 0, 1) := by decide +kernel
theorem dX1_init_13 : decode cX1_init 13 = .ok (.iconst 0, 1) := by decide +kernel
theorem dX1_init_14 : decode cX1_init 14 = .ok (.putfield 15, 3) := by decide +kernel
theorem dX1_init_17 : decode cX1_init 17 = .ok (.aload_n 0, 1) := by decide +kernel
theorem dX1_init_18 : decode cX1_init 18 = .ok (.bipush 30, 2) := by decide +kernel
theorem dX1_init_20 : decode cX1_init 20 = .ok (.newarray .int, 2) := by decide +kernel
theorem dX1_init_22 : decode cX1_init 22 = .ok (.putfield 19, 3) := by decide +kernel
theorem dX1_init_25 : decode cX1_init 25 = .ok (.aload_n 0, 1) := by decide +kernel
theorem dX1_init_26 : decode cX1_init 26 = .ok (.iconst 0, 1) := by decide +kernel
theorem dX1_init_27 : decode cX1_init 27 = .ok (.putfield 23, 3) := by decide +kernel
theorem dX1_init_30 : decode cX1_init 30 = .ok (.return_, 1) := by decide +kernel
theorem dX1_append_0 : decode cX1_append 0 = .ok (.aload_n 0, 1) := by decide +kernel
theorem dX1_append_1 : decode cX1_append 1 = .ok (.getfield 15, 3) := by decide +kernel
theorem dX1_append_4 : decode cX1_append 4 = .ok (.bipush 60, 2) := by decide +kernel
theorem dX1_append_6 : decode cX1_append 6 = .ok (.if_icmp .lt 5, 3) := by decide +kernel
theorem dX1_append_9 : decode cX1_append 9 = .ok (.iconst 0, 1) := by decide +kernel
theorem dX1_append_10 : decode cX1_append 10 = .ok (.ireturn, 1) := by decide +kernel
theorem dX1_append_11 : decode cX1_append 11 = .ok (.aload_n 0, 1) := by decide +kernel
theorem dX1_append_12 : decode cX1_append 12 = .ok (.getfield 11, 3) := by decide +kernel
theorem dX1_append_15 : decode cX1_append 15 = .ok (.aload_n 0, 1) := by decide +kernel
theorem dX1_append_16 : decode cX1_append 16 = .ok (.getfield 15, 3) := by decide +kernel
theorem dX1_append_19 : decode cX1_append 19 = .ok (.iload_n 1, 1) := by decide +kernel
theorem dX1_append_20 : decode cX1_append 20 = .ok (.castore, 1) := by decide +kernel
theorem dX1_append_21 : decode cX1_append 21 = .ok (.aload_n 0, 1) := by decide +kernel
theorem dX1_append_22 : decode cX1_append 22 = .ok (.dup, 1) := by decide +kernel
theorem dX1_append_23 : decode cX1_append 23 = .ok (.getfield 15, 3) := by decide +kernel
theorem dX1_append_26 : decode cX1_append 26 = .ok (.iconst 1, 1) := by decide +kernel
theorem dX1_append_27 : decode cX1_append 27 = .ok (.iadd, 1) := by decide +kernel
theorem dX1_append_28 : decode cX1_append 28 = .ok (.putfield 15, 3) := by decide +kernel
theorem dX1_append_31 : decode cX1_append 31 = .ok (.iconst 1, 1) := by decide +kernel
theorem dX1_append_32 : decode cX1_append 32 = .ok (.ireturn, 1) := by decide +kernel
set_option maxRecDepth 20000 in
theorem ggX1_read_X1_addNumber : GoodIn wsX1_read wsX1_addNumber := goodIn_r _ [9, 1, 10, 16, 17, 18, 19] (by decide +kernel) (by decide +kernel)
set_option maxRecDepth 20000 in
theorem gX1_read_X1_addNumber : GoodIn wsX1_read (wsV RX1 29 RX1 yX1_addNumber wsX1_addNumber) := goodIn_app (goodIn_of _ (by decide +kernel)) ggX1_read_X1_addNumber
set_option maxRecDepth 20000 in
theorem ggX1_read_X1_withDigit : GoodIn wsX1_read wsX1_withDigit := goodIn_r _ [13, 14, 15] (by decide +kernel) (by decide +kernel)
set_option maxRecDepth 20000 in
theorem gX1_read_X1_withDigit : GoodIn wsX1_read (va_wsS RX1 33 yX1_withDigit wsX1_withDigit) := goodIn_app (goodIn_of _ (by decide +kernel)) ggX1_read_X1_withDigit
theorem dX1_read_0 : decode cX1_read 0 = .ok (.aload_n 0, 1) := by decide +kernel
theorem dX1_read_1 : decode cX1_read 1 = .ok (.iconst 0, 1) := by decide +kernel
theorem dX1_read_2 : decode cX1_read 2 = .ok (.putfield 23, 3) := by decide +kernel
theorem dX1_read_5 : decode cX1_read 5 = .ok (.iconst 0, 1) := by decide +kernel
theorem dX1_read_6 : decode cX1_read 6 = .ok (.istore_n 1, 1) := by decide +kernel
theorem dX1_read_7 : decode cX1_read 7 = .ok (.iconst (-1), 1) := by decide +kernel
theorem dX1_read_8 : decode cX1_read 8 = .ok (.istore_n 2, 1) := by decide +kernel
theorem dX1_read_9 : decode cX1_read 9 = .ok (.iconst 0, 1) := by decide +kernel
theorem dX1_read_10 : decode cX1_read 10 = .ok (.istore_n 3, 1) := by decide +kernel
theorem dX1_read_11 : decode cX1_read 11 = .ok (.iload_n 3, 1) := by decide +kernel
theorem dX1_read_12 : decode cX1_read 12 = .ok (.aload_n 0, 1) := by decide +kernel
theorem dX1_read_13 : decode cX1_read 13 = .ok (.getfield 15, 3) := by decide +kernel
theorem dX1_read_16 : decode cX1_read 16 = .ok (.if_icmp .ge 63, 3) := by decide +kernel
theorem dX1_read_19 : decode cX1_read 19 = .ok (.aload_n 0, 1) := by decide +kernel
theorem dX1_read_20 : decode cX1_read 20 = .ok (.getfield 11, 3) := by decide +kernel
theorem dX1_read_23 : decode cX1_read 23 = .ok (.iload_n 3, 1) := by decide +kernel
theorem dX1_read_24 : decode cX1_read 24 = .ok (.caload, 1) := by decide +kernel
theorem dX1_read_25 : decode cX1_read 25 = .ok (.istore 4, 2) := by decide +kernel
theorem dX1_read_27 : decode cX1_read 27 = .ok (.iload_n 2, 1) := by decide +kernel
theorem dX1_read_28 : decode cX1_read 28 = .ok (.iconst (-1), 1) := by decide +kernel
theorem dX1_read_29 : decode cX1_read 29 = .ok (.if_icmp .eq 29, 3) := by decide +kernel
theorem dX1_read_32 : decode cX1_read 32 = .ok (.iload 4, 2) := by decide +kernel
theorem dX1_read_34 : decode cX1_read 34 = .ok (.getstatic 26, 3) := by decide +kernel
theorem dX1_read_37 : decode cX1_read 37 = .ok (.iload_n 1, 1) := by decide +kernel
theorem dX1_read_38 : decode cX1_read 38 = .ok (.caload, 1) := by decide +kernel
theorem dX1_read_39 : decode cX1_read 39 = .ok (.if_icmp .ne 19, 3) := by decide +kernel
theorem dX1_read_42 : decode cX1_read 42 = .ok (.aload_n 0, 1) := by decide +kernel
theorem dX1_read_43 : decode cX1_read 43 = .ok (.iload_n 2, 1) := by decide +kernel
theorem dX1_read_44 : decode cX1_read 44 = .ok (.invokevirtual 29, 3) := by decide +kernel
theorem dX1_read_47 : decode cX1_read 47 = .ok (.iload_n 1, 1) := by decide +kernel
theorem dX1_read_48 : decode cX1_read 48 = .ok (.iconst 1, 1) := by decide +kernel
theorem dX1_read_49 : decode cX1_read 49 = .ok (.iadd, 1) := by decide +kernel
theorem dX1_read_50 : decode cX1_read 50 = .ok (.iconst 5, 1) := by decide +kernel
theorem dX1_read_51 : decode cX1_read 51 = .ok (.irem, 1) := by decide +kernel
theorem dX1_read_52 : decode cX1_read 52 = .ok (.istore_n 1, 1) := by decide +kernel
theorem dX1_read_53 : decode cX1_read 53 = .ok (.iconst (-1), 1) := by decide +kernel
theorem dX1_read_54 : decode cX1_read 54 = .ok (.istore_n 2, 1) := by decide +kernel
theorem dX1_read_55 : decode cX1_read 55 = .ok (.goto 18, 3) := by decide +kernel
theorem dX1_read_58 : decode cX1_read 58 = .ok (.iload_n 2, 1) := by decide +kernel
theorem dX1_read_59 : decode cX1_read 59 = .ok (.iload 4, 2) := by decide +kernel
theorem dX1_read_61 : decode cX1_read 61 = .ok (.iload_n 1, 1) := by decide +kernel
theorem dX1_read_62 : decode cX1_read 62 = .ok (.invokestatic 33, 3) := by decide +kernel
theorem dX1_read_65 : decode cX1_read 65 = .ok (.istore_n 2, 1) := by decide +kernel
theorem dX1_read_66 : decode cX1_read 66 = .ok (.iload_n 2, 1) := by decide +kernel
theorem dX1_read_67 : decode cX1_read 67 = .ok (.iconst (-1), 1) := by decide +kernel
theorem dX1_read_68 : decode cX1_read 68 = .ok (.if_icmp .ne 5, 3) := by decide +kernel
theorem dX1_read_71 : decode cX1_read 71 = .ok (.iload_n 3, 1) := by decide +kernel
theorem dX1_read_72 : decode cX1_read 72 = .ok (.ireturn, 1) := by decide +kernel
theorem dX1_read_73 : decode cX1_read 73 = .ok (.iinc 3 1, 3) := by decide +kernel
theorem dX1_read_76 : decode cX1_read 76 = .ok (.goto (-65), 3) := by decide +kernel
theorem dX1_read_79 : decode cX1_read 79 = .ok (.iload_n 1, 1) := by decide +kernel
theorem dX1_read_80 : decode cX1_read 80 = .ok (.iconst 4, 1) := by decide +kernel
theorem dX1_read_81 : decode cX1_read 81 = .ok (.if_icmp .ne 8, 3) := by decide +kernel
theorem dX1_read_84 : decode cX1_read 84 = .ok (.iload_n 2, 1) := by decide +kernel
theorem dX1_read_85 : decode cX1_read 85 = .ok (.iconst (-1), 1) := by decide +kernel
theorem dX1_read_86 : decode cX1_read 86 = .ok (.if_icmp .ne 8, 3) := by decide +kernel
theorem dX1_read_89 : decode cX1_read 89 = .ok (.aload_n 0, 1) := by decide +kernel
theorem dX1_read_90 : decode cX1_read 90 = .ok (.getfield 15, 3) := by decide +kernel
theorem dX1_read_93 : decode cX1_read 93 = .ok (.ireturn, 1) := by decide +kernel
theorem dX1_read_94 : decode cX1_read 94 = .ok (.aload_n 0, 1) := by decide +kernel
theorem dX1_read_95 : decode cX1_read 95 = .ok (.iload_n 2, 1) := by decide +kernel
theorem dX1_read_96 : decode cX1_read 96 = .ok (.invokevirtual 29, 3) := by decide +kernel
theorem dX1_read_99 : decode cX1_read 99 = .ok (.bipush (-5), 2) := by decide +kernel
theorem dX1_read_101 : decode cX1_read 101 = .ok (.ireturn, 1) := by decide +kernel
theorem dX1_parts_0 : decode cX1_parts 0 = .ok (.aload_n 0, 1) := by decide +kernel
theorem dX1_parts_1 : decode cX1_parts 1 = .ok (.getfield 23, 3) := by decide +kernel
theorem dX1_parts_4 : decode cX1_parts 4 = .ok (.iconst 5, 1) := by decide +kernel
theorem dX1_parts_5 : decode cX1_parts 5 = .ok (.idiv, 1) := by decide +kernel
theorem dX1_parts_6 : decode cX1_parts 6 = .ok (.ireturn, 1) := by decide +kernel
theorem dX1_number_0 : decode cX1_number 0 = .ok (.aload_n 0, 1) := by decide +kernel
theorem dX1_number_1 : decode cX1_number 1 = .ok (.getfield 19, 3) := by decide +kernel
theorem dX1_number_4 : decode cX1_number 4 = .ok (.iload_n 1, 1) := by decide +kernel
theorem dX1_number_5 : decode cX1_number 5 = .ok (.iconst 5, 1) := by decide +kernel
theorem dX1_number_6 : decode cX1_number 6 = .ok (.imul, 1) := by decide +kernel
theorem dX1_number_7 : decode cX1_number 7 = .ok (.iload_n 2, 1) := by decide +kernel
theorem dX1_number_8 : decode cX1_number 8 = .ok (.iadd, 1) := by decide +kernel
theorem dX1_number_9 : decode cX1_number 9 = .ok (.iaload, 1) := by decide +kernel
theorem dX1_number_10 : decode cX1_number 10 = .ok (.ireturn, 1) := by decide +kernel
theorem dX1_addNumber_0 : decode cX1_addNumber 0 = .ok (.aload_n 0, 1) := by decide +kernel
theorem dX1_addNumber_1 : decode cX1_addNumber 1 = .ok (.getfield 23, 3) := by decide +kernel
theorem dX1_addNumber_4 : decode cX1_addNumber 4 = .ok (.aload_n 0, 1) := by decide +kernel
theorem dX1_addNumber_5 : decode cX1_addNumber 5 = .ok (.getfield 19, 3) := by decide +kernel
theorem dX1_addNumber_8 : decode cX1_addNumber 8 = .ok (.arraylength, 1) := by decide +kernel
theorem dX1_addNumber_9 : decode cX1_addNumber 9 = .ok (.if_icmp .ge 23, 3) := by decide +kernel
theorem dX1_addNumber_12 : decode cX1_addNumber 12 = .ok (.aload_n 0, 1) := by decide +kernel
theorem dX1_addNumber_13 : decode cX1_addNumber 13 = .ok (.getfield 19, 3) := by decide +kernel
theorem dX1_addNumber_16 : decode cX1_addNumber 16 = .ok (.aload_n 0, 1) := by decide +kernel
theorem dX1_addNumber_17 : decode cX1_addNumber 17 = .ok (.getfield 23, 3) := by decide +kernel
theorem dX1_addNumber_20 : decode cX1_addNumber 20 = .ok (.iload_n 1, 1) := by decide +kernel
theorem dX1_addNumber_21 : decode cX1_addNumber 21 = .ok (.iastore, 1) := by decide +kernel
theorem dX1_addNumber_22 : decode cX1_addNumber 22 = .ok (.aload_n 0, 1) := by decide +kernel
theorem dX1_addNumber_23 : decode cX1_addNumber 23 = .ok (.dup, 1) := by decide +kernel
theorem dX1_addNumber_24 : decode cX1_addNumber 24 = .ok (.getfield 23, 3) := by decide +kernel
theorem dX1_addNumber_27 : decode cX1_addNumber 27 = .ok (.iconst 1, 1) := by decide +kernel
theorem dX1_addNumber_28 : decode cX1_addNumber 28 = .ok (.iadd, 1) := by decide +kernel
theorem dX1_addNumber_29 : decode cX1_addNumber 29 = .ok (.putfield 23, 3) := by decide +kernel
theorem dX1_addNumber_32 : decode cX1_addNumber 32 = .ok (.return_, 1) := by decide +kernel
theorem dX1_withDigit_0 : decode cX1_withDigit 0 = .ok (.iload_n 1, 1) := by decide +kernel
theorem dX1_withDigit_1 : decode cX1_withDigit 1 = .ok (.bipush 48, 2) := by decide +kernel
theorem dX1_withDigit_3 : decode cX1_withDigit 3 = .ok (.if_icmp .lt 13, 3) := by decide +kernel
theorem dX1_withDigit_6 : decode cX1_withDigit 6 = .ok (.iload_n 1, 1) := by decide +kernel
theorem dX1_withDigit_7 : decode cX1_withDigit 7 = .ok (.bipush 57, 2) := by decide +kernel
theorem dX1_withDigit_9 : decode cX1_withDigit 9 = .ok (.if_icmp .gt 7, 3) := by decide +kernel
theorem dX1_withDigit_12 : decode cX1_withDigit 12 = .ok (.iconst 1, 1) := by decide +kernel
theorem dX1_withDigit_13 : decode cX1_withDigit 13 = .ok (.goto 4, 3) := by decide +kernel
theorem dX1_withDigit_16 : decode cX1_withDigit 16 = .ok (.iconst 0, 1) := by decide +kernel
theorem dX1_withDigit_17 : decode cX1_withDigit 17 = .ok (.istore_n 3, 1) := by decide +kernel
theorem dX1_withDigit_18 : decode cX1_withDigit 18 = .ok (.iload_n 3, 1) := by decide +kernel
theorem dX1_withDigit_19 : decode cX1_withDigit 19 = .ok (.ifCond .eq 7, 3) := by decide +kernel
theorem dX1_withDigit_22 : decode cX1_withDigit 22 = .ok (.iload_n 0, 1) := by decide +kernel
theorem dX1_withDigit_23 : decode cX1_withDigit 23 = .ok (.ifCond .ne 5, 3) := by decide +kernel
theorem dX1_withDigit_26 : decode cX1_withDigit 26 = .ok (.iconst (-1), 1) := by decide +kernel
theorem dX1_withDigit_27 : decode cX1_withDigit 27 = .ok (.ireturn, 1) := by decide +kernel
theorem dX1_withDigit_28 : decode cX1_withDigit 28 = .ok (.iload_n 1, 1) := by decide +kernel
theorem dX1_withDigit_29 : decode cX1_withDigit 29 = .ok (.bipush 48, 2) := by decide +kernel
theorem dX1_withDigit_31 : decode cX1_withDigit 31 = .ok (.isub, 1) := by decide +kernel
theorem dX1_withDigit_32 : decode cX1_withDigit 32 = .ok (.istore 4, 2) := by decide +kernel
theorem dX1_withDigit_34 : decode cX1_withDigit 34 = .ok (.iload_n 0, 1) := by decide +kernel
theorem dX1_withDigit_35 : decode cX1_withDigit 35 = .ok (.iconst (-1), 1) := by decide +kernel
theorem dX1_withDigit_36 : decode cX1_withDigit 36 = .ok (.if_icmp .ne 8, 3) := by decide +kernel
theorem dX1_withDigit_39 : decode cX1_withDigit 39 = .ok (.iload 4, 2) := by decide +kernel
theorem dX1_withDigit_41 : decode cX1_withDigit 41 = .ok (.goto 10, 3) := by decide +kernel
theorem dX1_withDigit_44 : decode cX1_withDigit 44 = .ok (.bipush 10, 2) := by decide +kernel
theorem dX1_withDigit_46 : decode cX1_withDigit 46 = .ok (.iload_n 0, 1) := by decide +kernel
theorem dX1_withDigit_47 : decode cX1_withDigit 47 = .ok (.imul, 1) := by decide +kernel
theorem dX1_withDigit_48 : decode cX1_withDigit 48 = .ok (.iload 4, 2) := by decide +kernel
theorem dX1_withDigit_50 : decode cX1_withDigit 50 = .ok (.iadd, 1) := by decide +kernel
theorem dX1_withDigit_51 : decode cX1_withDigit 51 = .ok (.istore 5, 2) := by decide +kernel
theorem dX1_withDigit_53 : decode cX1_withDigit 53 = .ok (.iload 5, 2) := by decide +kernel
theorem dX1_withDigit_55 : decode cX1_withDigit 55 = .ok (.getstatic 37, 3) := by decide +kernel
theorem dX1_withDigit_58 : decode cX1_withDigit 58 = .ok (.iload_n 2, 1) := by decide +kernel
theorem dX1_withDigit_59 : decode cX1_withDigit 59 = .ok (.iaload, 1) := by decide +kernel
theorem dX1_withDigit_60 : decode cX1_withDigit 60 = .ok (.if_icmp .lt 13, 3) := by decide +kernel
theorem dX1_withDigit_63 : decode cX1_withDigit 63 = .ok (.iload 5, 2) := by decide +kernel
theorem dX1_withDigit_65 : decode cX1_withDigit 65 = .ok (.getstatic 40, 3) := by decide +kernel
theorem dX1_withDigit_68 : decode cX1_withDigit 68 = .ok (.iload_n 2, 1) := by decide +kernel
theorem dX1_withDigit_69 : decode cX1_withDigit 69 = .ok (.iaload, 1) := by decide +kernel
theorem dX1_withDigit_70 : decode cX1_withDigit 70 = .ok (.if_icmp .le 7, 3) := by decide +kernel
theorem dX1_withDigit_73 : decode cX1_withDigit 73 = .ok (.iconst (-1), 1) := by decide +kernel
theorem dX1_withDigit_74 : decode cX1_withDigit 74 = .ok (.goto 5, 3) := by decide +kernel
theorem dX1_withDigit_77 : decode cX1_withDigit 77 = .ok (.iload 5, 2) := by decide +kernel
theorem dX1_withDigit_79 : decode cX1_withDigit 79 = .ok (.ireturn, 1) := by decide +kernel
theorem dX2_init_0 : decode cX2_init 0 = .ok (.aload_n 0, 1) := by decide +kernel
theorem dX2_init_1 : decode cX2_init 1 = .ok (.invokespecial 3, 3) := by decide +kernel
theorem dX2_init_4 : decode cX2_init 4 = .ok (.aload_n 0, 1) := by decide +kernel
theorem dX2_init_5 : decode cX2_init 5 = .ok (.bipush 18, 2) := by decide +kernel
theorem dX2_init_7 : decode cX2_init 7 = .ok (.newarray .int, 2) := by decide +kernel
theorem dX2_init_9 : decode cX2_init 9 = .ok (.putfield 9, 3) := by decide +kernel
theorem dX2_init_12 : decode cX2_init 12 = .ok (.aload_n 0, 1) := by decide +kernel
theorem dX2_init_13 : decode cX2_init 13 = .ok (.bipush 18, 2) := by decide +kernel
theorem dX2_init_15 : decode cX2_init 15 = .ok (.newarray .int, 2) := by decide +kernel
theorem dX2_init_17 : decode cX2_init 17 = .ok (.putfield 15, 3) := by decide +kernel
theorem dX2_init_20 : decode cX2_init 20 = .ok (.return_, 1) := by decide +kernel
set_option maxRecDepth 20000 in
theorem ggX2_make_X3_peak : GoodIn wsX2_make wsX3_peak := goodIn_r _ [9, 10, 11, 12, 13, 14, 15, 16, 17, 18, 19, 20, 83, 84, 85, 86, 87, 88, 89] (by decide +kernel) (by decide +kernel)
set_option maxRecDepth 20000 in
theorem gX2_make_X3_peak : GoodIn wsX2_make (wsV RX2 18 RX3 yX3_peak wsX3_peak) := goodIn_app (goodIn_of _ (by decide +kernel)) ggX2_make_X3_peak
set_option maxRecDepth 20000 in
theorem ggX2_make_X2_levelByRule : GoodIn wsX2_make wsX2_levelByRule := goodIn_r _ [25, 4, 26, 27, 13, 28, 29, 30, 31, 24, 32, 1, 33, 34, 35, 8, 36, 10, 15, 16, 17, 18, 19, 20, 83, 84, 85, 86, 87, 88, 89, 81, 82] (by decide +kernel) (by decide +kernel)
set_option maxRecDepth 20000 in
theorem gX2_make_X2_levelByRule : GoodIn wsX2_make (wsV RX2 27 RX2 yX2_levelByRule wsX2_levelByRule) := goodIn_app (goodIn_of _ (by decide +kernel)) ggX2_make_X2_levelByRule
set_option maxRecDepth 20000 in
theorem ggX2_make_X2_raiseAll : GoodIn wsX2_make wsX2_raiseAll := goodIn_r _ [40, 1, 2, 41, 12, 13, 14, 3, 4, 42, 43, 44, 8, 45, 46, 47, 16, 48, 49, 50, 51, 52, 53, 54, 55, 27, 28, 56, 57, 58, 24, 59, 60, 61, 62, 63, 64, 65, 66, 67, 68, 26, 81, 82, 83, 84, 85, 86, 87, 88, 89] (by decide +kernel) (by decide +kernel)
set_option maxRecDepth 20000 in
theorem gX2_make_X2_raiseAll : GoodIn wsX2_make (wsV RX2 34 RX2 yX2_raiseAll wsX2_raiseAll) := goodIn_app (goodIn_of _ (by decide +kernel)) ggX2_make_X2_raiseAll
set_option maxRecDepth 20000 in
theorem ggX2_make_X3_asksBlack : GoodIn wsX2_make wsX3_asksBlack := goodIn_r _ [72, 10, 15, 16, 17, 18, 19, 20, 83, 84, 85, 86, 87, 88, 89] (by decide +kernel) (by decide +kernel)
set_option maxRecDepth 20000 in
theorem gX2_make_X3_asksBlack : GoodIn wsX2_make (wsV RX2 38 RX3 yX3_asksBlack wsX3_asksBlack) := goodIn_app (goodIn_of _ (by decide +kernel)) ggX2_make_X3_asksBlack
set_option maxRecDepth 20000 in
theorem ggX2_make_X2_lowerForBlack : GoodIn wsX2_make wsX2_lowerForBlack := goodIn_r _ [76, 2, 4, 42, 43, 44, 8, 45, 46, 47, 16, 48, 49, 50, 13, 51, 52, 12, 14, 53, 54, 55, 27, 28, 77, 78, 79, 80, 81, 82, 83, 84, 85, 86, 87, 88, 89] (by decide +kernel) (by decide +kernel)
set_option maxRecDepth 20000 in
theorem gX2_make_X2_lowerForBlack : GoodIn wsX2_make (wsV RX2 42 RX2 yX2_lowerForBlack wsX2_lowerForBlack) := goodIn_app (goodIn_of _ (by decide +kernel)) ggX2_make_X2_lowerForBlack
theorem dX2_make_0 : decode cX2_make 0 = .ok (.iconst 0, 1) := by decide +kernel
theorem dX2_make_1 : decode cX2_make 1 = .ok (.istore_n 2, 1) := by decide +kernel
theorem dX2_make_2 : decode cX2_make 2 = .ok (.iload_n 2, 1) := by decide +kernel
theorem dX2_make_3 : decode cX2_make 3 = .ok (.bipush 18, 2) := by decide +kernel
theorem dX2_make_5 : decode cX2_make 5 = .ok (.if_icmp .ge 45, 3) := by decide +kernel
theorem dX2_make_8 : decode cX2_make 8 = .ok (.aload_n 0, 1) := by decide +kernel
theorem dX2_make_9 : decode cX2_make 9 = .ok (.getfield 15, 3) := by decide +kernel
theorem dX2_make_12 : decode cX2_make 12 = .ok (.iload_n 2, 1) := by decide +kernel
theorem dX2_make_13 : decode cX2_make 13 = .ok (.aload_n 1, 1) := by decide +kernel
theorem dX2_make_14 : decode cX2_make 14 = .ok (.iload_n 2, 1) := by decide +kernel
theorem dX2_make_15 : decode cX2_make 15 = .ok (.invokevirtual 18, 3) := by decide +kernel
theorem dX2_make_18 : decode cX2_make 18 = .ok (.iastore, 1) := by decide +kernel
theorem dX2_make_19 : decode cX2_make 19 = .ok (.aload_n 0, 1) := by decide +kernel
theorem dX2_make_20 : decode cX2_make 20 = .ok (.getfield 9, 3) := by decide +kernel
theorem dX2_make_23 : decode cX2_make 23 = .ok (.iload_n 2, 1) := by decide +kernel
theorem dX2_make_24 : decode cX2_make 24 = .ok (.aload_n 1, 1) := by decide +kernel
theorem dX2_make_25 : decode cX2_make 25 = .ok (.getfield 23, 3) := by decide +kernel
theorem dX2_make_28 : decode cX2_make 28 = .ok (.iload_n 2, 1) := by decide +kernel
theorem dX2_make_29 : decode cX2_make 29 = .ok (.baload, 1) := by decide +kernel
theorem dX2_make_30 : decode cX2_make 30 = .ok (.ifCond .eq 7, 3) := by decide +kernel
theorem dX2_make_33 : decode cX2_make 33 = .ok (.iconst 0, 1) := by decide +kernel
theorem dX2_make_34 : decode cX2_make 34 = .ok (.goto 9, 3) := by decide +kernel
theorem dX2_make_37 : decode cX2_make 37 = .ok (.aload_n 0, 1) := by decide +kernel
theorem dX2_make_38 : decode cX2_make 38 = .ok (.aload_n 1, 1) := by decide +kernel
theorem dX2_make_39 : decode cX2_make 39 = .ok (.iload_n 2, 1) := by decide +kernel
theorem dX2_make_40 : decode cX2_make 40 = .ok (.invokevirtual 27, 3) := by decide +kernel
theorem dX2_make_43 : decode cX2_make 43 = .ok (.iastore, 1) := by decide +kernel
theorem dX2_make_44 : decode cX2_make 44 = .ok (.iinc 2 1, 3) := by decide +kernel
theorem dX2_make_47 : decode cX2_make 47 = .ok (.goto (-45), 3) := by decide +kernel
theorem dX2_make_50 : decode cX2_make 50 = .ok (.iconst 0, 1) := by decide +kernel
theorem dX2_make_51 : decode cX2_make 51 = .ok (.istore_n 2, 1) := by decide +kernel
theorem dX2_make_52 : decode cX2_make 52 = .ok (.iload_n 2, 1) := by decide +kernel
theorem dX2_make_53 : decode cX2_make 53 = .ok (.aload_n 1, 1) := by decide +kernel
theorem dX2_make_54 : decode cX2_make 54 = .ok (.getfield 31, 3) := by decide +kernel
theorem dX2_make_57 : decode cX2_make 57 = .ok (.iconst 4, 1) := by decide +kernel
theorem dX2_make_58 : decode cX2_make 58 = .ok (.iaload, 1) := by decide +kernel
theorem dX2_make_59 : decode cX2_make 59 = .ok (.if_icmp .ge 14, 3) := by decide +kernel
theorem dX2_make_62 : decode cX2_make 62 = .ok (.aload_n 0, 1) := by decide +kernel
theorem dX2_make_63 : decode cX2_make 63 = .ok (.aload_n 1, 1) := by decide +kernel
theorem dX2_make_64 : decode cX2_make 64 = .ok (.invokevirtual 34, 3) := by decide +kernel
theorem dX2_make_67 : decode cX2_make 67 = .ok (.iinc 2 1, 3) := by decide +kernel
theorem dX2_make_70 : decode cX2_make 70 = .ok (.goto (-18), 3) := by decide +kernel
theorem dX2_make_73 : decode cX2_make 73 = .ok (.iconst 0, 1) := by decide +kernel
theorem dX2_make_74 : decode cX2_make 74 = .ok (.istore_n 2, 1) := by decide +kernel
theorem dX2_make_75 : decode cX2_make 75 = .ok (.iload_n 2, 1) := by decide +kernel
theorem dX2_make_76 : decode cX2_make 76 = .ok (.bipush 18, 2) := by decide +kernel
theorem dX2_make_78 : decode cX2_make 78 = .ok (.if_icmp .ge 23, 3) := by decide +kernel
theorem dX2_make_81 : decode cX2_make 81 = .ok (.aload_n 1, 1) := by decide +kernel
theorem dX2_make_82 : decode cX2_make 82 = .ok (.iload_n 2, 1) := by decide +kernel
theorem dX2_make_83 : decode cX2_make 83 = .ok (.invokevirtual 38, 3) := by decide +kernel
theorem dX2_make_86 : decode cX2_make 86 = .ok (.ifCond .eq 9, 3) := by decide +kernel
theorem dX2_make_89 : decode cX2_make 89 = .ok (.aload_n 0, 1) := by decide +kernel
theorem dX2_make_90 : decode cX2_make 90 = .ok (.aload_n 1, 1) := by decide +kernel
theorem dX2_make_91 : decode cX2_make 91 = .ok (.iload_n 2, 1) := by decide +kernel
theorem dX2_make_92 : decode cX2_make 92 = .ok (.invokevirtual 42, 3) := by decide +kernel
theorem dX2_make_95 : decode cX2_make 95 = .ok (.iinc 2 1, 3) := by decide +kernel
theorem dX2_make_98 : decode cX2_make 98 = .ok (.goto (-23), 3) := by decide +kernel
theorem dX2_make_101 : decode cX2_make 101 = .ok (.return_, 1) := by decide +kernel
set_option maxRecDepth 20000 in
theorem ggX2_levelByRule_X2_aim : GoodIn wsX2_levelByRule wsX2_aim := goodIn_r _ [10, 1, 11, 12, 13, 14, 15, 16, 17, 18, 19, 20, 21, 22, 23, 24, 25, 26, 27, 28, 29, 30, 31, 32] (by decide +kernel) (by decide +kernel)
set_option maxRecDepth 20000 in
theorem gX2_levelByRule_X2_aim : GoodIn wsX2_levelByRule (wsV RX2 46 RX2 yX2_aim wsX2_aim) := goodIn_app (goodIn_of _ (by decide +kernel)) ggX2_levelByRule_X2_aim
theorem dX2_levelByRule_0 : decode cX2_levelByRule 0 = .ok (.aload_n 1, 1) := by decide +kernel
theorem dX2_levelByRule_1 : decode cX2_levelByRule 1 = .ok (.getfield 31, 3) := by decide +kernel
theorem dX2_levelByRule_4 : decode cX2_levelByRule 4 = .ok (.iconst 0, 1) := by decide +kernel
theorem dX2_levelByRule_5 : decode cX2_levelByRule 5 = .ok (.iaload, 1) := by decide +kernel
theorem dX2_levelByRule_6 : decode cX2_levelByRule 6 = .ok (.istore_n 3, 1) := by decide +kernel
theorem dX2_levelByRule_7 : decode cX2_levelByRule 7 = .ok (.aload_n 0, 1) := by decide +kernel
theorem dX2_levelByRule_8 : decode cX2_levelByRule 8 = .ok (.aload_n 1, 1) := by decide +kernel
theorem dX2_levelByRule_9 : decode cX2_levelByRule 9 = .ok (.iload_n 2, 1) := by decide +kernel
theorem dX2_levelByRule_10 : decode cX2_levelByRule 10 = .ok (.invokevirtual 46, 3) := by decide +kernel
theorem dX2_levelByRule_13 : decode cX2_levelByRule 13 = .ok (.sipush 256, 3) := by decide +kernel
theorem dX2_levelByRule_16 : decode cX2_levelByRule 16 = .ok (.imul, 1) := by decide +kernel
theorem dX2_levelByRule_17 : decode cX2_levelByRule 17 = .ok (.istore 4, 2) := by decide +kernel
theorem dX2_levelByRule_19 : decode cX2_levelByRule 19 = .ok (.iload_n 3, 1) := by decide +kernel
theorem dX2_levelByRule_20 : decode cX2_levelByRule 20 = .ok (.ifCond .le 16, 3) := by decide +kernel
theorem dX2_levelByRule_23 : decode cX2_levelByRule 23 = .ok (.sipush 255, 3) := by decide +kernel
theorem dX2_levelByRule_26 : decode cX2_levelByRule 26 = .ok (.iload 4, 2) := by decide +kernel
theorem dX2_levelByRule_28 : decode cX2_levelByRule 28 = .ok (.iload_n 3, 1) := by decide +kernel
theorem dX2_levelByRule_29 : decode cX2_levelByRule 29 = .ok (.idiv, 1) := by decide +kernel
theorem dX2_levelByRule_30 : decode cX2_levelByRule 30 = .ok (.invokestatic 49, 3) := by decide +kernel
theorem dX2_levelByRule_33 : decode cX2_levelByRule 33 = .ok (.goto 4, 3) := by decide +kernel
theorem dX2_levelByRule_36 : decode cX2_levelByRule 36 = .ok (.iconst 0, 1) := by decide +kernel
theorem dX2_levelByRule_37 : decode cX2_levelByRule 37 = .ok (.ireturn, 1) := by decide +kernel
set_option maxRecDepth 20000 in
theorem ggX2_aim_X3_mean : GoodIn wsX2_aim wsX3_mean := goodIn_r _ [7, 8, 9, 10, 11, 12, 13, 14, 15, 16, 17, 18, 19, 20, 21] (by decide +kernel) (by decide +kernel)
set_option maxRecDepth 20000 in
theorem gX2_aim_X3_mean : GoodIn wsX2_aim (wsV RX2 55 RX3 yX3_mean wsX3_mean) := goodIn_app (goodIn_of _ (by decide +kernel)) ggX2_aim_X3_mean
theorem dX2_aim_0 : decode cX2_aim 0 = .ok (.aload_n 1, 1) := by decide +kernel
theorem dX2_aim_1 : decode cX2_aim 1 = .ok (.getfield 31, 3) := by decide +kernel
theorem dX2_aim_4 : decode cX2_aim 4 = .ok (.iconst 3, 1) := by decide +kernel
theorem dX2_aim_5 : decode cX2_aim 5 = .ok (.iaload, 1) := by decide +kernel
theorem dX2_aim_6 : decode cX2_aim 6 = .ok (.lookupswitch 48 #[(0, 26), (1, 33)], 26) := by decide +kernel
theorem dX2_aim_32 : decode cX2_aim 32 = .ok (.aload_n 0, 1) := by decide +kernel
theorem dX2_aim_33 : decode cX2_aim 33 = .ok (.getfield 15, 3) := by decide +kernel
theorem dX2_aim_36 : decode cX2_aim 36 = .ok (.iload_n 2, 1) := by decide +kernel
theorem dX2_aim_37 : decode cX2_aim 37 = .ok (.iaload, 1) := by decide +kernel
theorem dX2_aim_38 : decode cX2_aim 38 = .ok (.ireturn, 1) := by decide +kernel
theorem dX2_aim_39 : decode cX2_aim 39 = .ok (.aload_n 0, 1) := by decide +kernel
theorem dX2_aim_40 : decode cX2_aim 40 = .ok (.getfield 15, 3) := by decide +kernel
theorem dX2_aim_43 : decode cX2_aim 43 = .ok (.iload_n 2, 1) := by decide +kernel
theorem dX2_aim_44 : decode cX2_aim 44 = .ok (.iaload, 1) := by decide +kernel
theorem dX2_aim_45 : decode cX2_aim 45 = .ok (.aload_n 1, 1) := by decide +kernel
theorem dX2_aim_46 : decode cX2_aim 46 = .ok (.iload_n 2, 1) := by decide +kernel
theorem dX2_aim_47 : decode cX2_aim 47 = .ok (.invokevirtual 55, 3) := by decide +kernel
theorem dX2_aim_50 : decode cX2_aim 50 = .ok (.iadd, 1) := by decide +kernel
theorem dX2_aim_51 : decode cX2_aim 51 = .ok (.iconst 2, 1) := by decide +kernel
theorem dX2_aim_52 : decode cX2_aim 52 = .ok (.idiv, 1) := by decide +kernel
theorem dX2_aim_53 : decode cX2_aim 53 = .ok (.ireturn, 1) := by decide +kernel
theorem dX2_aim_54 : decode cX2_aim 54 = .ok (.aload_n 1, 1) := by decide +kernel
theorem dX2_aim_55 : decode cX2_aim 55 = .ok (.iload_n 2, 1) := by decide +kernel
theorem dX2_aim_56 : decode cX2_aim 56 = .ok (.invokevirtual 55, 3) := by decide +kernel
theorem dX2_aim_59 : decode cX2_aim 59 = .ok (.ireturn, 1) := by decide +kernel
set_option maxRecDepth 20000 in
theorem ggX2_raiseAll_X3_glow : GoodIn wsX2_raiseAll wsX3_glow := goodIn_r _ [13, 14, 15, 16, 17, 18, 19, 5, 20, 21, 4, 6, 44, 45, 46, 47, 48, 49, 50] (by decide +kernel) (by decide +kernel)
set_option maxRecDepth 20000 in
theorem gX2_raiseAll_X3_glow : GoodIn wsX2_raiseAll (wsV RX2 58 RX3 yX3_glow wsX3_glow) := goodIn_app (goodIn_of _ (by decide +kernel)) ggX2_raiseAll_X3_glow
set_option maxRecDepth 20000 in
theorem ggX2_raiseAll_X5_lightOf : GoodIn wsX2_raiseAll wsX5_lightOf := goodIn_r _ [23, 24, 25, 5, 26] (by decide +kernel) (by decide +kernel)
set_option maxRecDepth 20000 in
theorem gX2_raiseAll_X5_lightOf_n62 : GoodIn wsX2_raiseAll (wsX5_lightOf) := ggX2_raiseAll_X5_lightOf
set_option maxRecDepth 20000 in
theorem ggX2_raiseAll_X2_raiseNeighbours : GoodIn wsX2_raiseAll wsX2_raiseNeighbours := goodIn_r _ [31, 8, 32, 33, 30, 34, 7, 15, 16, 17, 18, 19, 5, 20, 21, 4, 6, 35, 36, 37, 38, 39, 40, 2, 41, 25, 26, 44, 45, 46, 47, 48, 49, 50, 42, 43] (by decide +kernel) (by decide +kernel)
set_option maxRecDepth 20000 in
theorem gX2_raiseAll_X2_raiseNeighbours : GoodIn wsX2_raiseAll (wsV RX2 68 RX2 yX2_raiseNeighbours wsX2_raiseNeighbours) := goodIn_app (goodIn_of _ (by decide +kernel)) ggX2_raiseAll_X2_raiseNeighbours
set_option maxRecDepth 20000 in
theorem ggX2_raiseAll_X5_roundedUp : GoodIn wsX2_raiseAll wsX5_roundedUp := goodIn_r _ [36] (by decide +kernel) (by decide +kernel)
set_option maxRecDepth 20000 in
theorem gX2_raiseAll_X5_roundedUp_n72 : GoodIn wsX2_raiseAll (wsX5_roundedUp) := ggX2_raiseAll_X5_roundedUp
set_option maxRecDepth 20000 in
theorem ggX2_raiseAll_X2_raise : GoodIn wsX2_raiseAll wsX2_raise := goodIn_r _ [40, 2, 41, 25, 5, 26, 42, 43] (by decide +kernel) (by decide +kernel)
set_option maxRecDepth 20000 in
theorem gX2_raiseAll_X2_raise : GoodIn wsX2_raiseAll (wsV RX2 75 RX2 yX2_raise wsX2_raise) := goodIn_app (goodIn_of _ (by decide +kernel)) ggX2_raiseAll_X2_raise
theorem dX2_raiseAll_0 : decode cX2_raiseAll 0 = .ok (.iconst 0, 1) := by decide +kernel
theorem dX2_raiseAll_1 : decode cX2_raiseAll 1 = .ok (.istore_n 2, 1) := by decide +kernel
theorem dX2_raiseAll_2 : decode cX2_raiseAll 2 = .ok (.iload_n 2, 1) := by decide +kernel
theorem dX2_raiseAll_3 : decode cX2_raiseAll 3 = .ok (.bipush 18, 2) := by decide +kernel
theorem dX2_raiseAll_5 : decode cX2_raiseAll 5 = .ok (.if_icmp .ge 71, 3) := by decide +kernel
theorem dX2_raiseAll_8 : decode cX2_raiseAll 8 = .ok (.iconst 0, 1) := by decide +kernel
theorem dX2_raiseAll_9 : decode cX2_raiseAll 9 = .ok (.aload_n 0, 1) := by decide +kernel
theorem dX2_raiseAll_10 : decode cX2_raiseAll 10 = .ok (.getfield 15, 3) := by decide +kernel
theorem dX2_raiseAll_13 : decode cX2_raiseAll 13 = .ok (.iload_n 2, 1) := by decide +kernel
theorem dX2_raiseAll_14 : decode cX2_raiseAll 14 = .ok (.iaload, 1) := by decide +kernel
theorem dX2_raiseAll_15 : decode cX2_raiseAll 15 = .ok (.aload_n 1, 1) := by decide +kernel
theorem dX2_raiseAll_16 : decode cX2_raiseAll 16 = .ok (.iload_n 2, 1) := by decide +kernel
theorem dX2_raiseAll_17 : decode cX2_raiseAll 17 = .ok (.aload_n 0, 1) := by decide +kernel
theorem dX2_raiseAll_18 : decode cX2_raiseAll 18 = .ok (.getfield 9, 3) := by decide +kernel
theorem dX2_raiseAll_21 : decode cX2_raiseAll 21 = .ok (.invokevirtual 58, 3) := by decide +kernel
theorem dX2_raiseAll_24 : decode cX2_raiseAll 24 = .ok (.invokestatic 62, 3) := by decide +kernel
theorem dX2_raiseAll_27 : decode cX2_raiseAll 27 = .ok (.isub, 1) := by decide +kernel
theorem dX2_raiseAll_28 : decode cX2_raiseAll 28 = .ok (.invokestatic 65, 3) := by decide +kernel
theorem dX2_raiseAll_31 : decode cX2_raiseAll 31 = .ok (.istore_n 3, 1) := by decide +kernel
theorem dX2_raiseAll_32 : decode cX2_raiseAll 32 = .ok (.aload_n 1, 1) := by decide +kernel
theorem dX2_raiseAll_33 : decode cX2_raiseAll 33 = .ok (.getfield 23, 3) := by decide +kernel
theorem dX2_raiseAll_36 : decode cX2_raiseAll 36 = .ok (.iload_n 2, 1) := by decide +kernel
theorem dX2_raiseAll_37 : decode cX2_raiseAll 37 = .ok (.baload, 1) := by decide +kernel
theorem dX2_raiseAll_38 : decode cX2_raiseAll 38 = .ok (.ifCond .eq 13, 3) := by decide +kernel
theorem dX2_raiseAll_41 : decode cX2_raiseAll 41 = .ok (.aload_n 0, 1) := by decide +kernel
theorem dX2_raiseAll_42 : decode cX2_raiseAll 42 = .ok (.aload_n 1, 1) := by decide +kernel
theorem dX2_raiseAll_43 : decode cX2_raiseAll 43 = .ok (.iload_n 2, 1) := by decide +kernel
theorem dX2_raiseAll_44 : decode cX2_raiseAll 44 = .ok (.iload_n 3, 1) := by decide +kernel
theorem dX2_raiseAll_45 : decode cX2_raiseAll 45 = .ok (.invokevirtual 68, 3) := by decide +kernel
theorem dX2_raiseAll_48 : decode cX2_raiseAll 48 = .ok (.goto 22, 3) := by decide +kernel
theorem dX2_raiseAll_51 : decode cX2_raiseAll 51 = .ok (.aload_n 0, 1) := by decide +kernel
theorem dX2_raiseAll_52 : decode cX2_raiseAll 52 = .ok (.iload_n 2, 1) := by decide +kernel
theorem dX2_raiseAll_53 : decode cX2_raiseAll 53 = .ok (.iload_n 3, 1) := by decide +kernel
theorem dX2_raiseAll_54 : decode cX2_raiseAll 54 = .ok (.sipush 256, 3) := by decide +kernel
theorem dX2_raiseAll_57 : decode cX2_raiseAll 57 = .ok (.imul, 1) := by decide +kernel
theorem dX2_raiseAll_58 : decode cX2_raiseAll 58 = .ok (.aload_n 1, 1) := by decide +kernel
theorem dX2_raiseAll_59 : decode cX2_raiseAll 59 = .ok (.getfield 31, 3) := by decide +kernel
theorem dX2_raiseAll_62 : decode cX2_raiseAll 62 = .ok (.iconst 0, 1) := by decide +kernel
theorem dX2_raiseAll_63 : decode cX2_raiseAll 63 = .ok (.iaload, 1) := by decide +kernel
theorem dX2_raiseAll_64 : decode cX2_raiseAll 64 = .ok (.invokestatic 72, 3) := by decide +kernel
theorem dX2_raiseAll_67 : decode cX2_raiseAll 67 = .ok (.invokevirtual 75, 3) := by decide +kernel
theorem dX2_raiseAll_70 : decode cX2_raiseAll 70 = .ok (.iinc 2 1, 3) := by decide +kernel
theorem dX2_raiseAll_73 : decode cX2_raiseAll 73 = .ok (.goto (-71), 3) := by decide +kernel
theorem dX2_raiseAll_76 : decode cX2_raiseAll 76 = .ok (.return_, 1) := by decide +kernel
set_option maxRecDepth 20000 in
theorem ggX2_raiseNeighbours_X2_helps : GoodIn wsX2_raiseNeighbours wsX2_helps := goodIn_r _ [5, 6, 7, 8, 9, 10, 11, 12, 13, 14, 15, 16, 27, 28, 29, 30, 31, 32, 33] (by decide +kernel) (by decide +kernel)
set_option maxRecDepth 20000 in
theorem gX2_raiseNeighbours_X2_helps : GoodIn wsX2_raiseNeighbours (va_wsS RX2 79 yX2_helps wsX2_helps) := goodIn_app (goodIn_of _ (by decide +kernel)) ggX2_raiseNeighbours_X2_helps
set_option maxRecDepth 20000 in
theorem ggX2_raiseNeighbours_X5_roundedUp : GoodIn wsX2_raiseNeighbours wsX5_roundedUp := goodIn_r _ [18] (by decide +kernel) (by decide +kernel)
set_option maxRecDepth 20000 in
theorem gX2_raiseNeighbours_X5_roundedUp_n72 : GoodIn wsX2_raiseNeighbours (wsX5_roundedUp) := ggX2_raiseNeighbours_X5_roundedUp
set_option maxRecDepth 20000 in
theorem ggX2_raiseNeighbours_X2_raise : GoodIn wsX2_raiseNeighbours wsX2_raise := goodIn_r _ [22, 23, 24, 25, 12, 26, 34, 35] (by decide +kernel) (by decide +kernel)
set_option maxRecDepth 20000 in
theorem gX2_raiseNeighbours_X2_raise : GoodIn wsX2_raiseNeighbours (wsV RX2 75 RX2 yX2_raise wsX2_raise) := goodIn_app (goodIn_of _ (by decide +kernel)) ggX2_raiseNeighbours_X2_raise
theorem dX2_raiseNeighbours_0 : decode cX2_raiseNeighbours 0 = .ok (.iconst 0, 1) := by decide +kernel
theorem dX2_raiseNeighbours_1 : decode cX2_raiseNeighbours 1 = .ok (.istore 4, 2) := by decide +kernel
theorem dX2_raiseNeighbours_3 : decode cX2_raiseNeighbours 3 = .ok (.iconst 0, 1) := by decide +kernel
theorem dX2_raiseNeighbours_4 : decode cX2_raiseNeighbours 4 = .ok (.istore 5, 2) := by decide +kernel
theorem dX2_raiseNeighbours_6 : decode cX2_raiseNeighbours 6 = .ok (.iload 5, 2) := by decide +kernel
theorem dX2_raiseNeighbours_8 : decode cX2_raiseNeighbours 8 = .ok (.bipush 18, 2) := by decide +kernel
theorem dX2_raiseNeighbours_10 : decode cX2_raiseNeighbours 10 = .ok (.if_icmp .ge 22, 3) := by decide +kernel
theorem dX2_raiseNeighbours_13 : decode cX2_raiseNeighbours 13 = .ok (.aload_n 1, 1) := by decide +kernel
theorem dX2_raiseNeighbours_14 : decode cX2_raiseNeighbours 14 = .ok (.iload_n 2, 1) := by decide +kernel
theorem dX2_raiseNeighbours_15 : decode cX2_raiseNeighbours 15 = .ok (.iload 5, 2) := by decide +kernel
theorem dX2_raiseNeighbours_17 : decode cX2_raiseNeighbours 17 = .ok (.invokestatic 79, 3) := by decide +kernel
theorem dX2_raiseNeighbours_20 : decode cX2_raiseNeighbours 20 = .ok (.ifCond .eq 6, 3) := by decide +kernel
theorem dX2_raiseNeighbours_23 : decode cX2_raiseNeighbours 23 = .ok (.iinc 4 1, 3) := by decide +kernel
theorem dX2_raiseNeighbours_26 : decode cX2_raiseNeighbours 26 = .ok (.iinc 5 1, 3) := by decide +kernel
theorem dX2_raiseNeighbours_29 : decode cX2_raiseNeighbours 29 = .ok (.goto (-23), 3) := by decide +kernel
theorem dX2_raiseNeighbours_32 : decode cX2_raiseNeighbours 32 = .ok (.iload_n 3, 1) := by decide +kernel
theorem dX2_raiseNeighbours_33 : decode cX2_raiseNeighbours 33 = .ok (.sipush 256, 3) := by decide +kernel
theorem dX2_raiseNeighbours_36 : decode cX2_raiseNeighbours 36 = .ok (.imul, 1) := by decide +kernel
theorem dX2_raiseNeighbours_37 : decode cX2_raiseNeighbours 37 = .ok (.aload_n 1, 1) := by decide +kernel
theorem dX2_raiseNeighbours_38 : decode cX2_raiseNeighbours 38 = .ok (.getfield 31, 3) := by decide +kernel
theorem dX2_raiseNeighbours_41 : decode cX2_raiseNeighbours 41 = .ok (.iconst 1, 1) := by decide +kernel
theorem dX2_raiseNeighbours_42 : decode cX2_raiseNeighbours 42 = .ok (.iaload, 1) := by decide +kernel
theorem dX2_raiseNeighbours_43 : decode cX2_raiseNeighbours 43 = .ok (.iload 4, 2) := by decide +kernel
theorem dX2_raiseNeighbours_45 : decode cX2_raiseNeighbours 45 = .ok (.imul, 1) := by decide +kernel
theorem dX2_raiseNeighbours_46 : decode cX2_raiseNeighbours 46 = .ok (.invokestatic 72, 3) := by decide +kernel
theorem dX2_raiseNeighbours_49 : decode cX2_raiseNeighbours 49 = .ok (.istore 5, 2) := by decide +kernel
theorem dX2_raiseNeighbours_51 : decode cX2_raiseNeighbours 51 = .ok (.iconst 0, 1) := by decide +kernel
theorem dX2_raiseNeighbours_52 : decode cX2_raiseNeighbours 52 = .ok (.istore 6, 2) := by decide +kernel
theorem dX2_raiseNeighbours_54 : decode cX2_raiseNeighbours 54 = .ok (.iload 6, 2) := by decide +kernel
theorem dX2_raiseNeighbours_56 : decode cX2_raiseNeighbours 56 = .ok (.bipush 18, 2) := by decide +kernel
theorem dX2_raiseNeighbours_58 : decode cX2_raiseNeighbours 58 = .ok (.if_icmp .ge 27, 3) := by decide +kernel
theorem dX2_raiseNeighbours_61 : decode cX2_raiseNeighbours 61 = .ok (.aload_n 1, 1) := by decide +kernel
theorem dX2_raiseNeighbours_62 : decode cX2_raiseNeighbours 62 = .ok (.iload_n 2, 1) := by decide +kernel
theorem dX2_raiseNeighbours_63 : decode cX2_raiseNeighbours 63 = .ok (.iload 6, 2) := by decide +kernel
theorem dX2_raiseNeighbours_65 : decode cX2_raiseNeighbours 65 = .ok (.invokestatic 79, 3) := by decide +kernel
theorem dX2_raiseNeighbours_68 : decode cX2_raiseNeighbours 68 = .ok (.ifCond .eq 11, 3) := by decide +kernel
theorem dX2_raiseNeighbours_71 : decode cX2_raiseNeighbours 71 = .ok (.aload_n 0, 1) := by decide +kernel
theorem dX2_raiseNeighbours_72 : decode cX2_raiseNeighbours 72 = .ok (.iload 6, 2) := by decide +kernel
theorem dX2_raiseNeighbours_74 : decode cX2_raiseNeighbours 74 = .ok (.iload 5, 2) := by decide +kernel
theorem dX2_raiseNeighbours_76 : decode cX2_raiseNeighbours 76 = .ok (.invokevirtual 75, 3) := by decide +kernel
theorem dX2_raiseNeighbours_79 : decode cX2_raiseNeighbours 79 = .ok (.iinc 6 1, 3) := by decide +kernel
theorem dX2_raiseNeighbours_82 : decode cX2_raiseNeighbours 82 = .ok (.goto (-28), 3) := by decide +kernel
theorem dX2_raiseNeighbours_85 : decode cX2_raiseNeighbours 85 = .ok (.return_, 1) := by decide +kernel
set_option maxRecDepth 20000 in
theorem ggX2_helps_X5_zonesApart : GoodIn wsX2_helps wsX5_zonesApart := goodIn_r _ [4, 5, 6, 7, 8, 9, 10, 11] (by decide +kernel) (by decide +kernel)
set_option maxRecDepth 20000 in
theorem gX2_helps_X5_zonesApart_n83 : GoodIn wsX2_helps (wsX5_zonesApart) := ggX2_helps_X5_zonesApart
theorem dX2_helps_0 : decode cX2_helps 0 = .ok (.aload_n 0, 1) := by decide +kernel
theorem dX2_helps_1 : decode cX2_helps 1 = .ok (.getfield 23, 3) := by decide +kernel
theorem dX2_helps_4 : decode cX2_helps 4 = .ok (.iload_n 2, 1) := by decide +kernel
theorem dX2_helps_5 : decode cX2_helps 5 = .ok (.baload, 1) := by decide +kernel
theorem dX2_helps_6 : decode cX2_helps 6 = .ok (.ifCond .ne 16, 3) := by decide +kernel
theorem dX2_helps_9 : decode cX2_helps 9 = .ok (.iload_n 1, 1) := by decide +kernel
theorem dX2_helps_10 : decode cX2_helps 10 = .ok (.iload_n 2, 1) := by decide +kernel
theorem dX2_helps_11 : decode cX2_helps 11 = .ok (.invokestatic 83, 3) := by decide +kernel
theorem dX2_helps_14 : decode cX2_helps 14 = .ok (.iconst 1, 1) := by decide +kernel
theorem dX2_helps_15 : decode cX2_helps 15 = .ok (.if_icmp .ne 7, 3) := by decide +kernel
theorem dX2_helps_18 : decode cX2_helps 18 = .ok (.iconst 1, 1) := by decide +kernel
theorem dX2_helps_19 : decode cX2_helps 19 = .ok (.goto 4, 3) := by decide +kernel
theorem dX2_helps_22 : decode cX2_helps 22 = .ok (.iconst 0, 1) := by decide +kernel
theorem dX2_helps_23 : decode cX2_helps 23 = .ok (.ireturn, 1) := by decide +kernel
theorem dX2_raise_0 : decode cX2_raise 0 = .ok (.aload_n 0, 1) := by decide +kernel
theorem dX2_raise_1 : decode cX2_raise 1 = .ok (.getfield 9, 3) := by decide +kernel
theorem dX2_raise_4 : decode cX2_raise 4 = .ok (.iload_n 1, 1) := by decide +kernel
theorem dX2_raise_5 : decode cX2_raise 5 = .ok (.sipush 255, 3) := by decide +kernel
theorem dX2_raise_8 : decode cX2_raise 8 = .ok (.aload_n 0, 1) := by decide +kernel
theorem dX2_raise_9 : decode cX2_raise 9 = .ok (.getfield 9, 3) := by decide +kernel
theorem dX2_raise_12 : decode cX2_raise 12 = .ok (.iload_n 1, 1) := by decide +kernel
theorem dX2_raise_13 : decode cX2_raise 13 = .ok (.iaload, 1) := by decide +kernel
theorem dX2_raise_14 : decode cX2_raise 14 = .ok (.iload_n 2, 1) := by decide +kernel
theorem dX2_raise_15 : decode cX2_raise 15 = .ok (.iadd, 1) := by decide +kernel
theorem dX2_raise_16 : decode cX2_raise 16 = .ok (.invokestatic 49, 3) := by decide +kernel
theorem dX2_raise_19 : decode cX2_raise 19 = .ok (.iastore, 1) := by decide +kernel
theorem dX2_raise_20 : decode cX2_raise 20 = .ok (.return_, 1) := by decide +kernel
set_option maxRecDepth 20000 in
theorem ggX2_lowerForBlack_X3_glow : GoodIn wsX2_lowerForBlack wsX3_glow := goodIn_r _ [7, 8, 9, 10, 11, 12, 13, 14, 15, 16, 17, 18, 30, 31, 32, 33, 34, 35, 36] (by decide +kernel) (by decide +kernel)
set_option maxRecDepth 20000 in
theorem gX2_lowerForBlack_X3_glow : GoodIn wsX2_lowerForBlack (wsV RX2 58 RX3 yX3_glow wsX3_glow) := goodIn_app (goodIn_of _ (by decide +kernel)) ggX2_lowerForBlack_X3_glow
set_option maxRecDepth 20000 in
theorem ggX2_lowerForBlack_X5_lightOf : GoodIn wsX2_lowerForBlack wsX5_lightOf := goodIn_r _ [20, 21, 22, 14, 23] (by decide +kernel) (by decide +kernel)
set_option maxRecDepth 20000 in
theorem gX2_lowerForBlack_X5_lightOf_n62 : GoodIn wsX2_lowerForBlack (wsX5_lightOf) := ggX2_lowerForBlack_X5_lightOf
set_option maxRecDepth 20000 in
theorem ggX2_lowerForBlack_X3_leakOf : GoodIn wsX2_lowerForBlack wsX3_leakOf := goodIn_r _ [27, 8, 30, 31, 32, 33, 34, 35, 36] (by decide +kernel) (by decide +kernel)
set_option maxRecDepth 20000 in
theorem gX2_lowerForBlack_X3_leakOf : GoodIn wsX2_lowerForBlack (wsV RX2 86 RX3 yX3_leakOf wsX3_leakOf) := goodIn_app (goodIn_of _ (by decide +kernel)) ggX2_lowerForBlack_X3_leakOf
theorem dX2_lowerForBlack_0 : decode cX2_lowerForBlack 0 = .ok (.aload_n 1, 1) := by decide +kernel
theorem dX2_lowerForBlack_1 : decode cX2_lowerForBlack 1 = .ok (.iload_n 2, 1) := by decide +kernel
theorem dX2_lowerForBlack_2 : decode cX2_lowerForBlack 2 = .ok (.aload_n 0, 1) := by decide +kernel
theorem dX2_lowerForBlack_3 : decode cX2_lowerForBlack 3 = .ok (.getfield 9, 3) := by decide +kernel
theorem dX2_lowerForBlack_6 : decode cX2_lowerForBlack 6 = .ok (.invokevirtual 58, 3) := by decide +kernel
theorem dX2_lowerForBlack_9 : decode cX2_lowerForBlack 9 = .ok (.istore_n 3, 1) := by decide +kernel
theorem dX2_lowerForBlack_10 : decode cX2_lowerForBlack 10 = .ok (.aload_n 0, 1) := by decide +kernel
theorem dX2_lowerForBlack_11 : decode cX2_lowerForBlack 11 = .ok (.getfield 9, 3) := by decide +kernel
theorem dX2_lowerForBlack_14 : decode cX2_lowerForBlack 14 = .ok (.iload_n 2, 1) := by decide +kernel
theorem dX2_lowerForBlack_15 : decode cX2_lowerForBlack 15 = .ok (.iaload, 1) := by decide +kernel
theorem dX2_lowerForBlack_16 : decode cX2_lowerForBlack 16 = .ok (.ifCond .le 43, 3) := by decide +kernel
theorem dX2_lowerForBlack_19 : decode cX2_lowerForBlack 19 = .ok (.aload_n 1, 1) := by decide +kernel
theorem dX2_lowerForBlack_20 : decode cX2_lowerForBlack 20 = .ok (.iload_n 3, 1) := by decide +kernel
theorem dX2_lowerForBlack_21 : decode cX2_lowerForBlack 21 = .ok (.invokestatic 62, 3) := by decide +kernel
theorem dX2_lowerForBlack_24 : decode cX2_lowerForBlack 24 = .ok (.invokevirtual 86, 3) := by decide +kernel
theorem dX2_lowerForBlack_27 : decode cX2_lowerForBlack 27 = .ok (.aload_n 1, 1) := by decide +kernel
theorem dX2_lowerForBlack_28 : decode cX2_lowerForBlack 28 = .ok (.getfield 31, 3) := by decide +kernel
theorem dX2_lowerForBlack_31 : decode cX2_lowerForBlack 31 = .ok (.bipush 6, 2) := by decide +kernel
theorem dX2_lowerForBlack_33 : decode cX2_lowerForBlack 33 = .ok (.iaload, 1) := by decide +kernel
theorem dX2_lowerForBlack_34 : decode cX2_lowerForBlack 34 = .ok (.if_icmp .le 25, 3) := by decide +kernel
theorem dX2_lowerForBlack_37 : decode cX2_lowerForBlack 37 = .ok (.aload_n 0, 1) := by decide +kernel
theorem dX2_lowerForBlack_38 : decode cX2_lowerForBlack 38 = .ok (.getfield 9, 3) := by decide +kernel
theorem dX2_lowerForBlack_41 : decode cX2_lowerForBlack 41 = .ok (.iload_n 2, 1) := by decide +kernel
theorem dX2_lowerForBlack_42 : decode cX2_lowerForBlack 42 = .ok (.dup2, 1) := by decide +kernel
theorem dX2_lowerForBlack_43 : decode cX2_lowerForBlack 43 = .ok (.iaload, 1) := by decide +kernel
theorem dX2_lowerForBlack_44 : decode cX2_lowerForBlack 44 = .ok (.iconst 1, 1) := by decide +kernel
theorem dX2_lowerForBlack_45 : decode cX2_lowerForBlack 45 = .ok (.isub, 1) := by decide +kernel
theorem dX2_lowerForBlack_46 : decode cX2_lowerForBlack 46 = .ok (.iastore, 1) := by decide +kernel
theorem dX2_lowerForBlack_47 : decode cX2_lowerForBlack 47 = .ok (.iload_n 3, 1) := by decide +kernel
theorem dX2_lowerForBlack_48 : decode cX2_lowerForBlack 48 = .ok (.aload_n 1, 1) := by decide +kernel
theorem dX2_lowerForBlack_49 : decode cX2_lowerForBlack 49 = .ok (.getfield 31, 3) := by decide +kernel
theorem dX2_lowerForBlack_52 : decode cX2_lowerForBlack 52 = .ok (.iconst 0, 1) := by decide +kernel
theorem dX2_lowerForBlack_53 : decode cX2_lowerForBlack 53 = .ok (.iaload, 1) := by decide +kernel
theorem dX2_lowerForBlack_54 : decode cX2_lowerForBlack 54 = .ok (.isub, 1) := by decide +kernel
theorem dX2_lowerForBlack_55 : decode cX2_lowerForBlack 55 = .ok (.istore_n 3, 1) := by decide +kernel
theorem dX2_lowerForBlack_56 : decode cX2_lowerForBlack 56 = .ok (.goto (-46), 3) := by decide +kernel
theorem dX2_lowerForBlack_59 : decode cX2_lowerForBlack 59 = .ok (.return_, 1) := by decide +kernel
theorem dX3_init_0 : decode cX3_init 0 = .ok (.aload_n 0, 1) := by decide +kernel
theorem dX3_init_1 : decode cX3_init 1 = .ok (.invokespecial 3, 3) := by decide +kernel
theorem dX3_init_4 : decode cX3_init 4 = .ok (.aload_n 0, 1) := by decide +kernel
theorem dX3_init_5 : decode cX3_init 5 = .ok (.sipush 288, 3) := by decide +kernel
theorem dX3_init_8 : decode cX3_init 8 = .ok (.newarray .int, 2) := by decide +kernel
theorem dX3_init_10 : decode cX3_init 10 = .ok (.putfield 9, 3) := by decide +kernel
theorem dX3_init_13 : decode cX3_init 13 = .ok (.aload_n 0, 1) := by decide +kernel
theorem dX3_init_14 : decode cX3_init 14 = .ok (.bipush 18, 2) := by decide +kernel
theorem dX3_init_16 : decode cX3_init 16 = .ok (.newarray .int, 2) := by decide +kernel
theorem dX3_init_18 : decode cX3_init 18 = .ok (.putfield 15, 3) := by decide +kernel
theorem dX3_init_21 : decode cX3_init 21 = .ok (.aload_n 0, 1) := by decide +kernel
theorem dX3_init_22 : decode cX3_init 22 = .ok (.bipush 18, 2) := by decide +kernel
theorem dX3_init_24 : decode cX3_init 24 = .ok (.newarray .boolean, 2) := by decide +kernel
theorem dX3_init_26 : decode cX3_init 26 = .ok (.putfield 18, 3) := by decide +kernel
theorem dX3_init_29 : decode cX3_init 29 = .ok (.aload_n 0, 1) := by decide +kernel
theorem dX3_init_30 : decode cX3_init 30 = .ok (.bipush 8, 2) := by decide +kernel
theorem dX3_init_32 : decode cX3_init 32 = .ok (.newarray .int, 2) := by decide +kernel
theorem dX3_init_34 : decode cX3_init 34 = .ok (.putfield 22, 3) := by decide +kernel
theorem dX3_init_37 : decode cX3_init 37 = .ok (.aload_n 0, 1) := by decide +kernel
theorem dX3_init_38 : decode cX3_init 38 = .ok (.iconst 0, 1) := by decide +kernel
theorem dX3_init_39 : decode cX3_init 39 = .ok (.putfield 25, 3) := by decide +kernel
theorem dX3_init_42 : decode cX3_init 42 = .ok (.aload_n 0, 1) := by decide +kernel
theorem dX3_init_43 : decode cX3_init 43 = .ok (.iconst 0, 1) := by decide +kernel
theorem dX3_init_44 : decode cX3_init 44 = .ok (.putfield 29, 3) := by decide +kernel
theorem dX3_init_47 : decode cX3_init 47 = .ok (.aload_n 0, 1) := by decide +kernel
theorem dX3_init_48 : decode cX3_init 48 = .ok (.iconst 0, 1) := by decide +kernel
theorem dX3_init_49 : decode cX3_init 49 = .ok (.putfield 32, 3) := by decide +kernel
theorem dX3_init_52 : decode cX3_init 52 = .ok (.getstatic 35, 3) := by decide +kernel
theorem dX3_init_55 : decode cX3_init 55 = .ok (.iconst 0, 1) := by decide +kernel
theorem dX3_init_56 : decode cX3_init 56 = .ok (.aload_n 0, 1) := by decide +kernel
theorem dX3_init_57 : decode cX3_init 57 = .ok (.getfield 22, 3) := by decide +kernel
theorem dX3_init_60 : decode cX3_init 60 = .ok (.iconst 0, 1) := by decide +kernel
theorem dX3_init_61 : decode cX3_init 61 = .ok (.bipush 8, 2) := by decide +kernel
theorem dX3_init_63 : decode cX3_init 63 = .ok (.invokestatic 38, 3) := by decide +kernel
theorem dX3_init_66 : decode cX3_init 66 = .ok (.return_, 1) := by decide +kernel
theorem dX3_copyFrom_0 : decode cX3_copyFrom 0 = .ok (.aload_n 1, 1) := by decide +kernel
theorem dX3_copyFrom_1 : decode cX3_copyFrom 1 = .ok (.getfield 9, 3) := by decide +kernel
theorem dX3_copyFrom_4 : decode cX3_copyFrom 4 = .ok (.iconst 0, 1) := by decide +kernel
theorem dX3_copyFrom_5 : decode cX3_copyFrom 5 = .ok (.aload_n 0, 1) := by decide +kernel
theorem dX3_copyFrom_6 : decode cX3_copyFrom 6 = .ok (.getfield 9, 3) := by decide +kernel
theorem dX3_copyFrom_9 : decode cX3_copyFrom 9 = .ok (.iconst 0, 1) := by decide +kernel
theorem dX3_copyFrom_10 : decode cX3_copyFrom 10 = .ok (.sipush 288, 3) := by decide +kernel
theorem dX3_copyFrom_13 : decode cX3_copyFrom 13 = .ok (.invokestatic 38, 3) := by decide +kernel
theorem dX3_copyFrom_16 : decode cX3_copyFrom 16 = .ok (.aload_n 1, 1) := by decide +kernel
theorem dX3_copyFrom_17 : decode cX3_copyFrom 17 = .ok (.getfield 15, 3) := by decide +kernel
theorem dX3_copyFrom_20 : decode cX3_copyFrom 20 = .ok (.iconst 0, 1) := by decide +kernel
theorem dX3_copyFrom_21 : decode cX3_copyFrom 21 = .ok (.aload_n 0, 1) := by decide +kernel
theorem dX3_copyFrom_22 : decode cX3_copyFrom 22 = .ok (.getfield 15, 3) := by decide +kernel
theorem dX3_copyFrom_25 : decode cX3_copyFrom 25 = .ok (.iconst 0, 1) := by decide +kernel
theorem dX3_copyFrom_26 : decode cX3_copyFrom 26 = .ok (.bipush 18, 2) := by decide +kernel
theorem dX3_copyFrom_28 : decode cX3_copyFrom 28 = .ok (.invokestatic 38, 3) := by decide +kernel
theorem dX3_copyFrom_31 : decode cX3_copyFrom 31 = .ok (.aload_n 1, 1) := by decide +kernel
theorem dX3_copyFrom_32 : decode cX3_copyFrom 32 = .ok (.getfield 22, 3) := by decide +kernel
theorem dX3_copyFrom_35 : decode cX3_copyFrom 35 = .ok (.iconst 0, 1) := by decide +kernel
theorem dX3_copyFrom_36 : decode cX3_copyFrom 36 = .ok (.aload_n 0, 1) := by decide +kernel
theorem dX3_copyFrom_37 : decode cX3_copyFrom 37 = .ok (.getfield 22, 3) := by decide +kernel
theorem dX3_copyFrom_40 : decode cX3_copyFrom 40 = .ok (.iconst 0, 1) := by decide +kernel
theorem dX3_copyFrom_41 : decode cX3_copyFrom 41 = .ok (.bipush 8, 2) := by decide +kernel
theorem dX3_copyFrom_43 : decode cX3_copyFrom 43 = .ok (.invokestatic 38, 3) := by decide +kernel
theorem dX3_copyFrom_46 : decode cX3_copyFrom 46 = .ok (.iconst 0, 1) := by decide +kernel
theorem dX3_copyFrom_47 : decode cX3_copyFrom 47 = .ok (.istore_n 2, 1) := by decide +kernel
theorem dX3_copyFrom_48 : decode cX3_copyFrom 48 = .ok (.iload_n 2, 1) := by decide +kernel
theorem dX3_copyFrom_49 : decode cX3_copyFrom 49 = .ok (.bipush 18, 2) := by decide +kernel
theorem dX3_copyFrom_51 : decode cX3_copyFrom 51 = .ok (.if_icmp .ge 21, 3) := by decide +kernel
theorem dX3_copyFrom_54 : decode cX3_copyFrom 54 = .ok (.aload_n 0, 1) := by decide +kernel
theorem dX3_copyFrom_55 : decode cX3_copyFrom 55 = .ok (.getfield 18, 3) := by decide +kernel
theorem dX3_copyFrom_58 : decode cX3_copyFrom 58 = .ok (.iload_n 2, 1) := by decide +kernel
theorem dX3_copyFrom_59 : decode cX3_copyFrom 59 = .ok (.aload_n 1, 1) := by decide +kernel
theorem dX3_copyFrom_60 : decode cX3_copyFrom 60 = .ok (.getfield 18, 3) := by decide +kernel
theorem dX3_copyFrom_63 : decode cX3_copyFrom 63 = .ok (.iload_n 2, 1) := by decide +kernel
theorem dX3_copyFrom_64 : decode cX3_copyFrom 64 = .ok (.baload, 1) := by decide +kernel
theorem dX3_copyFrom_65 : decode cX3_copyFrom 65 = .ok (.bastore, 1) := by decide +kernel
theorem dX3_copyFrom_66 : decode cX3_copyFrom 66 = .ok (.iinc 2 1, 3) := by decide +kernel
theorem dX3_copyFrom_69 : decode cX3_copyFrom 69 = .ok (.goto (-21), 3) := by decide +kernel
theorem dX3_copyFrom_72 : decode cX3_copyFrom 72 = .ok (.aload_n 0, 1) := by decide +kernel
theorem dX3_copyFrom_73 : decode cX3_copyFrom 73 = .ok (.aload_n 1, 1) := by decide +kernel
theorem dX3_copyFrom_74 : decode cX3_copyFrom 74 = .ok (.getfield 25, 3) := by decide +kernel
theorem dX3_copyFrom_77 : decode cX3_copyFrom 77 = .ok (.putfield 25, 3) := by decide +kernel
theorem dX3_copyFrom_80 : decode cX3_copyFrom 80 = .ok (.aload_n 0, 1) := by decide +kernel
theorem dX3_copyFrom_81 : decode cX3_copyFrom 81 = .ok (.aload_n 1, 1) := by decide +kernel
theorem dX3_copyFrom_82 : decode cX3_copyFrom 82 = .ok (.getfield 29, 3) := by decide +kernel
theorem dX3_copyFrom_85 : decode cX3_copyFrom 85 = .ok (.putfield 29, 3) := by decide +kernel
theorem dX3_copyFrom_88 : decode cX3_copyFrom 88 = .ok (.aload_n 0, 1) := by decide +kernel
