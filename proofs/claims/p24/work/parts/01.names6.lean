set_option maxRecDepth 20000 in
theorem gL_law_X5_init : GoodIn wsL_law (wsX5_init) := ggL_law_X5_init
set_option maxRecDepth 20000 in
theorem ggL_law_L_cell : GoodIn wsL_law wsL_cell := goodIn_r _ [83, 84] (by decide +kernel) (by decide +kernel)
set_option maxRecDepth 20000 in
theorem gL_law_L_cell : GoodIn wsL_law (va_wsS RL 92 yL_cell wsL_cell) := goodIn_app (goodIn_of _ (by decide +kernel)) ggL_law_L_cell
set_option maxRecDepth 20000 in
set_option maxRecDepth 20000 in
theorem ggp_isStep1 : GoodIn wsL_law wsL_isStep_r1 := goodIn_r _ [88, 89, 90, 2, 91, 12, 92, 93, 94, 95, 18, 96, 22, 97, 98, 99, 100, 11, 101, 39, 102, 103, 104, 105] (by decide +kernel) (by decide +kernel)
set_option maxRecDepth 20000 in
theorem ggp_isStep2 : GoodIn wsL_law wsL_isStep_r2 := goodIn_r _ [41, 106, 107, 108, 109, 27, 110, 111, 112, 113, 114, 115, 116, 117, 118, 119, 120, 121, 26, 122, 71, 70, 123, 124] (by decide +kernel) (by decide +kernel)
set_option maxRecDepth 20000 in
theorem ggp_isStep3 : GoodIn wsL_law wsL_isStep_r3 := goodIn_r _ [125, 126, 127, 128, 38, 129, 130, 131, 132, 133, 134, 135, 136, 137, 138, 139, 140, 141, 142, 143, 144, 145, 146, 147] (by decide +kernel) (by decide +kernel)
set_option maxRecDepth 20000 in
theorem ggp_isStep4 : GoodIn wsL_law wsL_isStep_r4 := goodIn_r _ [148, 149, 150, 151, 152, 153, 154, 155, 156, 157, 158, 42, 159, 160, 161, 162, 163, 164, 165, 166, 167, 168, 169, 170] (by decide +kernel) (by decide +kernel)
set_option maxRecDepth 20000 in
theorem ggp_isStep5 : GoodIn wsL_law wsL_isStep_r5 := goodIn_r _ [171, 172, 173, 174, 175, 176, 177, 178, 179, 180, 181, 182, 183, 184, 185, 186, 187, 188, 189, 190, 191, 192, 31, 193] (by decide +kernel) (by decide +kernel)
set_option maxRecDepth 20000 in
theorem ggp_isStep6 : GoodIn wsL_law wsL_isStep_r6 := goodIn_r _ [194, 195, 196, 197, 198, 199, 30, 200, 201, 202, 203, 204, 75, 76, 77, 78, 79, 205, 206, 207, 208, 209, 210, 211] (by decide +kernel) (by decide +kernel)
set_option maxRecDepth 20000 in
theorem ggp_isStep7 : GoodIn wsL_law wsL_isStep_r7 := goodIn_r _ [212, 213, 214, 215, 216, 217, 218, 219, 220, 221, 222, 223, 224, 225, 226, 227, 228, 229, 230, 231, 232, 82, 233, 234] (by decide +kernel) (by decide +kernel)
set_option maxRecDepth 20000 in
theorem ggp_isStep8 : GoodIn wsL_law wsL_isStep_r8 := goodIn_r _ [235, 236, 237, 238, 239, 240, 241, 242, 243, 17, 244, 57, 56, 55, 245, 246, 247, 248, 46, 47, 48, 49, 43, 44] (by decide +kernel) (by decide +kernel)
set_option maxRecDepth 20000 in
theorem ggp_isStep9 : GoodIn wsL_law wsL_isStep_r9 := goodIn_r _ [45, 249, 250, 251, 252, 253, 254, 255, 256, 257, 258, 259, 260, 261, 262, 263, 264, 265, 266, 267, 268, 269, 270, 271] (by decide +kernel) (by decide +kernel)
set_option maxRecDepth 20000 in
theorem ggp_isStep10 : GoodIn wsL_law wsL_isStep_r10 := goodIn_r _ [272, 33, 273, 274, 275, 276, 277, 278, 279, 280, 281, 282, 283, 284, 285, 286, 287, 288, 289, 290, 291, 292, 293, 294] (by decide +kernel) (by decide +kernel)
set_option maxRecDepth 20000 in
theorem ggp_isStep11 : GoodIn wsL_law wsL_isStep_r11 := goodIn_r _ [295, 296, 297, 298, 299, 300, 301, 302, 303, 304, 305, 306, 307, 308, 309, 310, 311, 312, 313, 314, 315, 316, 317, 318] (by decide +kernel) (by decide +kernel)
set_option maxRecDepth 20000 in
theorem ggp_isStep12 : GoodIn wsL_law wsL_isStep_r12 := goodIn_r _ [319, 320, 321, 322, 323, 324, 325, 326, 23, 327, 328, 329, 330, 331, 332, 333, 334, 335, 336, 337, 338, 339, 13, 14] (by decide +kernel) (by decide +kernel)
set_option maxRecDepth 20000 in
theorem ggp_isStep13 : GoodIn wsL_law wsL_isStep_r13 := goodIn_r _ [340, 341, 342, 343, 344, 345, 346, 347, 348, 349, 350, 351, 352, 353, 354, 355, 356, 357, 358, 359, 360, 361, 362, 363] (by decide +kernel) (by decide +kernel)
set_option maxRecDepth 20000 in
theorem ggp_isStep14 : GoodIn wsL_law wsL_isStep_r14 := goodIn_r _ [364, 21, 365, 64, 63, 366, 367, 368, 369, 370, 371, 372, 373, 66, 374, 375, 376, 377, 378, 65, 379, 380, 381, 382] (by decide +kernel) (by decide +kernel)
set_option maxRecDepth 20000 in
theorem ggp_isStep15 : GoodIn wsL_law wsL_isStep_r15 := goodIn_r _ [383, 384, 385, 386, 387, 388, 389, 390, 391, 392, 393, 394, 395, 396, 397, 398, 399] (by decide +kernel) (by decide +kernel)
theorem ggL_law_L_isStep : GoodIn wsL_law wsL_isStep := by
  intro w hw
  rcases List.mem_cons.mp hw with rfl | hw
  · exact ⟨List.mem_of_getElem? (i := 87) rfl, good_of_word (by decide +kernel)⟩
  · exact (goodIn_app (goodIn_app (goodIn_app (goodIn_app (goodIn_app (goodIn_app (goodIn_app ggp_isStep1 (goodIn_app ggp_isStep2 (goodIn_app ggp_isStep3 (goodIn_app ggp_isStep4 (goodIn_app ggp_isStep5 (goodIn_app ggp_isStep6 (goodIn_app ggp_isStep7 (goodIn_app ggp_isStep8 (goodIn_app ggp_isStep9 (goodIn_app ggp_isStep10 (goodIn_app ggp_isStep11 (goodIn_app ggp_isStep12 (goodIn_app ggp_isStep13 (goodIn_app ggp_isStep14 ggp_isStep15)))))))))))))) (goodIn_sub inlX5 (by decide +kernel))) (goodIn_sub inlX3 (by decide +kernel))) (goodIn_sub inlX0 (by decide +kernel))) (goodIn_sub inlX1 (by decide +kernel))) (goodIn_sub inlX2 (by decide +kernel))) (goodIn_sub inlX4 (by decide +kernel))) w hw
set_option maxRecDepth 20000 in
theorem gL_law_L_isStep : GoodIn wsL_law (va_wsS RL 96 yL_isStep wsL_isStep) := goodIn_app (goodIn_of _ (by decide +kernel)) ggL_law_L_isStep
set_option maxRecDepth 20000 in
set_option maxRecDepth 20000 in
theorem ggp_isWell1 : GoodIn wsL_law wsL_isWell_r1 := goodIn_r _ [403, 291, 292, 293, 2, 294, 12, 279, 295, 285, 286, 132, 133, 134, 257, 211, 212, 11, 213, 39, 214, 156, 157, 158] (by decide +kernel) (by decide +kernel)
set_option maxRecDepth 20000 in
theorem ggp_isWell2 : GoodIn wsL_law wsL_isWell_r2 := goodIn_r _ [42, 159, 160, 112, 113, 114, 115, 116, 117, 118, 161, 162, 163, 140, 141, 296, 219, 220, 221, 171, 172, 297, 216, 217] (by decide +kernel) (by decide +kernel)
set_option maxRecDepth 20000 in
theorem ggp_isWell3 : GoodIn wsL_law wsL_isWell_r3 := goodIn_r _ [218, 129, 222, 186, 187, 188, 298, 229, 230, 249, 250, 251, 252, 111, 27, 110, 253, 31, 193, 194, 254, 255, 256, 119] (by decide +kernel) (by decide +kernel)
set_option maxRecDepth 20000 in
theorem ggp_isWell4 : GoodIn wsL_law wsL_isWell_r4 := goodIn_r _ [120, 121, 26, 122, 71, 70, 123, 124, 125, 126, 127, 128, 38, 130, 131, 135, 136, 137, 138, 139, 142, 143, 144, 145] (by decide +kernel) (by decide +kernel)
set_option maxRecDepth 20000 in
theorem ggp_isWell5 : GoodIn wsL_law wsL_isWell_r5 := goodIn_r _ [146, 147, 148, 149, 150, 151, 152, 153, 154, 155, 164, 165, 166, 167, 168, 169, 170, 173, 174, 175, 176, 177, 178, 179] (by decide +kernel) (by decide +kernel)
set_option maxRecDepth 20000 in
theorem ggp_isWell6 : GoodIn wsL_law wsL_isWell_r6 := goodIn_r _ [180, 181, 182, 183, 184, 185, 258, 259, 260, 261, 262, 263, 30, 264, 201, 202, 203, 204, 75, 76, 77, 78, 79, 205] (by decide +kernel) (by decide +kernel)
set_option maxRecDepth 20000 in
theorem ggp_isWell7 : GoodIn wsL_law wsL_isWell_r7 := goodIn_r _ [206, 207, 208, 209, 210, 215, 223, 224, 225, 226, 227, 228, 88, 89, 90, 91, 92, 93, 94, 95, 18, 96, 22, 97] (by decide +kernel) (by decide +kernel)
set_option maxRecDepth 20000 in
theorem ggp_isWell8 : GoodIn wsL_law wsL_isWell_r8 := goodIn_r _ [98, 99, 100, 101, 102, 103, 104, 105, 41, 106, 107, 108, 109, 189, 190, 191, 192, 195, 196, 197, 198, 199, 200, 299] (by decide +kernel) (by decide +kernel)
set_option maxRecDepth 20000 in
theorem ggp_isWell9 : GoodIn wsL_law wsL_isWell_r9 := goodIn_r _ [300, 301, 302, 317, 318, 319, 320, 321, 322] (by decide +kernel) (by decide +kernel)
theorem ggL_law_L_isWell : GoodIn wsL_law wsL_isWell := by
  intro w hw
  rcases List.mem_cons.mp hw with rfl | hw
  · exact ⟨List.mem_of_getElem? (i := 402) rfl, good_of_word (by decide +kernel)⟩
  · exact (goodIn_app (goodIn_app (goodIn_app (goodIn_app (goodIn_app (goodIn_app (goodIn_app ggp_isWell1 (goodIn_app ggp_isWell2 (goodIn_app ggp_isWell3 (goodIn_app ggp_isWell4 (goodIn_app ggp_isWell5 (goodIn_app ggp_isWell6 (goodIn_app ggp_isWell7 (goodIn_app ggp_isWell8 ggp_isWell9)))))))) (goodIn_sub inlX5 (by decide +kernel))) (goodIn_sub inlX3 (by decide +kernel))) (goodIn_sub inlX2 (by decide +kernel))) (goodIn_sub inlX4 (by decide +kernel))) (goodIn_sub inlX0 (by decide +kernel))) (goodIn_sub inlX1 (by decide +kernel))) w hw
set_option maxRecDepth 20000 in
theorem gL_law_L_isWell : GoodIn wsL_law (va_wsS RL 100 yL_isWell wsL_isWell) := goodIn_app (goodIn_of _ (by decide +kernel)) ggL_law_L_isWell
set_option maxRecDepth 20000 in
theorem ggL_law_L_areAlike : GoodIn wsL_law wsL_areAlike := goodIn_r _ [316, 317, 318, 319, 2, 320, 31, 12, 321, 322, 197, 198, 199, 30, 200, 201, 202, 203, 204, 75, 76, 77, 78, 79, 205, 206, 207, 208, 209, 210, 211, 212, 11, 213, 39, 214, 156, 157, 158, 42, 159, 160, 112, 113, 114, 115, 116, 117, 118, 161, 162, 163, 140, 141, 130, 131, 132, 133, 134, 215, 216, 217, 218, 129, 219, 220, 221, 171, 172, 222, 186, 187, 188, 223, 224, 225, 226, 227, 228, 229, 230, 299, 300, 301, 302, 92, 106, 107, 108, 109, 27, 110, 111, 119, 120, 121, 26, 122, 71, 70, 123, 124, 125, 126, 127, 128, 38, 135, 136, 137, 138, 139, 142, 143, 144, 145, 146, 147, 148, 149, 150, 151, 152, 153, 154, 155, 164, 165, 166, 167, 168, 169, 170, 173, 174, 175, 176, 177, 178, 179, 180, 181, 182, 183, 184, 185, 323, 324, 325, 326, 23, 195, 327, 246, 247, 248, 46, 47, 48, 49, 41, 43, 44, 45, 328, 329, 330, 331, 280, 98, 99, 100, 101, 332, 333, 334, 335, 88, 89, 90, 91, 93, 94, 95, 18, 96, 22, 97, 102, 103, 104, 105, 189, 190, 191, 192, 193, 194, 196, 249, 250, 251, 252, 253, 254, 255, 256, 257, 258, 259, 260, 261, 262, 263, 264, 404, 405, 406, 407, 408, 409, 410, 411, 412, 429, 430, 431, 432, 433, 413, 414, 415, 416, 417, 418, 419, 427, 428, 420, 421, 422, 423, 424, 425, 426] (by decide +kernel) (by decide +kernel)
set_option maxRecDepth 20000 in
theorem gL_law_L_areAlike : GoodIn wsL_law (va_wsS RL 62 yL_areAlike wsL_areAlike) := goodIn_app (goodIn_of _ (by decide +kernel)) ggL_law_L_areAlike
theorem dL_law_0 : decode cL_law 0 = .ok (.new 10, 3) := by decide +kernel
theorem dL_law_3 : decode cL_law 3 = .ok (.dup, 1) := by decide +kernel
theorem dL_law_4 : decode cL_law 4 = .ok (.invokespecial 91, 3) := by decide +kernel
theorem dL_law_7 : decode cL_law 7 = .ok (.astore_n 1, 1) := by decide +kernel
theorem dL_law_8 : decode cL_law 8 = .ok (.new 10, 3) := by decide +kernel
theorem dL_law_11 : decode cL_law 11 = .ok (.dup, 1) := by decide +kernel
theorem dL_law_12 : decode cL_law 12 = .ok (.invokespecial 91, 3) := by decide +kernel
theorem dL_law_15 : decode cL_law 15 = .ok (.astore_n 2, 1) := by decide +kernel
theorem dL_law_16 : decode cL_law 16 = .ok (.iconst 1, 1) := by decide +kernel
theorem dL_law_17 : decode cL_law 17 = .ok (.istore_n 3, 1) := by decide +kernel
theorem dL_law_18 : decode cL_law 18 = .ok (.iconst 0, 1) := by decide +kernel
theorem dL_law_19 : decode cL_law 19 = .ok (.istore 4, 2) := by decide +kernel
theorem dL_law_21 : decode cL_law 21 = .ok (.iload 4, 2) := by decide +kernel
theorem dL_law_23 : decode cL_law 23 = .ok (.bipush 40, 2) := by decide +kernel
theorem dL_law_25 : decode cL_law 25 = .ok (.if_icmp .ge 57, 3) := by decide +kernel
theorem dL_law_28 : decode cL_law 28 = .ok (.iload_n 3, 1) := by decide +kernel
theorem dL_law_29 : decode cL_law 29 = .ok (.ifCond .eq 53, 3) := by decide +kernel
theorem dL_law_32 : decode cL_law 32 = .ok (.aload_n 1, 1) := by decide +kernel
theorem dL_law_33 : decode cL_law 33 = .ok (.aload_n 2, 1) := by decide +kernel
theorem dL_law_34 : decode cL_law 34 = .ok (.aload_n 0, 1) := by decide +kernel
theorem dL_law_35 : decode cL_law 35 = .ok (.iload 4, 2) := by decide +kernel
theorem dL_law_37 : decode cL_law 37 = .ok (.invokestatic 92, 3) := by decide +kernel
theorem dL_law_40 : decode cL_law 40 = .ok (.aload_n 0, 1) := by decide +kernel
theorem dL_law_41 : decode cL_law 41 = .ok (.iload 4, 2) := by decide +kernel
theorem dL_law_43 : decode cL_law 43 = .ok (.iconst 1, 1) := by decide +kernel
theorem dL_law_44 : decode cL_law 44 = .ok (.iadd, 1) := by decide +kernel
theorem dL_law_45 : decode cL_law 45 = .ok (.invokestatic 92, 3) := by decide +kernel
theorem dL_law_48 : decode cL_law 48 = .ok (.iconst 2, 1) := by decide +kernel
theorem dL_law_49 : decode cL_law 49 = .ok (.ishr, 1) := by decide +kernel
theorem dL_law_50 : decode cL_law 50 = .ok (.invokestatic 96, 3) := by decide +kernel
theorem dL_law_53 : decode cL_law 53 = .ok (.ifCond .eq 21, 3) := by decide +kernel
theorem dL_law_56 : decode cL_law 56 = .ok (.iload 4, 2) := by decide +kernel
theorem dL_law_58 : decode cL_law 58 = .ok (.iconst 4, 1) := by decide +kernel
theorem dL_law_59 : decode cL_law 59 = .ok (.irem, 1) := by decide +kernel
theorem dL_law_60 : decode cL_law 60 = .ok (.ifCond .gt 10, 3) := by decide +kernel
theorem dL_law_63 : decode cL_law 63 = .ok (.aload_n 1, 1) := by decide +kernel
theorem dL_law_64 : decode cL_law 64 = .ok (.invokestatic 100, 3) := by decide +kernel
theorem dL_law_67 : decode cL_law 67 = .ok (.ifCond .eq 7, 3) := by decide +kernel
theorem dL_law_70 : decode cL_law 70 = .ok (.iconst 1, 1) := by decide +kernel
theorem dL_law_71 : decode cL_law 71 = .ok (.goto 4, 3) := by decide +kernel
theorem dL_law_74 : decode cL_law 74 = .ok (.iconst 0, 1) := by decide +kernel
theorem dL_law_75 : decode cL_law 75 = .ok (.istore_n 3, 1) := by decide +kernel
theorem dL_law_76 : decode cL_law 76 = .ok (.iinc 4 1, 3) := by decide +kernel
theorem dL_law_79 : decode cL_law 79 = .ok (.goto (-58), 3) := by decide +kernel
theorem dL_law_82 : decode cL_law 82 = .ok (.iload_n 3, 1) := by decide +kernel
theorem dL_law_83 : decode cL_law 83 = .ok (.ifCond .eq 22, 3) := by decide +kernel
theorem dL_law_86 : decode cL_law 86 = .ok (.aload_n 1, 1) := by decide +kernel
theorem dL_law_87 : decode cL_law 87 = .ok (.invokestatic 100, 3) := by decide +kernel
theorem dL_law_90 : decode cL_law 90 = .ok (.ifCond .eq 15, 3) := by decide +kernel
theorem dL_law_93 : decode cL_law 93 = .ok (.aload_n 1, 1) := by decide +kernel
theorem dL_law_94 : decode cL_law 94 = .ok (.aload_n 2, 1) := by decide +kernel
theorem dL_law_95 : decode cL_law 95 = .ok (.invokestatic 62, 3) := by decide +kernel
theorem dL_law_98 : decode cL_law 98 = .ok (.ifCond .eq 7, 3) := by decide +kernel
theorem dL_law_101 : decode cL_law 101 = .ok (.iconst 1, 1) := by decide +kernel
theorem dL_law_102 : decode cL_law 102 = .ok (.goto 4, 3) := by decide +kernel
theorem dL_law_105 : decode cL_law 105 = .ok (.iconst 0, 1) := by decide +kernel
theorem dL_law_106 : decode cL_law 106 = .ok (.ireturn, 1) := by decide +kernel
abbrev vwCl : List vw_C := [(RX0, TX0, 3), (RX1, TX1, 4), (RX2, TX2, 2), (RX3, TX3, 7), (RX4, TX4, 5), (RX5, TX5, 9)]
