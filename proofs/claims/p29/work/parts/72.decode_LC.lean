set_option maxRecDepth 20000 in
theorem ggL_acts_X4_count : GoodIn wsL_acts wsX4_count := goodIn_r _ [5, 6, 7, 8, 9, 10, 11, 12, 13, 14, 15, 16, 17, 18, 19, 20, 21, 22, 23, 24, 25, 26, 27, 28, 29, 30, 31, 32, 33, 34, 35, 36, 37, 38, 39, 40, 41, 42, 43, 44, 45, 46, 47, 48, 49, 50, 51, 52, 53, 54, 55, 56, 57, 58, 59, 60, 61, 62, 63, 64, 65, 66, 67, 68, 69, 70, 71, 72, 73, 74, 75, 4, 76, 77, 78, 79, 80, 81, 82, 83, 84, 85, 86, 87, 88, 89, 90, 91, 92, 93, 356, 357, 358, 359, 360, 361, 362, 363, 364, 365, 366, 367, 368, 369, 370, 371, 372, 373, 374, 375, 376, 377] (by decide +kernel) (by decide +kernel)
set_option maxRecDepth 20000 in
theorem gL_acts_X4_count : GoodIn wsL_acts (wsV RL 15 RX4 yX4_count wsX4_count) := goodIn_app (goodIn_of _ (by decide +kernel)) ggL_acts_X4_count
set_option maxRecDepth 20000 in
theorem ggL_acts_X4_ofRound : GoodIn wsL_acts wsX4_ofRound := goodIn_r _ [97, 6, 98, 7, 99, 100, 4, 101, 102, 35, 36, 15, 37, 38, 39, 103, 104, 105, 106, 17, 107, 108, 109, 110, 111, 75, 76, 112, 113, 114, 115, 81, 116, 117, 118, 119, 120, 121, 122, 123, 124, 125, 126, 127, 73, 128, 129, 130, 131, 132, 133, 134, 135, 69, 70, 71, 72, 74, 77, 78, 79, 80, 356, 357, 358, 359, 360, 361, 362, 363, 364, 365, 366, 367, 368, 369, 370, 371, 372] (by decide +kernel) (by decide +kernel)
set_option maxRecDepth 20000 in
theorem gL_acts_X4_ofRound : GoodIn wsL_acts (wsV RL 44 RX4 yX4_ofRound wsX4_ofRound) := goodIn_app (goodIn_of _ (by decide +kernel)) ggL_acts_X4_ofRound
set_option maxRecDepth 20000 in
theorem ggL_acts_X4_sheet : GoodIn wsL_acts wsX4_sheet := goodIn_r _ [139, 6, 140, 141, 142, 15, 143, 17, 99, 100, 4, 101, 144, 108, 109, 110, 111, 39, 75, 76, 145, 121, 122, 123, 124, 125, 126, 127, 73, 146, 147, 148, 149, 74, 150, 151, 70, 71, 72, 77, 78, 79, 80, 81, 102, 35, 36, 37, 38, 152, 153, 154, 155, 23, 156, 157, 158, 159, 160, 161, 162, 163, 356, 357, 358, 359, 360, 361, 362, 363, 364, 365, 366, 367, 368, 369, 370, 371, 372] (by decide +kernel) (by decide +kernel)
set_option maxRecDepth 20000 in
theorem gL_acts_X4_sheet : GoodIn wsL_acts (wsV RL 40 RX4 yX4_sheet wsX4_sheet) := goodIn_app (goodIn_of _ (by decide +kernel)) ggL_acts_X4_sheet
set_option maxRecDepth 20000 in
theorem ggL_acts_X4_team : GoodIn wsL_acts wsX4_team := goodIn_r _ [167, 6, 7, 11, 168, 9, 30, 31, 32, 15, 33, 34, 35, 36, 37, 38, 39, 169, 170, 171, 91, 172, 173, 174, 93, 175, 176, 134, 177, 178, 179, 180, 23, 181, 182, 183, 184, 18, 81, 44, 185, 111, 74, 73, 49, 17, 186, 356, 357, 358, 359, 360, 361, 362, 363, 364, 365, 366, 367, 368, 369, 370, 371, 372, 375, 376, 377] (by decide +kernel) (by decide +kernel)
set_option maxRecDepth 20000 in
theorem gL_acts_X4_team : GoodIn wsL_acts (wsV RL 65 RX4 yX4_team wsX4_team) := goodIn_app (goodIn_of _ (by decide +kernel)) ggL_acts_X4_team
set_option maxRecDepth 20000 in
theorem ggL_acts_X4_ofTeam : GoodIn wsL_acts wsX4_ofTeam := goodIn_r _ [190, 6, 191, 192, 193, 168, 140, 141, 142, 15, 143, 17, 194, 66, 67, 68, 23, 44, 69, 70, 71, 72, 73, 74, 75, 4, 76, 77, 78, 79, 80, 81, 195, 196, 197, 198, 199, 200, 201, 202, 65, 203, 204, 205, 206, 186, 185, 207, 208, 134, 209, 210, 211, 212, 213, 214, 215, 216, 217, 218, 50, 51, 52, 53, 54, 55, 56, 219, 220, 221, 222, 223, 26, 27, 28, 24, 13, 14, 16, 18, 29, 20, 21, 22, 224, 225, 226, 227, 228, 229, 230, 107, 108, 109, 110, 111, 39, 231, 232, 233, 234, 120, 121, 122, 123, 124, 125, 126, 127, 235, 356, 357, 358, 359, 360, 361, 362, 363, 364, 365, 366, 367, 368, 369, 370, 371, 372] (by decide +kernel) (by decide +kernel)
set_option maxRecDepth 20000 in
theorem gL_acts_X4_ofTeam : GoodIn wsL_acts (wsV RL 9 RX4 yX4_ofTeam wsX4_ofTeam) := goodIn_app (goodIn_of _ (by decide +kernel)) ggL_acts_X4_ofTeam
set_option maxRecDepth 20000 in
theorem ggL_acts_L_tells : GoodIn wsL_acts wsL_tells := goodIn_r _ [239, 240, 241, 242, 243, 4, 244, 10, 82, 83, 84, 85, 86, 87, 245, 246, 247, 248, 249, 250, 251, 252, 253, 254, 255, 256, 257, 258, 259, 260, 261, 262, 263, 264, 265, 266, 267, 268, 269, 270, 271, 272, 273, 274, 275, 356, 357, 358, 359, 360, 373, 374] (by decide +kernel) (by decide +kernel)
set_option maxRecDepth 20000 in
theorem gL_acts_L_tells : GoodIn wsL_acts (va_wsS RL 68 yL_tells wsL_tells) := goodIn_app (goodIn_of _ (by decide +kernel)) ggL_acts_L_tells
set_option maxRecDepth 20000 in
theorem ggL_acts_X4_hand : GoodIn wsL_acts wsX4_hand := goodIn_r _ [279, 6, 10, 11, 280, 140, 141, 142, 15, 143, 17, 99, 100, 4, 101, 281, 282, 283, 85, 284, 285, 267, 268, 269, 87, 261, 270, 271, 272, 273, 274, 275, 102, 35, 36, 37, 38, 39, 144, 108, 109, 110, 111, 75, 76, 169, 170, 171, 91, 172, 173, 174, 93, 175, 176, 134, 177, 178, 179, 180, 23, 181, 182, 183, 184, 18, 81, 44, 185, 74, 73, 49, 186, 286, 287, 288, 289, 290, 291, 292, 158, 293, 245, 246, 247, 248, 160, 161, 162, 163, 156, 157, 159, 356, 357, 358, 359, 360, 361, 362, 363, 364, 365, 366, 367, 368, 369, 370, 371, 372, 373, 374, 375, 376, 377] (by decide +kernel) (by decide +kernel)
set_option maxRecDepth 20000 in
theorem gL_acts_X4_hand : GoodIn wsL_acts (wsV RL 72 RX4 yX4_hand wsX4_hand) := goodIn_app (goodIn_of _ (by decide +kernel)) ggL_acts_X4_hand
set_option maxRecDepth 20000 in
theorem ggL_acts_X4_joker : GoodIn wsL_acts wsX4_joker := goodIn_r _ [297, 6, 191, 11, 140, 141, 142, 15, 143, 17, 99, 100, 4, 101, 102, 35, 36, 37, 38, 39, 144, 108, 109, 110, 111, 75, 76, 169, 170, 171, 91, 172, 173, 174, 93, 175, 176, 134, 177, 178, 179, 180, 23, 181, 182, 183, 184, 18, 81, 44, 185, 74, 73, 49, 186, 112, 113, 114, 115, 298, 51, 52, 53, 54, 55, 56, 356, 357, 358, 359, 360, 361, 362, 363, 364, 365, 366, 367, 368, 369, 370, 371, 372, 375, 376, 377] (by decide +kernel) (by decide +kernel)
set_option maxRecDepth 20000 in
theorem gL_acts_X4_joker : GoodIn wsL_acts (wsV RL 75 RX4 yX4_joker wsX4_joker) := goodIn_app (goodIn_of _ (by decide +kernel)) ggL_acts_X4_joker
set_option maxRecDepth 20000 in
theorem ggL_acts_L_bits : GoodIn wsL_acts wsL_bits := goodIn_r _ [301] (by decide +kernel) (by decide +kernel)
set_option maxRecDepth 20000 in
theorem gL_acts_L_bits : GoodIn wsL_acts (va_wsS RL 78 yL_bits wsL_bits) := goodIn_app (goodIn_of _ (by decide +kernel)) ggL_acts_L_bits
set_option maxRecDepth 20000 in
theorem ggL_acts_X4_key : GoodIn wsL_acts wsX4_key := goodIn_r _ [305, 10, 6, 11, 306, 99, 100, 4, 101, 307, 308, 309, 85, 310, 261, 311, 282, 283, 284, 285, 267, 268, 269, 87, 270, 271, 272, 273, 274, 275, 102, 35, 36, 15, 37, 38, 39, 169, 170, 171, 91, 172, 173, 174, 93, 175, 176, 134, 177, 178, 179, 180, 23, 181, 182, 183, 184, 18, 81, 44, 185, 111, 74, 73, 49, 17, 186, 287, 288, 289, 290, 291, 292, 158, 293, 245, 246, 247, 248, 103, 104, 105, 106, 107, 108, 109, 110, 75, 76, 298, 51, 52, 53, 54, 55, 56, 356, 357, 358, 359, 360, 361, 362, 363, 364, 365, 366, 367, 368, 369, 370, 371, 372, 373, 374, 375, 376, 377] (by decide +kernel) (by decide +kernel)
set_option maxRecDepth 20000 in
theorem gL_acts_X4_key : GoodIn wsL_acts (wsV RL 81 RX4 yX4_key wsX4_key) := goodIn_app (goodIn_of _ (by decide +kernel)) ggL_acts_X4_key
set_option maxRecDepth 20000 in
theorem ggL_acts_X4_mark : GoodIn wsL_acts wsX4_mark := goodIn_r _ [315, 6, 11, 316, 317, 140, 141, 142, 15, 143, 17, 99, 100, 4, 101, 102, 35, 36, 37, 38, 39, 144, 108, 109, 110, 111, 75, 76, 145, 121, 122, 123, 124, 125, 126, 127, 73, 169, 170, 171, 91, 172, 173, 174, 93, 175, 176, 134, 177, 178, 179, 180, 23, 181, 182, 183, 184, 18, 81, 44, 185, 74, 49, 186, 286, 356, 357, 358, 359, 360, 361, 362, 363, 364, 365, 366, 367, 368, 369, 370, 371, 372, 375, 376, 377] (by decide +kernel) (by decide +kernel)
set_option maxRecDepth 20000 in
theorem gL_acts_X4_mark : GoodIn wsL_acts (wsV RL 84 RX4 yX4_mark wsX4_mark) := goodIn_app (goodIn_of _ (by decide +kernel)) ggL_acts_X4_mark
set_option maxRecDepth 20000 in
theorem ggL_acts_X4_look : GoodIn wsL_acts wsX4_look := goodIn_r _ [321, 6, 11, 316, 98, 140, 141, 142, 15, 143, 17, 99, 100, 4, 101, 145, 121, 122, 123, 124, 125, 126, 127, 73, 75, 76, 322, 323, 324, 325, 49, 169, 170, 171, 91, 172, 173, 174, 93, 175, 176, 134, 177, 178, 179, 180, 23, 181, 182, 183, 184, 18, 81, 44, 185, 38, 111, 74, 186, 326, 327, 328, 329, 120, 330, 331, 147, 148, 149, 332, 153, 154, 155, 156, 157, 158, 159, 150, 333, 334, 335, 336, 337, 286, 152, 356, 357, 358, 359, 360, 361, 362, 363, 364, 365, 366, 367, 368, 369, 370, 371, 372, 375, 376, 377] (by decide +kernel) (by decide +kernel)
set_option maxRecDepth 20000 in
theorem gL_acts_X4_look : GoodIn wsL_acts (wsV RL 88 RX4 yX4_look wsX4_look) := goodIn_app (goodIn_of _ (by decide +kernel)) ggL_acts_X4_look
set_option maxRecDepth 20000 in
theorem ggL_acts_X4_guess : GoodIn wsL_acts wsX4_guess := goodIn_r _ [341, 6, 8, 11, 193, 140, 141, 142, 15, 143, 17, 169, 170, 171, 91, 172, 173, 174, 93, 175, 176, 134, 177, 178, 179, 180, 23, 181, 182, 183, 184, 18, 81, 44, 185, 38, 111, 74, 73, 49, 186, 356, 357, 358, 359, 360, 361, 362, 363, 364, 365, 366, 367, 368, 369, 370, 371, 372, 375, 376, 377] (by decide +kernel) (by decide +kernel)
set_option maxRecDepth 20000 in
theorem gL_acts_X4_guess : GoodIn wsL_acts (wsV RL 91 RX4 yX4_guess wsX4_guess) := goodIn_app (goodIn_of _ (by decide +kernel)) ggL_acts_X4_guess
set_option maxRecDepth 20000 in
theorem ggL_acts_X4_set : GoodIn wsL_acts wsX4_set := goodIn_r _ [345, 346, 347, 11, 6, 9, 169, 170, 171, 91, 172, 173, 174, 93, 175, 176, 134, 177, 178, 179, 15, 180, 23, 181, 182, 183, 184, 18, 81, 44, 185, 38, 111, 74, 73, 49, 17, 186, 356, 357, 358, 359, 360, 361, 362, 363, 364, 365, 366, 367, 368, 369, 370, 371, 372, 375, 376, 377] (by decide +kernel) (by decide +kernel)
set_option maxRecDepth 20000 in
theorem gL_acts_X4_set : GoodIn wsL_acts (wsV RL 94 RX4 yX4_set wsX4_set) := goodIn_app (goodIn_of _ (by decide +kernel)) ggL_acts_X4_set
set_option maxRecDepth 20000 in
theorem ggL_acts_X4_truth : GoodIn wsL_acts wsX4_truth := goodIn_r _ [351, 6, 8, 11, 169, 170, 171, 91, 172, 173, 174, 93, 175, 176, 134, 177, 178, 179, 15, 180, 23, 181, 182, 183, 184, 18, 81, 44, 185, 38, 111, 74, 73, 49, 17, 186, 352, 353, 354, 355, 356, 357, 358, 359, 360, 361, 362, 363, 364, 365, 366, 367, 368, 369, 370, 371, 372, 375, 376, 377] (by decide +kernel) (by decide +kernel)
set_option maxRecDepth 20000 in
theorem gL_acts_X4_truth : GoodIn wsL_acts (wsV RL 97 RX4 yX4_truth wsX4_truth) := goodIn_app (goodIn_of _ (by decide +kernel)) ggL_acts_X4_truth
theorem dL_acts_0 : decode cL_acts 0 = .ok (.aload_n 0, 1) := by decide +kernel
theorem dL_acts_1 : decode cL_acts 1 = .ok (.iconst 0, 1) := by decide +kernel
theorem dL_acts_2 : decode cL_acts 2 = .ok (.invokevirtual 15, 3) := by decide +kernel
theorem dL_acts_5 : decode cL_acts 5 = .ok (.istore_n 2, 1) := by decide +kernel
theorem dL_acts_6 : decode cL_acts 6 = .ok (.iload_n 2, 1) := by decide +kernel
theorem dL_acts_7 : decode cL_acts 7 = .ok (.ifCond .ne 7, 3) := by decide +kernel
theorem dL_acts_10 : decode cL_acts 10 = .ok (.iconst 0, 1) := by decide +kernel
theorem dL_acts_11 : decode cL_acts 11 = .ok (.goto 8, 3) := by decide +kernel
theorem dL_acts_14 : decode cL_acts 14 = .ok (.iload_n 1, 1) := by decide +kernel
theorem dL_acts_15 : decode cL_acts 15 = .ok (.iconst 4, 1) := by decide +kernel
theorem dL_acts_16 : decode cL_acts 16 = .ok (.ishr, 1) := by decide +kernel
theorem dL_acts_17 : decode cL_acts 17 = .ok (.iload_n 2, 1) := by decide +kernel
theorem dL_acts_18 : decode cL_acts 18 = .ok (.irem, 1) := by decide +kernel
theorem dL_acts_19 : decode cL_acts 19 = .ok (.istore_n 3, 1) := by decide +kernel
theorem dL_acts_20 : decode cL_acts 20 = .ok (.iload_n 2, 1) := by decide +kernel
theorem dL_acts_21 : decode cL_acts 21 = .ok (.ifCond .ne 7, 3) := by decide +kernel
theorem dL_acts_24 : decode cL_acts 24 = .ok (.iconst 0, 1) := by decide +kernel
theorem dL_acts_25 : decode cL_acts 25 = .ok (.goto 9, 3) := by decide +kernel
theorem dL_acts_28 : decode cL_acts 28 = .ok (.iload_n 1, 1) := by decide +kernel
theorem dL_acts_29 : decode cL_acts 29 = .ok (.bipush 8, 2) := by decide +kernel
theorem dL_acts_31 : decode cL_acts 31 = .ok (.ishr, 1) := by decide +kernel
theorem dL_acts_32 : decode cL_acts 32 = .ok (.iload_n 2, 1) := by decide +kernel
theorem dL_acts_33 : decode cL_acts 33 = .ok (.irem, 1) := by decide +kernel
theorem dL_acts_34 : decode cL_acts 34 = .ok (.istore 4, 2) := by decide +kernel
theorem dL_acts_36 : decode cL_acts 36 = .ok (.iload_n 1, 1) := by decide +kernel
theorem dL_acts_37 : decode cL_acts 37 = .ok (.bipush 12, 2) := by decide +kernel
theorem dL_acts_39 : decode cL_acts 39 = .ok (.ishr, 1) := by decide +kernel
theorem dL_acts_40 : decode cL_acts 40 = .ok (.bipush 8, 2) := by decide +kernel
theorem dL_acts_42 : decode cL_acts 42 = .ok (.irem, 1) := by decide +kernel
theorem dL_acts_43 : decode cL_acts 43 = .ok (.istore 5, 2) := by decide +kernel
theorem dL_acts_45 : decode cL_acts 45 = .ok (.aload_n 0, 1) := by decide +kernel
theorem dL_acts_46 : decode cL_acts 46 = .ok (.iload 5, 2) := by decide +kernel
theorem dL_acts_48 : decode cL_acts 48 = .ok (.iconst 0, 1) := by decide +kernel
theorem dL_acts_49 : decode cL_acts 49 = .ok (.invokevirtual 44, 3) := by decide +kernel
theorem dL_acts_52 : decode cL_acts 52 = .ok (.iconst 1, 1) := by decide +kernel
theorem dL_acts_53 : decode cL_acts 53 = .ok (.if_icmp .ne 7, 3) := by decide +kernel
theorem dL_acts_56 : decode cL_acts 56 = .ok (.iconst 1, 1) := by decide +kernel
theorem dL_acts_57 : decode cL_acts 57 = .ok (.goto 4, 3) := by decide +kernel
theorem dL_acts_60 : decode cL_acts 60 = .ok (.iconst 0, 1) := by decide +kernel
theorem dL_acts_61 : decode cL_acts 61 = .ok (.istore 6, 2) := by decide +kernel
theorem dL_acts_63 : decode cL_acts 63 = .ok (.aload_n 0, 1) := by decide +kernel
theorem dL_acts_64 : decode cL_acts 64 = .ok (.iload_n 3, 1) := by decide +kernel
theorem dL_acts_65 : decode cL_acts 65 = .ok (.iload 5, 2) := by decide +kernel
theorem dL_acts_67 : decode cL_acts 67 = .ok (.iconst 4, 1) := by decide +kernel
theorem dL_acts_68 : decode cL_acts 68 = .ok (.invokevirtual 40, 3) := by decide +kernel
theorem dL_acts_71 : decode cL_acts 71 = .ok (.ifCond .lt 7, 3) := by decide +kernel
theorem dL_acts_74 : decode cL_acts 74 = .ok (.iconst 1, 1) := by decide +kernel
theorem dL_acts_75 : decode cL_acts 75 = .ok (.goto 4, 3) := by decide +kernel
theorem dL_acts_78 : decode cL_acts 78 = .ok (.iconst 0, 1) := by decide +kernel
theorem dL_acts_79 : decode cL_acts 79 = .ok (.istore 7, 2) := by decide +kernel
theorem dL_acts_81 : decode cL_acts 81 = .ok (.aload_n 0, 1) := by decide +kernel
theorem dL_acts_82 : decode cL_acts 82 = .ok (.iload_n 3, 1) := by decide +kernel
theorem dL_acts_83 : decode cL_acts 83 = .ok (.iload 5, 2) := by decide +kernel
theorem dL_acts_85 : decode cL_acts 85 = .ok (.iconst 0, 1) := by decide +kernel
theorem dL_acts_86 : decode cL_acts 86 = .ok (.invokevirtual 40, 3) := by decide +kernel
theorem dL_acts_89 : decode cL_acts 89 = .ok (.ifCond .lt 7, 3) := by decide +kernel
theorem dL_acts_92 : decode cL_acts 92 = .ok (.iconst 1, 1) := by decide +kernel
theorem dL_acts_93 : decode cL_acts 93 = .ok (.goto 4, 3) := by decide +kernel
theorem dL_acts_96 : decode cL_acts 96 = .ok (.iconst 0, 1) := by decide +kernel
theorem dL_acts_97 : decode cL_acts 97 = .ok (.istore 8, 2) := by decide +kernel
theorem dL_acts_99 : decode cL_acts 99 = .ok (.iload_n 1, 1) := by decide +kernel
theorem dL_acts_100 : decode cL_acts 100 = .ok (.bipush 11, 2) := by decide +kernel
theorem dL_acts_102 : decode cL_acts 102 = .ok (.irem, 1) := by decide +kernel
theorem dL_acts_103 : decode cL_acts 103 = .ok (.tableswitch 846 0 9 #[53, 135, 135, 135, 220, 329, 427, 427, 611, 741], 53) := by decide +kernel
theorem dL_acts_156 : decode cL_acts 156 = .ok (.aload_n 0, 1) := by decide +kernel
theorem dL_acts_157 : decode cL_acts 157 = .ok (.invokevirtual 65, 3) := by decide +kernel
theorem dL_acts_160 : decode cL_acts 160 = .ok (.istore 9, 2) := by decide +kernel
theorem dL_acts_162 : decode cL_acts 162 = .ok (.iload_n 2, 1) := by decide +kernel
theorem dL_acts_163 : decode cL_acts 163 = .ok (.bipush 10, 2) := by decide +kernel
theorem dL_acts_165 : decode cL_acts 165 = .ok (.if_icmp .ne 18, 3) := by decide +kernel
theorem dL_acts_168 : decode cL_acts 168 = .ok (.iload 9, 2) := by decide +kernel
theorem dL_acts_170 : decode cL_acts 170 = .ok (.bipush (-4), 2) := by decide +kernel
theorem dL_acts_172 : decode cL_acts 172 = .ok (.if_icmp .ne 7, 3) := by decide +kernel
theorem dL_acts_175 : decode cL_acts 175 = .ok (.iconst 1, 1) := by decide +kernel
theorem dL_acts_176 : decode cL_acts 176 = .ok (.goto 61, 3) := by decide +kernel
theorem dL_acts_179 : decode cL_acts 179 = .ok (.iconst 0, 1) := by decide +kernel
theorem dL_acts_180 : decode cL_acts 180 = .ok (.goto 57, 3) := by decide +kernel
theorem dL_acts_183 : decode cL_acts 183 = .ok (.aload_n 0, 1) := by decide +kernel
theorem dL_acts_184 : decode cL_acts 184 = .ok (.iconst 4, 1) := by decide +kernel
theorem dL_acts_185 : decode cL_acts 185 = .ok (.invokevirtual 15, 3) := by decide +kernel
theorem dL_acts_188 : decode cL_acts 188 = .ok (.sipush 255, 3) := by decide +kernel
theorem dL_acts_191 : decode cL_acts 191 = .ok (.if_icmp .eq 18, 3) := by decide +kernel
theorem dL_acts_194 : decode cL_acts 194 = .ok (.iload 9, 2) := by decide +kernel
theorem dL_acts_196 : decode cL_acts 196 = .ok (.bipush (-5), 2) := by decide +kernel
theorem dL_acts_198 : decode cL_acts 198 = .ok (.if_icmp .ne 7, 3) := by decide +kernel
theorem dL_acts_201 : decode cL_acts 201 = .ok (.iconst 1, 1) := by decide +kernel
theorem dL_acts_202 : decode cL_acts 202 = .ok (.goto 35, 3) := by decide +kernel
theorem dL_acts_205 : decode cL_acts 205 = .ok (.iconst 0, 1) := by decide +kernel
theorem dL_acts_206 : decode cL_acts 206 = .ok (.goto 31, 3) := by decide +kernel
theorem dL_acts_209 : decode cL_acts 209 = .ok (.iload 9, 2) := by decide +kernel
theorem dL_acts_211 : decode cL_acts 211 = .ok (.iload_n 2, 1) := by decide +kernel
theorem dL_acts_212 : decode cL_acts 212 = .ok (.if_icmp .ne 24, 3) := by decide +kernel
theorem dL_acts_215 : decode cL_acts 215 = .ok (.aload_n 0, 1) := by decide +kernel
theorem dL_acts_216 : decode cL_acts 216 = .ok (.iload 9, 2) := by decide +kernel
theorem dL_acts_218 : decode cL_acts 218 = .ok (.bipush 8, 2) := by decide +kernel
theorem dL_acts_220 : decode cL_acts 220 = .ok (.invokevirtual 9, 3) := by decide +kernel
theorem dL_acts_223 : decode cL_acts 223 = .ok (.aload_n 0, 1) := by decide +kernel
theorem dL_acts_224 : decode cL_acts 224 = .ok (.bipush 9, 2) := by decide +kernel
theorem dL_acts_226 : decode cL_acts 226 = .ok (.invokevirtual 15, 3) := by decide +kernel
theorem dL_acts_229 : decode cL_acts 229 = .ok (.if_icmp .ne 7, 3) := by decide +kernel
theorem dL_acts_232 : decode cL_acts 232 = .ok (.iconst 1, 1) := by decide +kernel
theorem dL_acts_233 : decode cL_acts 233 = .ok (.goto 4, 3) := by decide +kernel
theorem dL_acts_236 : decode cL_acts 236 = .ok (.iconst 0, 1) := by decide +kernel
theorem dL_acts_237 : decode cL_acts 237 = .ok (.ireturn, 1) := by decide +kernel
theorem dL_acts_238 : decode cL_acts 238 = .ok (.aload_n 0, 1) := by decide +kernel
theorem dL_acts_239 : decode cL_acts 239 = .ok (.iload_n 1, 1) := by decide +kernel
theorem dL_acts_240 : decode cL_acts 240 = .ok (.iconst 5, 1) := by decide +kernel
theorem dL_acts_241 : decode cL_acts 241 = .ok (.ishr, 1) := by decide +kernel
theorem dL_acts_242 : decode cL_acts 242 = .ok (.iconst 0, 1) := by decide +kernel
theorem dL_acts_243 : decode cL_acts 243 = .ok (.invokestatic 68, 3) := by decide +kernel
theorem dL_acts_246 : decode cL_acts 246 = .ok (.istore 10, 2) := by decide +kernel
theorem dL_acts_248 : decode cL_acts 248 = .ok (.aload_n 0, 1) := by decide +kernel
theorem dL_acts_249 : decode cL_acts 249 = .ok (.iload_n 3, 1) := by decide +kernel
theorem dL_acts_250 : decode cL_acts 250 = .ok (.iload 5, 2) := by decide +kernel
theorem dL_acts_252 : decode cL_acts 252 = .ok (.invokevirtual 72, 3) := by decide +kernel
theorem dL_acts_255 : decode cL_acts 255 = .ok (.istore 11, 2) := by decide +kernel
theorem dL_acts_257 : decode cL_acts 257 = .ok (.iload 10, 2) := by decide +kernel
theorem dL_acts_259 : decode cL_acts 259 = .ok (.ifCond .eq 62, 3) := by decide +kernel
theorem dL_acts_262 : decode cL_acts 262 = .ok (.iload_n 2, 1) := by decide +kernel
theorem dL_acts_263 : decode cL_acts 263 = .ok (.ifCond .ne 12, 3) := by decide +kernel
theorem dL_acts_266 : decode cL_acts 266 = .ok (.iload 11, 2) := by decide +kernel
theorem dL_acts_268 : decode cL_acts 268 = .ok (.iconst (-1), 1) := by decide +kernel
theorem dL_acts_269 : decode cL_acts 269 = .ok (.if_icmp .ne 52, 3) := by decide +kernel
theorem dL_acts_272 : decode cL_acts 272 = .ok (.goto 45, 3) := by decide +kernel
theorem dL_acts_275 : decode cL_acts 275 = .ok (.iload 6, 2) := by decide +kernel
theorem dL_acts_277 : decode cL_acts 277 = .ok (.ifCond .eq 8, 3) := by decide +kernel
theorem dL_acts_280 : decode cL_acts 280 = .ok (.iload 7, 2) := by decide +kernel
theorem dL_acts_282 : decode cL_acts 282 = .ok (.ifCond .eq 13, 3) := by decide +kernel
theorem dL_acts_285 : decode cL_acts 285 = .ok (.iload 11, 2) := by decide +kernel
theorem dL_acts_287 : decode cL_acts 287 = .ok (.bipush (-5), 2) := by decide +kernel
theorem dL_acts_289 : decode cL_acts 289 = .ok (.if_icmp .ne 32, 3) := by decide +kernel
theorem dL_acts_292 : decode cL_acts 292 = .ok (.goto 25, 3) := by decide +kernel
theorem dL_acts_295 : decode cL_acts 295 = .ok (.iload 11, 2) := by decide +kernel
theorem dL_acts_297 : decode cL_acts 297 = .ok (.aload_n 0, 1) := by decide +kernel
theorem dL_acts_298 : decode cL_acts 298 = .ok (.iload_n 3, 1) := by decide +kernel
theorem dL_acts_299 : decode cL_acts 299 = .ok (.iload 5, 2) := by decide +kernel
theorem dL_acts_301 : decode cL_acts 301 = .ok (.iconst 4, 1) := by decide +kernel
theorem dL_acts_302 : decode cL_acts 302 = .ok (.invokevirtual 40, 3) := by decide +kernel
theorem dL_acts_305 : decode cL_acts 305 = .ok (.if_icmp .ne 16, 3) := by decide +kernel
theorem dL_acts_308 : decode cL_acts 308 = .ok (.aload_n 0, 1) := by decide +kernel
theorem dL_acts_309 : decode cL_acts 309 = .ok (.bipush 13, 2) := by decide +kernel
theorem dL_acts_311 : decode cL_acts 311 = .ok (.invokevirtual 15, 3) := by decide +kernel
theorem dL_acts_314 : decode cL_acts 314 = .ok (.ifCond .ne 7, 3) := by decide +kernel
theorem dL_acts_317 : decode cL_acts 317 = .ok (.iconst 1, 1) := by decide +kernel
theorem dL_acts_318 : decode cL_acts 318 = .ok (.goto 4, 3) := by decide +kernel
theorem dL_acts_321 : decode cL_acts 321 = .ok (.iconst 0, 1) := by decide +kernel
theorem dL_acts_322 : decode cL_acts 322 = .ok (.ireturn, 1) := by decide +kernel
theorem dL_acts_323 : decode cL_acts 323 = .ok (.iload_n 2, 1) := by decide +kernel
theorem dL_acts_324 : decode cL_acts 324 = .ok (.ifCond .le 26, 3) := by decide +kernel
theorem dL_acts_327 : decode cL_acts 327 = .ok (.aload_n 0, 1) := by decide +kernel
theorem dL_acts_328 : decode cL_acts 328 = .ok (.iload_n 3, 1) := by decide +kernel
theorem dL_acts_329 : decode cL_acts 329 = .ok (.iconst 3, 1) := by decide +kernel
theorem dL_acts_330 : decode cL_acts 330 = .ok (.invokevirtual 9, 3) := by decide +kernel
theorem dL_acts_333 : decode cL_acts 333 = .ok (.ifCond .ge 17, 3) := by decide +kernel
theorem dL_acts_336 : decode cL_acts 336 = .ok (.iload 6, 2) := by decide +kernel
theorem dL_acts_338 : decode cL_acts 338 = .ok (.ifCond .eq 12, 3) := by decide +kernel
theorem dL_acts_341 : decode cL_acts 341 = .ok (.iload 7, 2) := by decide +kernel
theorem dL_acts_343 : decode cL_acts 343 = .ok (.ifCond .ne 7, 3) := by decide +kernel
theorem dL_acts_346 : decode cL_acts 346 = .ok (.iconst 1, 1) := by decide +kernel
theorem dL_acts_347 : decode cL_acts 347 = .ok (.goto 4, 3) := by decide +kernel
theorem dL_acts_350 : decode cL_acts 350 = .ok (.iconst 0, 1) := by decide +kernel
theorem dL_acts_351 : decode cL_acts 351 = .ok (.istore 12, 2) := by decide +kernel
theorem dL_acts_353 : decode cL_acts 353 = .ok (.aload_n 0, 1) := by decide +kernel
theorem dL_acts_354 : decode cL_acts 354 = .ok (.iload_n 3, 1) := by decide +kernel
theorem dL_acts_355 : decode cL_acts 355 = .ok (.iload 5, 2) := by decide +kernel
theorem dL_acts_357 : decode cL_acts 357 = .ok (.invokevirtual 75, 3) := by decide +kernel
theorem dL_acts_360 : decode cL_acts 360 = .ok (.istore 13, 2) := by decide +kernel
theorem dL_acts_362 : decode cL_acts 362 = .ok (.iload_n 2, 1) := by decide +kernel
theorem dL_acts_363 : decode cL_acts 363 = .ok (.ifCond .ne 17, 3) := by decide +kernel
theorem dL_acts_366 : decode cL_acts 366 = .ok (.iload 13, 2) := by decide +kernel
theorem dL_acts_368 : decode cL_acts 368 = .ok (.iconst (-1), 1) := by decide +kernel
theorem dL_acts_369 : decode cL_acts 369 = .ok (.if_icmp .ne 7, 3) := by decide +kernel
theorem dL_acts_372 : decode cL_acts 372 = .ok (.iconst 1, 1) := by decide +kernel
theorem dL_acts_373 : decode cL_acts 373 = .ok (.goto 58, 3) := by decide +kernel
theorem dL_acts_376 : decode cL_acts 376 = .ok (.iconst 0, 1) := by decide +kernel
theorem dL_acts_377 : decode cL_acts 377 = .ok (.goto 54, 3) := by decide +kernel
theorem dL_acts_380 : decode cL_acts 380 = .ok (.iload 12, 2) := by decide +kernel
theorem dL_acts_382 : decode cL_acts 382 = .ok (.ifCond .ne 18, 3) := by decide +kernel
theorem dL_acts_385 : decode cL_acts 385 = .ok (.iload 13, 2) := by decide +kernel
theorem dL_acts_387 : decode cL_acts 387 = .ok (.bipush (-5), 2) := by decide +kernel
theorem dL_acts_389 : decode cL_acts 389 = .ok (.if_icmp .ne 7, 3) := by decide +kernel
theorem dL_acts_392 : decode cL_acts 392 = .ok (.iconst 1, 1) := by decide +kernel
theorem dL_acts_393 : decode cL_acts 393 = .ok (.goto 38, 3) := by decide +kernel
theorem dL_acts_396 : decode cL_acts 396 = .ok (.iconst 0, 1) := by decide +kernel
theorem dL_acts_397 : decode cL_acts 397 = .ok (.goto 34, 3) := by decide +kernel
theorem dL_acts_400 : decode cL_acts 400 = .ok (.iload 13, 2) := by decide +kernel
theorem dL_acts_402 : decode cL_acts 402 = .ok (.aload_n 0, 1) := by decide +kernel
theorem dL_acts_403 : decode cL_acts 403 = .ok (.iload 5, 2) := by decide +kernel
theorem dL_acts_405 : decode cL_acts 405 = .ok (.iconst 2, 1) := by decide +kernel
theorem dL_acts_406 : decode cL_acts 406 = .ok (.invokevirtual 44, 3) := by decide +kernel
theorem dL_acts_409 : decode cL_acts 409 = .ok (.invokestatic 78, 3) := by decide +kernel
theorem dL_acts_412 : decode cL_acts 412 = .ok (.if_icmp .ne 18, 3) := by decide +kernel
theorem dL_acts_415 : decode cL_acts 415 = .ok (.aload_n 0, 1) := by decide +kernel
theorem dL_acts_416 : decode cL_acts 416 = .ok (.iload_n 3, 1) := by decide +kernel
theorem dL_acts_417 : decode cL_acts 417 = .ok (.iconst 3, 1) := by decide +kernel
theorem dL_acts_418 : decode cL_acts 418 = .ok (.invokevirtual 9, 3) := by decide +kernel
theorem dL_acts_421 : decode cL_acts 421 = .ok (.iload 5, 2) := by decide +kernel
theorem dL_acts_423 : decode cL_acts 423 = .ok (.if_icmp .ne 7, 3) := by decide +kernel
theorem dL_acts_426 : decode cL_acts 426 = .ok (.iconst 1, 1) := by decide +kernel
theorem dL_acts_427 : decode cL_acts 427 = .ok (.goto 4, 3) := by decide +kernel
theorem dL_acts_430 : decode cL_acts 430 = .ok (.iconst 0, 1) := by decide +kernel
theorem dL_acts_431 : decode cL_acts 431 = .ok (.ireturn, 1) := by decide +kernel
theorem dL_acts_432 : decode cL_acts 432 = .ok (.iload_n 1, 1) := by decide +kernel
theorem dL_acts_433 : decode cL_acts 433 = .ok (.bipush 8, 2) := by decide +kernel
theorem dL_acts_435 : decode cL_acts 435 = .ok (.ishr, 1) := by decide +kernel
theorem dL_acts_436 : decode cL_acts 436 = .ok (.iconst 3, 1) := by decide +kernel
theorem dL_acts_437 : decode cL_acts 437 = .ok (.irem, 1) := by decide +kernel
theorem dL_acts_438 : decode cL_acts 438 = .ok (.ifCond .gt 15, 3) := by decide +kernel
theorem dL_acts_441 : decode cL_acts 441 = .ok (.aload_n 0, 1) := by decide +kernel
theorem dL_acts_442 : decode cL_acts 442 = .ok (.iload_n 1, 1) := by decide +kernel
theorem dL_acts_443 : decode cL_acts 443 = .ok (.bipush 7, 2) := by decide +kernel
theorem dL_acts_445 : decode cL_acts 445 = .ok (.ishr, 1) := by decide +kernel
theorem dL_acts_446 : decode cL_acts 446 = .ok (.iconst 1, 1) := by decide +kernel
theorem dL_acts_447 : decode cL_acts 447 = .ok (.invokestatic 68, 3) := by decide +kernel
theorem dL_acts_450 : decode cL_acts 450 = .ok (.ifCond .eq 7, 3) := by decide +kernel
theorem dL_acts_453 : decode cL_acts 453 = .ok (.iconst 1, 1) := by decide +kernel
theorem dL_acts_454 : decode cL_acts 454 = .ok (.goto 4, 3) := by decide +kernel
theorem dL_acts_457 : decode cL_acts 457 = .ok (.iconst 0, 1) := by decide +kernel
theorem dL_acts_458 : decode cL_acts 458 = .ok (.istore 14, 2) := by decide +kernel
theorem dL_acts_460 : decode cL_acts 460 = .ok (.aload_n 0, 1) := by decide +kernel
theorem dL_acts_461 : decode cL_acts 461 = .ok (.iload 5, 2) := by decide +kernel
theorem dL_acts_463 : decode cL_acts 463 = .ok (.iconst 1, 1) := by decide +kernel
theorem dL_acts_464 : decode cL_acts 464 = .ok (.invokevirtual 44, 3) := by decide +kernel
theorem dL_acts_467 : decode cL_acts 467 = .ok (.invokestatic 78, 3) := by decide +kernel
theorem dL_acts_470 : decode cL_acts 470 = .ok (.istore 15, 2) := by decide +kernel
theorem dL_acts_472 : decode cL_acts 472 = .ok (.iload_n 1, 1) := by decide +kernel
theorem dL_acts_473 : decode cL_acts 473 = .ok (.bipush 8, 2) := by decide +kernel
theorem dL_acts_475 : decode cL_acts 475 = .ok (.ishr, 1) := by decide +kernel
theorem dL_acts_476 : decode cL_acts 476 = .ok (.iconst 3, 1) := by decide +kernel
theorem dL_acts_477 : decode cL_acts 477 = .ok (.irem, 1) := by decide +kernel
theorem dL_acts_478 : decode cL_acts 478 = .ok (.ifCond .le 7, 3) := by decide +kernel
theorem dL_acts_481 : decode cL_acts 481 = .ok (.iconst 0, 1) := by decide +kernel
theorem dL_acts_482 : decode cL_acts 482 = .ok (.goto 9, 3) := by decide +kernel
theorem dL_acts_485 : decode cL_acts 485 = .ok (.aload_n 0, 1) := by decide +kernel
theorem dL_acts_486 : decode cL_acts 486 = .ok (.iload 5, 2) := by decide +kernel
theorem dL_acts_488 : decode cL_acts 488 = .ok (.invokevirtual 81, 3) := by decide +kernel
theorem dL_acts_491 : decode cL_acts 491 = .ok (.istore 16, 2) := by decide +kernel
theorem dL_acts_493 : decode cL_acts 493 = .ok (.iload 14, 2) := by decide +kernel
theorem dL_acts_495 : decode cL_acts 495 = .ok (.ifCond .eq 33, 3) := by decide +kernel
theorem dL_acts_498 : decode cL_acts 498 = .ok (.iload_n 1, 1) := by decide +kernel
theorem dL_acts_499 : decode cL_acts 499 = .ok (.bipush 8, 2) := by decide +kernel
theorem dL_acts_501 : decode cL_acts 501 = .ok (.ishr, 1) := by decide +kernel
theorem dL_acts_502 : decode cL_acts 502 = .ok (.iconst 3, 1) := by decide +kernel
theorem dL_acts_503 : decode cL_acts 503 = .ok (.irem, 1) := by decide +kernel
theorem dL_acts_504 : decode cL_acts 504 = .ok (.ifCond .gt 20, 3) := by decide +kernel
theorem dL_acts_507 : decode cL_acts 507 = .ok (.iload 16, 2) := by decide +kernel
theorem dL_acts_509 : decode cL_acts 509 = .ok (.iload 6, 2) := by decide +kernel
theorem dL_acts_511 : decode cL_acts 511 = .ok (.ifCond .eq 8, 3) := by decide +kernel
theorem dL_acts_514 : decode cL_acts 514 = .ok (.iload 15, 2) := by decide +kernel
theorem dL_acts_516 : decode cL_acts 516 = .ok (.goto 5, 3) := by decide +kernel
theorem dL_acts_519 : decode cL_acts 519 = .ok (.bipush (-5), 2) := by decide +kernel
theorem dL_acts_521 : decode cL_acts 521 = .ok (.if_icmp .ne 7, 3) := by decide +kernel
theorem dL_acts_524 : decode cL_acts 524 = .ok (.iconst 1, 1) := by decide +kernel
theorem dL_acts_525 : decode cL_acts 525 = .ok (.goto 4, 3) := by decide +kernel
theorem dL_acts_528 : decode cL_acts 528 = .ok (.iconst 0, 1) := by decide +kernel
theorem dL_acts_529 : decode cL_acts 529 = .ok (.ireturn, 1) := by decide +kernel
theorem dL_acts_530 : decode cL_acts 530 = .ok (.iload_n 1, 1) := by decide +kernel
theorem dL_acts_531 : decode cL_acts 531 = .ok (.bipush 15, 2) := by decide +kernel
theorem dL_acts_533 : decode cL_acts 533 = .ok (.ishr, 1) := by decide +kernel
theorem dL_acts_534 : decode cL_acts 534 = .ok (.iconst 2, 1) := by decide +kernel
theorem dL_acts_535 : decode cL_acts 535 = .ok (.irem, 1) := by decide +kernel
theorem dL_acts_536 : decode cL_acts 536 = .ok (.ifCond .ne 43, 3) := by decide +kernel
theorem dL_acts_539 : decode cL_acts 539 = .ok (.aload_n 0, 1) := by decide +kernel
theorem dL_acts_540 : decode cL_acts 540 = .ok (.iload_n 3, 1) := by decide +kernel
theorem dL_acts_541 : decode cL_acts 541 = .ok (.iload 5, 2) := by decide +kernel
theorem dL_acts_543 : decode cL_acts 543 = .ok (.iconst 3, 1) := by decide +kernel
theorem dL_acts_544 : decode cL_acts 544 = .ok (.invokevirtual 40, 3) := by decide +kernel
theorem dL_acts_547 : decode cL_acts 547 = .ok (.bipush 80, 2) := by decide +kernel
theorem dL_acts_549 : decode cL_acts 549 = .ok (.if_icmp .lt 30, 3) := by decide +kernel
theorem dL_acts_552 : decode cL_acts 552 = .ok (.aload_n 0, 1) := by decide +kernel
theorem dL_acts_553 : decode cL_acts 553 = .ok (.iload_n 3, 1) := by decide +kernel
theorem dL_acts_554 : decode cL_acts 554 = .ok (.iload 5, 2) := by decide +kernel
theorem dL_acts_556 : decode cL_acts 556 = .ok (.iconst 3, 1) := by decide +kernel
theorem dL_acts_557 : decode cL_acts 557 = .ok (.invokevirtual 40, 3) := by decide +kernel
theorem dL_acts_560 : decode cL_acts 560 = .ok (.bipush 111, 2) := by decide +kernel
theorem dL_acts_562 : decode cL_acts 562 = .ok (.if_icmp .ge 17, 3) := by decide +kernel
theorem dL_acts_565 : decode cL_acts 565 = .ok (.aload_n 0, 1) := by decide +kernel
theorem dL_acts_566 : decode cL_acts 566 = .ok (.iload_n 3, 1) := by decide +kernel
theorem dL_acts_567 : decode cL_acts 567 = .ok (.iload 5, 2) := by decide +kernel
theorem dL_acts_569 : decode cL_acts 569 = .ok (.iconst 3, 1) := by decide +kernel
theorem dL_acts_570 : decode cL_acts 570 = .ok (.invokevirtual 40, 3) := by decide +kernel
theorem dL_acts_573 : decode cL_acts 573 = .ok (.bipush 100, 2) := by decide +kernel
theorem dL_acts_575 : decode cL_acts 575 = .ok (.isub, 1) := by decide +kernel
theorem dL_acts_576 : decode cL_acts 576 = .ok (.goto 13, 3) := by decide +kernel
theorem dL_acts_579 : decode cL_acts 579 = .ok (.iload_n 1, 1) := by decide +kernel
theorem dL_acts_580 : decode cL_acts 580 = .ok (.bipush 16, 2) := by decide +kernel
theorem dL_acts_582 : decode cL_acts 582 = .ok (.ishr, 1) := by decide +kernel
theorem dL_acts_583 : decode cL_acts 583 = .ok (.bipush 31, 2) := by decide +kernel
theorem dL_acts_585 : decode cL_acts 585 = .ok (.irem, 1) := by decide +kernel
theorem dL_acts_586 : decode cL_acts 586 = .ok (.bipush 20, 2) := by decide +kernel
theorem dL_acts_588 : decode cL_acts 588 = .ok (.isub, 1) := by decide +kernel
theorem dL_acts_589 : decode cL_acts 589 = .ok (.istore 17, 2) := by decide +kernel
theorem dL_acts_591 : decode cL_acts 591 = .ok (.aload_n 0, 1) := by decide +kernel
theorem dL_acts_592 : decode cL_acts 592 = .ok (.iload 4, 2) := by decide +kernel
theorem dL_acts_594 : decode cL_acts 594 = .ok (.iload_n 3, 1) := by decide +kernel
theorem dL_acts_595 : decode cL_acts 595 = .ok (.iload 5, 2) := by decide +kernel
theorem dL_acts_597 : decode cL_acts 597 = .ok (.iload 17, 2) := by decide +kernel
theorem dL_acts_599 : decode cL_acts 599 = .ok (.invokevirtual 84, 3) := by decide +kernel
theorem dL_acts_602 : decode cL_acts 602 = .ok (.istore 18, 2) := by decide +kernel
theorem dL_acts_604 : decode cL_acts 604 = .ok (.iload_n 2, 1) := by decide +kernel
theorem dL_acts_605 : decode cL_acts 605 = .ok (.ifCond .ne 17, 3) := by decide +kernel
theorem dL_acts_608 : decode cL_acts 608 = .ok (.iload 18, 2) := by decide +kernel
theorem dL_acts_610 : decode cL_acts 610 = .ok (.iconst (-1), 1) := by decide +kernel
theorem dL_acts_611 : decode cL_acts 611 = .ok (.if_icmp .ne 7, 3) := by decide +kernel
theorem dL_acts_614 : decode cL_acts 614 = .ok (.iconst 1, 1) := by decide +kernel
theorem dL_acts_615 : decode cL_acts 615 = .ok (.goto 98, 3) := by decide +kernel
theorem dL_acts_618 : decode cL_acts 618 = .ok (.iconst 0, 1) := by decide +kernel
theorem dL_acts_619 : decode cL_acts 619 = .ok (.goto 94, 3) := by decide +kernel
theorem dL_acts_622 : decode cL_acts 622 = .ok (.iload 4, 2) := by decide +kernel
theorem dL_acts_624 : decode cL_acts 624 = .ok (.iload_n 3, 1) := by decide +kernel
theorem dL_acts_625 : decode cL_acts 625 = .ok (.if_icmp .ne 18, 3) := by decide +kernel
theorem dL_acts_628 : decode cL_acts 628 = .ok (.iload 18, 2) := by decide +kernel
theorem dL_acts_630 : decode cL_acts 630 = .ok (.bipush (-2), 2) := by decide +kernel
theorem dL_acts_632 : decode cL_acts 632 = .ok (.if_icmp .ne 7, 3) := by decide +kernel
theorem dL_acts_635 : decode cL_acts 635 = .ok (.iconst 1, 1) := by decide +kernel
theorem dL_acts_636 : decode cL_acts 636 = .ok (.goto 77, 3) := by decide +kernel
theorem dL_acts_639 : decode cL_acts 639 = .ok (.iconst 0, 1) := by decide +kernel
theorem dL_acts_640 : decode cL_acts 640 = .ok (.goto 73, 3) := by decide +kernel
theorem dL_acts_643 : decode cL_acts 643 = .ok (.iload 6, 2) := by decide +kernel
theorem dL_acts_645 : decode cL_acts 645 = .ok (.ifCond .ne 13, 3) := by decide +kernel
theorem dL_acts_648 : decode cL_acts 648 = .ok (.iload 7, 2) := by decide +kernel
theorem dL_acts_650 : decode cL_acts 650 = .ok (.ifCond .eq 8, 3) := by decide +kernel
theorem dL_acts_653 : decode cL_acts 653 = .ok (.iload 8, 2) := by decide +kernel
theorem dL_acts_655 : decode cL_acts 655 = .ok (.ifCond .eq 18, 3) := by decide +kernel
theorem dL_acts_658 : decode cL_acts 658 = .ok (.iload 18, 2) := by decide +kernel
theorem dL_acts_660 : decode cL_acts 660 = .ok (.bipush (-5), 2) := by decide +kernel
theorem dL_acts_662 : decode cL_acts 662 = .ok (.if_icmp .ne 7, 3) := by decide +kernel
theorem dL_acts_665 : decode cL_acts 665 = .ok (.iconst 1, 1) := by decide +kernel
theorem dL_acts_666 : decode cL_acts 666 = .ok (.goto 47, 3) := by decide +kernel
theorem dL_acts_669 : decode cL_acts 669 = .ok (.iconst 0, 1) := by decide +kernel
theorem dL_acts_670 : decode cL_acts 670 = .ok (.goto 43, 3) := by decide +kernel
theorem dL_acts_673 : decode cL_acts 673 = .ok (.iload 18, 2) := by decide +kernel
theorem dL_acts_675 : decode cL_acts 675 = .ok (.iconst 1, 1) := by decide +kernel
theorem dL_acts_676 : decode cL_acts 676 = .ok (.if_icmp .ne 36, 3) := by decide +kernel
theorem dL_acts_679 : decode cL_acts 679 = .ok (.aload_n 0, 1) := by decide +kernel
theorem dL_acts_680 : decode cL_acts 680 = .ok (.iload_n 3, 1) := by decide +kernel
theorem dL_acts_681 : decode cL_acts 681 = .ok (.iload 5, 2) := by decide +kernel
theorem dL_acts_683 : decode cL_acts 683 = .ok (.iconst 0, 1) := by decide +kernel
theorem dL_acts_684 : decode cL_acts 684 = .ok (.invokevirtual 40, 3) := by decide +kernel
theorem dL_acts_687 : decode cL_acts 687 = .ok (.iload 17, 2) := by decide +kernel
theorem dL_acts_689 : decode cL_acts 689 = .ok (.bipush 100, 2) := by decide +kernel
theorem dL_acts_691 : decode cL_acts 691 = .ok (.iadd, 1) := by decide +kernel
theorem dL_acts_692 : decode cL_acts 692 = .ok (.if_icmp .ne 20, 3) := by decide +kernel
theorem dL_acts_695 : decode cL_acts 695 = .ok (.aload_n 0, 1) := by decide +kernel
theorem dL_acts_696 : decode cL_acts 696 = .ok (.iload_n 3, 1) := by decide +kernel
theorem dL_acts_697 : decode cL_acts 697 = .ok (.iload 5, 2) := by decide +kernel
theorem dL_acts_699 : decode cL_acts 699 = .ok (.iconst 1, 1) := by decide +kernel
theorem dL_acts_700 : decode cL_acts 700 = .ok (.invokevirtual 40, 3) := by decide +kernel
theorem dL_acts_703 : decode cL_acts 703 = .ok (.iload 4, 2) := by decide +kernel
theorem dL_acts_705 : decode cL_acts 705 = .ok (.if_icmp .ne 7, 3) := by decide +kernel
theorem dL_acts_708 : decode cL_acts 708 = .ok (.iconst 1, 1) := by decide +kernel
theorem dL_acts_709 : decode cL_acts 709 = .ok (.goto 4, 3) := by decide +kernel
theorem dL_acts_712 : decode cL_acts 712 = .ok (.iconst 0, 1) := by decide +kernel
theorem dL_acts_713 : decode cL_acts 713 = .ok (.ireturn, 1) := by decide +kernel
theorem dL_acts_714 : decode cL_acts 714 = .ok (.aload_n 0, 1) := by decide +kernel
theorem dL_acts_715 : decode cL_acts 715 = .ok (.iload_n 3, 1) := by decide +kernel
theorem dL_acts_716 : decode cL_acts 716 = .ok (.iload 5, 2) := by decide +kernel
theorem dL_acts_718 : decode cL_acts 718 = .ok (.iconst 3, 1) := by decide +kernel
theorem dL_acts_719 : decode cL_acts 719 = .ok (.invokevirtual 40, 3) := by decide +kernel
theorem dL_acts_722 : decode cL_acts 722 = .ok (.istore 19, 2) := by decide +kernel
theorem dL_acts_724 : decode cL_acts 724 = .ok (.aload_n 0, 1) := by decide +kernel
theorem dL_acts_725 : decode cL_acts 725 = .ok (.iload_n 3, 1) := by decide +kernel
theorem dL_acts_726 : decode cL_acts 726 = .ok (.iload 5, 2) := by decide +kernel
theorem dL_acts_728 : decode cL_acts 728 = .ok (.iconst 0, 1) := by decide +kernel
theorem dL_acts_729 : decode cL_acts 729 = .ok (.invokevirtual 40, 3) := by decide +kernel
theorem dL_acts_732 : decode cL_acts 732 = .ok (.istore 20, 2) := by decide +kernel
theorem dL_acts_734 : decode cL_acts 734 = .ok (.aload_n 0, 1) := by decide +kernel
theorem dL_acts_735 : decode cL_acts 735 = .ok (.iload 5, 2) := by decide +kernel
theorem dL_acts_737 : decode cL_acts 737 = .ok (.iconst 4, 1) := by decide +kernel
theorem dL_acts_738 : decode cL_acts 738 = .ok (.invokevirtual 44, 3) := by decide +kernel
theorem dL_acts_741 : decode cL_acts 741 = .ok (.iload_n 3, 1) := by decide +kernel
theorem dL_acts_742 : decode cL_acts 742 = .ok (.ishr, 1) := by decide +kernel
theorem dL_acts_743 : decode cL_acts 743 = .ok (.iconst 1, 1) := by decide +kernel
theorem dL_acts_744 : decode cL_acts 744 = .ok (.iand, 1) := by decide +kernel
theorem dL_acts_745 : decode cL_acts 745 = .ok (.iconst 1, 1) := by decide +kernel
theorem dL_acts_746 : decode cL_acts 746 = .ok (.if_icmp .ne 7, 3) := by decide +kernel
theorem dL_acts_749 : decode cL_acts 749 = .ok (.iconst 1, 1) := by decide +kernel
theorem dL_acts_750 : decode cL_acts 750 = .ok (.goto 4, 3) := by decide +kernel
theorem dL_acts_753 : decode cL_acts 753 = .ok (.iconst 0, 1) := by decide +kernel
theorem dL_acts_754 : decode cL_acts 754 = .ok (.istore 21, 2) := by decide +kernel
theorem dL_acts_756 : decode cL_acts 756 = .ok (.aload_n 0, 1) := by decide +kernel
theorem dL_acts_757 : decode cL_acts 757 = .ok (.iload_n 3, 1) := by decide +kernel
theorem dL_acts_758 : decode cL_acts 758 = .ok (.iload 5, 2) := by decide +kernel
theorem dL_acts_760 : decode cL_acts 760 = .ok (.invokevirtual 88, 3) := by decide +kernel
theorem dL_acts_763 : decode cL_acts 763 = .ok (.istore 22, 2) := by decide +kernel
theorem dL_acts_765 : decode cL_acts 765 = .ok (.iload_n 2, 1) := by decide +kernel
theorem dL_acts_766 : decode cL_acts 766 = .ok (.ifCond .ne 17, 3) := by decide +kernel
theorem dL_acts_769 : decode cL_acts 769 = .ok (.iload 22, 2) := by decide +kernel
theorem dL_acts_771 : decode cL_acts 771 = .ok (.iconst (-1), 1) := by decide +kernel
theorem dL_acts_772 : decode cL_acts 772 = .ok (.if_icmp .ne 7, 3) := by decide +kernel
theorem dL_acts_775 : decode cL_acts 775 = .ok (.iconst 1, 1) := by decide +kernel
theorem dL_acts_776 : decode cL_acts 776 = .ok (.goto 67, 3) := by decide +kernel
theorem dL_acts_779 : decode cL_acts 779 = .ok (.iconst 0, 1) := by decide +kernel
theorem dL_acts_780 : decode cL_acts 780 = .ok (.goto 63, 3) := by decide +kernel
theorem dL_acts_783 : decode cL_acts 783 = .ok (.iload 8, 2) := by decide +kernel
theorem dL_acts_785 : decode cL_acts 785 = .ok (.ifCond .eq 8, 3) := by decide +kernel
theorem dL_acts_788 : decode cL_acts 788 = .ok (.iload 21, 2) := by decide +kernel
theorem dL_acts_790 : decode cL_acts 790 = .ok (.ifCond .eq 18, 3) := by decide +kernel
theorem dL_acts_793 : decode cL_acts 793 = .ok (.iload 22, 2) := by decide +kernel
theorem dL_acts_795 : decode cL_acts 795 = .ok (.bipush (-5), 2) := by decide +kernel
theorem dL_acts_797 : decode cL_acts 797 = .ok (.if_icmp .ne 7, 3) := by decide +kernel
theorem dL_acts_800 : decode cL_acts 800 = .ok (.iconst 1, 1) := by decide +kernel
theorem dL_acts_801 : decode cL_acts 801 = .ok (.goto 42, 3) := by decide +kernel
theorem dL_acts_804 : decode cL_acts 804 = .ok (.iconst 0, 1) := by decide +kernel
theorem dL_acts_805 : decode cL_acts 805 = .ok (.goto 38, 3) := by decide +kernel
theorem dL_acts_808 : decode cL_acts 808 = .ok (.iload 22, 2) := by decide +kernel
theorem dL_acts_810 : decode cL_acts 810 = .ok (.iload 20, 2) := by decide +kernel
theorem dL_acts_812 : decode cL_acts 812 = .ok (.iload 19, 2) := by decide +kernel
theorem dL_acts_814 : decode cL_acts 814 = .ok (.if_icmp .ne 7, 3) := by decide +kernel
theorem dL_acts_817 : decode cL_acts 817 = .ok (.iconst 0, 1) := by decide +kernel
theorem dL_acts_818 : decode cL_acts 818 = .ok (.goto 4, 3) := by decide +kernel
theorem dL_acts_821 : decode cL_acts 821 = .ok (.iconst 1, 1) := by decide +kernel
theorem dL_acts_822 : decode cL_acts 822 = .ok (.if_icmp .ne 20, 3) := by decide +kernel
theorem dL_acts_825 : decode cL_acts 825 = .ok (.aload_n 0, 1) := by decide +kernel
theorem dL_acts_826 : decode cL_acts 826 = .ok (.iload_n 3, 1) := by decide +kernel
theorem dL_acts_827 : decode cL_acts 827 = .ok (.iload 5, 2) := by decide +kernel
theorem dL_acts_829 : decode cL_acts 829 = .ok (.iconst 0, 1) := by decide +kernel
theorem dL_acts_830 : decode cL_acts 830 = .ok (.invokevirtual 40, 3) := by decide +kernel
theorem dL_acts_833 : decode cL_acts 833 = .ok (.iload 19, 2) := by decide +kernel
theorem dL_acts_835 : decode cL_acts 835 = .ok (.if_icmp .ne 7, 3) := by decide +kernel
theorem dL_acts_838 : decode cL_acts 838 = .ok (.iconst 1, 1) := by decide +kernel
theorem dL_acts_839 : decode cL_acts 839 = .ok (.goto 4, 3) := by decide +kernel
theorem dL_acts_842 : decode cL_acts 842 = .ok (.iconst 0, 1) := by decide +kernel
theorem dL_acts_843 : decode cL_acts 843 = .ok (.ireturn, 1) := by decide +kernel
theorem dL_acts_844 : decode cL_acts 844 = .ok (.iload_n 1, 1) := by decide +kernel
theorem dL_acts_845 : decode cL_acts 845 = .ok (.bipush 8, 2) := by decide +kernel
theorem dL_acts_847 : decode cL_acts 847 = .ok (.ishr, 1) := by decide +kernel
theorem dL_acts_848 : decode cL_acts 848 = .ok (.sipush 10000, 3) := by decide +kernel
theorem dL_acts_851 : decode cL_acts 851 = .ok (.irem, 1) := by decide +kernel
theorem dL_acts_852 : decode cL_acts 852 = .ok (.istore 23, 2) := by decide +kernel
theorem dL_acts_854 : decode cL_acts 854 = .ok (.aload_n 0, 1) := by decide +kernel
theorem dL_acts_855 : decode cL_acts 855 = .ok (.iload_n 3, 1) := by decide +kernel
theorem dL_acts_856 : decode cL_acts 856 = .ok (.iconst 5, 1) := by decide +kernel
theorem dL_acts_857 : decode cL_acts 857 = .ok (.invokevirtual 9, 3) := by decide +kernel
theorem dL_acts_860 : decode cL_acts 860 = .ok (.istore 24, 2) := by decide +kernel
theorem dL_acts_862 : decode cL_acts 862 = .ok (.aload_n 0, 1) := by decide +kernel
theorem dL_acts_863 : decode cL_acts 863 = .ok (.bipush 7, 2) := by decide +kernel
theorem dL_acts_865 : decode cL_acts 865 = .ok (.invokevirtual 15, 3) := by decide +kernel
theorem dL_acts_868 : decode cL_acts 868 = .ok (.ifCond .lt 7, 3) := by decide +kernel
theorem dL_acts_871 : decode cL_acts 871 = .ok (.iconst 1, 1) := by decide +kernel
theorem dL_acts_872 : decode cL_acts 872 = .ok (.goto 4, 3) := by decide +kernel
theorem dL_acts_875 : decode cL_acts 875 = .ok (.iconst 0, 1) := by decide +kernel
theorem dL_acts_876 : decode cL_acts 876 = .ok (.istore 25, 2) := by decide +kernel
theorem dL_acts_878 : decode cL_acts 878 = .ok (.aload_n 0, 1) := by decide +kernel
theorem dL_acts_879 : decode cL_acts 879 = .ok (.iload_n 3, 1) := by decide +kernel
theorem dL_acts_880 : decode cL_acts 880 = .ok (.iload 23, 2) := by decide +kernel
theorem dL_acts_882 : decode cL_acts 882 = .ok (.invokevirtual 91, 3) := by decide +kernel
theorem dL_acts_885 : decode cL_acts 885 = .ok (.istore 26, 2) := by decide +kernel
theorem dL_acts_887 : decode cL_acts 887 = .ok (.iload_n 2, 1) := by decide +kernel
theorem dL_acts_888 : decode cL_acts 888 = .ok (.ifCond .ne 17, 3) := by decide +kernel
theorem dL_acts_891 : decode cL_acts 891 = .ok (.iload 26, 2) := by decide +kernel
theorem dL_acts_893 : decode cL_acts 893 = .ok (.iconst (-1), 1) := by decide +kernel
theorem dL_acts_894 : decode cL_acts 894 = .ok (.if_icmp .ne 7, 3) := by decide +kernel
theorem dL_acts_897 : decode cL_acts 897 = .ok (.iconst 1, 1) := by decide +kernel
theorem dL_acts_898 : decode cL_acts 898 = .ok (.goto 50, 3) := by decide +kernel
theorem dL_acts_901 : decode cL_acts 901 = .ok (.iconst 0, 1) := by decide +kernel
theorem dL_acts_902 : decode cL_acts 902 = .ok (.goto 46, 3) := by decide +kernel
theorem dL_acts_905 : decode cL_acts 905 = .ok (.iload 25, 2) := by decide +kernel
theorem dL_acts_907 : decode cL_acts 907 = .ok (.ifCond .eq 18, 3) := by decide +kernel
theorem dL_acts_910 : decode cL_acts 910 = .ok (.iload 26, 2) := by decide +kernel
theorem dL_acts_912 : decode cL_acts 912 = .ok (.bipush (-5), 2) := by decide +kernel
theorem dL_acts_914 : decode cL_acts 914 = .ok (.if_icmp .ne 7, 3) := by decide +kernel
theorem dL_acts_917 : decode cL_acts 917 = .ok (.iconst 1, 1) := by decide +kernel
theorem dL_acts_918 : decode cL_acts 918 = .ok (.goto 30, 3) := by decide +kernel
theorem dL_acts_921 : decode cL_acts 921 = .ok (.iconst 0, 1) := by decide +kernel
theorem dL_acts_922 : decode cL_acts 922 = .ok (.goto 26, 3) := by decide +kernel
theorem dL_acts_925 : decode cL_acts 925 = .ok (.iload 26, 2) := by decide +kernel
theorem dL_acts_927 : decode cL_acts 927 = .ok (.iload 24, 2) := by decide +kernel
theorem dL_acts_929 : decode cL_acts 929 = .ok (.if_icmp .ne 18, 3) := by decide +kernel
theorem dL_acts_932 : decode cL_acts 932 = .ok (.aload_n 0, 1) := by decide +kernel
theorem dL_acts_933 : decode cL_acts 933 = .ok (.iload_n 3, 1) := by decide +kernel
theorem dL_acts_934 : decode cL_acts 934 = .ok (.iconst 5, 1) := by decide +kernel
theorem dL_acts_935 : decode cL_acts 935 = .ok (.invokevirtual 9, 3) := by decide +kernel
theorem dL_acts_938 : decode cL_acts 938 = .ok (.iload 23, 2) := by decide +kernel
theorem dL_acts_940 : decode cL_acts 940 = .ok (.if_icmp .ne 7, 3) := by decide +kernel
theorem dL_acts_943 : decode cL_acts 943 = .ok (.iconst 1, 1) := by decide +kernel
theorem dL_acts_944 : decode cL_acts 944 = .ok (.goto 4, 3) := by decide +kernel
theorem dL_acts_947 : decode cL_acts 947 = .ok (.iconst 0, 1) := by decide +kernel
theorem dL_acts_948 : decode cL_acts 948 = .ok (.ireturn, 1) := by decide +kernel
theorem dL_acts_949 : decode cL_acts 949 = .ok (.iload_n 1, 1) := by decide +kernel
theorem dL_acts_950 : decode cL_acts 950 = .ok (.iconst 4, 1) := by decide +kernel
theorem dL_acts_951 : decode cL_acts 951 = .ok (.ishr, 1) := by decide +kernel
theorem dL_acts_952 : decode cL_acts 952 = .ok (.iconst 4, 1) := by decide +kernel
theorem dL_acts_953 : decode cL_acts 953 = .ok (.irem, 1) := by decide +kernel
theorem dL_acts_954 : decode cL_acts 954 = .ok (.istore 27, 2) := by decide +kernel
theorem dL_acts_956 : decode cL_acts 956 = .ok (.iload 27, 2) := by decide +kernel
theorem dL_acts_958 : decode cL_acts 958 = .ok (.ifCond .ne 15, 3) := by decide +kernel
theorem dL_acts_961 : decode cL_acts 961 = .ok (.iconst 1, 1) := by decide +kernel
theorem dL_acts_962 : decode cL_acts 962 = .ok (.iload_n 1, 1) := by decide +kernel
theorem dL_acts_963 : decode cL_acts 963 = .ok (.bipush 8, 2) := by decide +kernel
theorem dL_acts_965 : decode cL_acts 965 = .ok (.ishr, 1) := by decide +kernel
theorem dL_acts_966 : decode cL_acts 966 = .ok (.bipush 100, 2) := by decide +kernel
theorem dL_acts_968 : decode cL_acts 968 = .ok (.irem, 1) := by decide +kernel
theorem dL_acts_969 : decode cL_acts 969 = .ok (.iadd, 1) := by decide +kernel
theorem dL_acts_970 : decode cL_acts 970 = .ok (.goto 41, 3) := by decide +kernel
theorem dL_acts_973 : decode cL_acts 973 = .ok (.iload 27, 2) := by decide +kernel
theorem dL_acts_975 : decode cL_acts 975 = .ok (.iconst 1, 1) := by decide +kernel
theorem dL_acts_976 : decode cL_acts 976 = .ok (.if_icmp .ne 13, 3) := by decide +kernel
theorem dL_acts_979 : decode cL_acts 979 = .ok (.iload_n 1, 1) := by decide +kernel
theorem dL_acts_980 : decode cL_acts 980 = .ok (.bipush 8, 2) := by decide +kernel
theorem dL_acts_982 : decode cL_acts 982 = .ok (.ishr, 1) := by decide +kernel
theorem dL_acts_983 : decode cL_acts 983 = .ok (.bipush 51, 2) := by decide +kernel
theorem dL_acts_985 : decode cL_acts 985 = .ok (.irem, 1) := by decide +kernel
theorem dL_acts_986 : decode cL_acts 986 = .ok (.goto 25, 3) := by decide +kernel
theorem dL_acts_989 : decode cL_acts 989 = .ok (.iload 27, 2) := by decide +kernel
theorem dL_acts_991 : decode cL_acts 991 = .ok (.iconst 2, 1) := by decide +kernel
theorem dL_acts_992 : decode cL_acts 992 = .ok (.if_icmp .ne 12, 3) := by decide +kernel
theorem dL_acts_995 : decode cL_acts 995 = .ok (.iload_n 1, 1) := by decide +kernel
theorem dL_acts_996 : decode cL_acts 996 = .ok (.bipush 8, 2) := by decide +kernel
theorem dL_acts_998 : decode cL_acts 998 = .ok (.ishr, 1) := by decide +kernel
theorem dL_acts_999 : decode cL_acts 999 = .ok (.iconst 3, 1) := by decide +kernel
theorem dL_acts_1000 : decode cL_acts 1000 = .ok (.irem, 1) := by decide +kernel
theorem dL_acts_1001 : decode cL_acts 1001 = .ok (.goto 10, 3) := by decide +kernel
theorem dL_acts_1004 : decode cL_acts 1004 = .ok (.iload_n 1, 1) := by decide +kernel
theorem dL_acts_1005 : decode cL_acts 1005 = .ok (.bipush 8, 2) := by decide +kernel
theorem dL_acts_1007 : decode cL_acts 1007 = .ok (.ishr, 1) := by decide +kernel
theorem dL_acts_1008 : decode cL_acts 1008 = .ok (.bipush 10, 2) := by decide +kernel
theorem dL_acts_1010 : decode cL_acts 1010 = .ok (.irem, 1) := by decide +kernel
theorem dL_acts_1011 : decode cL_acts 1011 = .ok (.istore 28, 2) := by decide +kernel
theorem dL_acts_1013 : decode cL_acts 1013 = .ok (.aload_n 0, 1) := by decide +kernel
theorem dL_acts_1014 : decode cL_acts 1014 = .ok (.bipush 9, 2) := by decide +kernel
theorem dL_acts_1016 : decode cL_acts 1016 = .ok (.iload 27, 2) := by decide +kernel
theorem dL_acts_1018 : decode cL_acts 1018 = .ok (.iadd, 1) := by decide +kernel
theorem dL_acts_1019 : decode cL_acts 1019 = .ok (.invokevirtual 15, 3) := by decide +kernel
theorem dL_acts_1022 : decode cL_acts 1022 = .ok (.istore 29, 2) := by decide +kernel
theorem dL_acts_1024 : decode cL_acts 1024 = .ok (.aload_n 0, 1) := by decide +kernel
theorem dL_acts_1025 : decode cL_acts 1025 = .ok (.iload 27, 2) := by decide +kernel
theorem dL_acts_1027 : decode cL_acts 1027 = .ok (.iload 28, 2) := by decide +kernel
theorem dL_acts_1029 : decode cL_acts 1029 = .ok (.invokevirtual 94, 3) := by decide +kernel
theorem dL_acts_1032 : decode cL_acts 1032 = .ok (.iload 29, 2) := by decide +kernel
theorem dL_acts_1034 : decode cL_acts 1034 = .ok (.if_icmp .ne 55, 3) := by decide +kernel
theorem dL_acts_1037 : decode cL_acts 1037 = .ok (.aload_n 0, 1) := by decide +kernel
theorem dL_acts_1038 : decode cL_acts 1038 = .ok (.bipush 9, 2) := by decide +kernel
theorem dL_acts_1040 : decode cL_acts 1040 = .ok (.iload 27, 2) := by decide +kernel
theorem dL_acts_1042 : decode cL_acts 1042 = .ok (.iadd, 1) := by decide +kernel
theorem dL_acts_1043 : decode cL_acts 1043 = .ok (.invokevirtual 15, 3) := by decide +kernel
theorem dL_acts_1046 : decode cL_acts 1046 = .ok (.iload 28, 2) := by decide +kernel
theorem dL_acts_1048 : decode cL_acts 1048 = .ok (.if_icmp .ne 41, 3) := by decide +kernel
theorem dL_acts_1051 : decode cL_acts 1051 = .ok (.iload_n 1, 1) := by decide +kernel
theorem dL_acts_1052 : decode cL_acts 1052 = .ok (.bipush 18, 2) := by decide +kernel
theorem dL_acts_1054 : decode cL_acts 1054 = .ok (.ishr, 1) := by decide +kernel
theorem dL_acts_1055 : decode cL_acts 1055 = .ok (.bipush 16, 2) := by decide +kernel
theorem dL_acts_1057 : decode cL_acts 1057 = .ok (.irem, 1) := by decide +kernel
theorem dL_acts_1058 : decode cL_acts 1058 = .ok (.ifCond .gt 27, 3) := by decide +kernel
theorem dL_acts_1061 : decode cL_acts 1061 = .ok (.aload_n 0, 1) := by decide +kernel
theorem dL_acts_1062 : decode cL_acts 1062 = .ok (.bipush 7, 2) := by decide +kernel
theorem dL_acts_1064 : decode cL_acts 1064 = .ok (.invokevirtual 15, 3) := by decide +kernel
theorem dL_acts_1067 : decode cL_acts 1067 = .ok (.ifCond .ge 18, 3) := by decide +kernel
theorem dL_acts_1070 : decode cL_acts 1070 = .ok (.aload_n 0, 1) := by decide +kernel
theorem dL_acts_1071 : decode cL_acts 1071 = .ok (.iload_n 1, 1) := by decide +kernel
theorem dL_acts_1072 : decode cL_acts 1072 = .ok (.bipush 8, 2) := by decide +kernel
theorem dL_acts_1074 : decode cL_acts 1074 = .ok (.ishr, 1) := by decide +kernel
theorem dL_acts_1075 : decode cL_acts 1075 = .ok (.sipush 10000, 3) := by decide +kernel
theorem dL_acts_1078 : decode cL_acts 1078 = .ok (.irem, 1) := by decide +kernel
theorem dL_acts_1079 : decode cL_acts 1079 = .ok (.invokevirtual 97, 3) := by decide +kernel
theorem dL_acts_1082 : decode cL_acts 1082 = .ok (.ifCond .lt 7, 3) := by decide +kernel
theorem dL_acts_1085 : decode cL_acts 1085 = .ok (.iconst 1, 1) := by decide +kernel
theorem dL_acts_1086 : decode cL_acts 1086 = .ok (.goto 4, 3) := by decide +kernel
theorem dL_acts_1089 : decode cL_acts 1089 = .ok (.iconst 0, 1) := by decide +kernel
theorem dL_acts_1090 : decode cL_acts 1090 = .ok (.ireturn, 1) := by decide +kernel
