theorem dL_cell_0 : decode cL_cell 0 = .ok (.iload_n 1, 1) := by decide +kernel
theorem dL_cell_1 : decode cL_cell 1 = .ok (.aload_n 0, 1) := by decide +kernel
theorem dL_cell_2 : decode cL_cell 2 = .ok (.arraylength, 1) := by decide +kernel
theorem dL_cell_3 : decode cL_cell 3 = .ok (.if_icmp .ge 9, 3) := by decide +kernel
theorem dL_cell_6 : decode cL_cell 6 = .ok (.aload_n 0, 1) := by decide +kernel
theorem dL_cell_7 : decode cL_cell 7 = .ok (.iload_n 1, 1) := by decide +kernel
theorem dL_cell_8 : decode cL_cell 8 = .ok (.iaload, 1) := by decide +kernel
theorem dL_cell_9 : decode cL_cell 9 = .ok (.goto 11, 3) := by decide +kernel
theorem dL_cell_12 : decode cL_cell 12 = .ok (.ldc 7, 2) := by decide +kernel
theorem dL_cell_14 : decode cL_cell 14 = .ok (.iload_n 1, 1) := by decide +kernel
theorem dL_cell_15 : decode cL_cell 15 = .ok (.imul, 1) := by decide +kernel
theorem dL_cell_16 : decode cL_cell 16 = .ok (.sipush 8255, 3) := by decide +kernel
theorem dL_cell_19 : decode cL_cell 19 = .ok (.iadd, 1) := by decide +kernel
theorem dL_cell_20 : decode cL_cell 20 = .ok (.ldc 8, 2) := by decide +kernel
theorem dL_cell_22 : decode cL_cell 22 = .ok (.iand, 1) := by decide +kernel
theorem dL_cell_23 : decode cL_cell 23 = .ok (.ireturn, 1) := by decide +kernel
theorem dL_bits_0 : decode cL_bits 0 = .ok (.iconst 0, 1) := by decide +kernel
theorem dL_bits_1 : decode cL_bits 1 = .ok (.istore_n 1, 1) := by decide +kernel
theorem dL_bits_2 : decode cL_bits 2 = .ok (.iconst 0, 1) := by decide +kernel
theorem dL_bits_3 : decode cL_bits 3 = .ok (.istore_n 2, 1) := by decide +kernel
theorem dL_bits_4 : decode cL_bits 4 = .ok (.iload_n 2, 1) := by decide +kernel
theorem dL_bits_5 : decode cL_bits 5 = .ok (.bipush 10, 2) := by decide +kernel
theorem dL_bits_7 : decode cL_bits 7 = .ok (.if_icmp .ge 17, 3) := by decide +kernel
theorem dL_bits_10 : decode cL_bits 10 = .ok (.iload_n 1, 1) := by decide +kernel
theorem dL_bits_11 : decode cL_bits 11 = .ok (.iload_n 0, 1) := by decide +kernel
theorem dL_bits_12 : decode cL_bits 12 = .ok (.iload_n 2, 1) := by decide +kernel
theorem dL_bits_13 : decode cL_bits 13 = .ok (.ishr, 1) := by decide +kernel
theorem dL_bits_14 : decode cL_bits 14 = .ok (.iconst 1, 1) := by decide +kernel
theorem dL_bits_15 : decode cL_bits 15 = .ok (.iand, 1) := by decide +kernel
theorem dL_bits_16 : decode cL_bits 16 = .ok (.iadd, 1) := by decide +kernel
theorem dL_bits_17 : decode cL_bits 17 = .ok (.istore_n 1, 1) := by decide +kernel
theorem dL_bits_18 : decode cL_bits 18 = .ok (.iinc 2 1, 3) := by decide +kernel
theorem dL_bits_21 : decode cL_bits 21 = .ok (.goto (-17), 3) := by decide +kernel
theorem dL_bits_24 : decode cL_bits 24 = .ok (.iload_n 1, 1) := by decide +kernel
theorem dL_bits_25 : decode cL_bits 25 = .ok (.ireturn, 1) := by decide +kernel
set_option maxRecDepth 20000 in
theorem ggL_far_X4_ofTeam : GoodIn wsL_far wsX4_ofTeam := goodIn_r _ [6, 7, 8, 9, 10, 11, 12, 13, 14, 15, 16, 17, 18, 19, 20, 21, 22, 23, 24, 25, 26, 27, 28, 29, 30, 5, 31, 32, 33, 34, 35, 36, 37, 38, 39, 40, 41, 42, 43, 44, 45, 46, 47, 48, 49, 50, 51, 52, 53, 54, 55, 56, 57, 58, 59, 60, 61, 62, 63, 64, 65, 66, 67, 68, 69, 70, 71, 72, 73, 74, 75, 76, 77, 78, 79, 80, 81, 82, 83, 84, 85, 86, 87, 88, 89, 90, 91, 92, 93, 94, 95, 96, 97, 98, 99, 100, 101, 102, 103, 104, 105, 106, 107, 108, 109, 110, 111, 112, 113, 114, 165, 166, 167, 168, 169, 170, 171, 172, 173, 174, 175, 176, 177, 178, 179, 180, 181] (by decide +kernel) (by decide +kernel)
set_option maxRecDepth 20000 in
theorem gL_far_X4_ofTeam : GoodIn wsL_far (wsV RL 9 RX4 yX4_ofTeam wsX4_ofTeam) := goodIn_app (goodIn_of _ (by decide +kernel)) ggL_far_X4_ofTeam
set_option maxRecDepth 20000 in
theorem ggL_far_X4_count : GoodIn wsL_far wsX4_count := goodIn_r _ [118, 7, 119, 120, 121, 122, 123, 124, 81, 82, 15, 83, 17, 84, 125, 86, 87, 88, 22, 80, 126, 77, 78, 79, 85, 127, 128, 129, 130, 131, 132, 133, 134, 135, 101, 136, 137, 138, 139, 23, 140, 141, 142, 143, 144, 65, 66, 67, 68, 69, 70, 71, 145, 146, 147, 148, 149, 150, 151, 152, 45, 19, 20, 21, 24, 25, 26, 27, 28, 29, 30, 5, 31, 32, 33, 34, 35, 36, 153, 154, 155, 156, 157, 158, 159, 160, 161, 162, 163, 164, 165, 166, 167, 168, 169, 170, 171, 172, 173, 174, 175, 176, 177, 178, 179, 180, 181, 182, 183, 184, 185, 186] (by decide +kernel) (by decide +kernel)
set_option maxRecDepth 20000 in
theorem gL_far_X4_count : GoodIn wsL_far (wsV RL 15 RX4 yX4_count wsX4_count) := goodIn_app (goodIn_of _ (by decide +kernel)) ggL_far_X4_count
theorem dL_far_0 : decode cL_far 0 = .ok (.aload_n 0, 1) := by decide +kernel
theorem dL_far_1 : decode cL_far 1 = .ok (.iload_n 1, 1) := by decide +kernel
theorem dL_far_2 : decode cL_far 2 = .ok (.iconst 5, 1) := by decide +kernel
theorem dL_far_3 : decode cL_far 3 = .ok (.invokevirtual 9, 3) := by decide +kernel
theorem dL_far_6 : decode cL_far 6 = .ok (.istore_n 2, 1) := by decide +kernel
theorem dL_far_7 : decode cL_far 7 = .ok (.aload_n 0, 1) := by decide +kernel
theorem dL_far_8 : decode cL_far 8 = .ok (.bipush 7, 2) := by decide +kernel
theorem dL_far_10 : decode cL_far 10 = .ok (.invokevirtual 15, 3) := by decide +kernel
theorem dL_far_13 : decode cL_far 13 = .ok (.istore_n 3, 1) := by decide +kernel
theorem dL_far_14 : decode cL_far 14 = .ok (.iload_n 2, 1) := by decide +kernel
theorem dL_far_15 : decode cL_far 15 = .ok (.ifCond .ge 8, 3) := by decide +kernel
theorem dL_far_18 : decode cL_far 18 = .ok (.ldc 19, 2) := by decide +kernel
theorem dL_far_20 : decode cL_far 20 = .ok (.goto 17, 3) := by decide +kernel
theorem dL_far_23 : decode cL_far 23 = .ok (.iload_n 2, 1) := by decide +kernel
theorem dL_far_24 : decode cL_far 24 = .ok (.iload_n 3, 1) := by decide +kernel
theorem dL_far_25 : decode cL_far 25 = .ok (.if_icmp .le 9, 3) := by decide +kernel
theorem dL_far_28 : decode cL_far 28 = .ok (.iload_n 2, 1) := by decide +kernel
theorem dL_far_29 : decode cL_far 29 = .ok (.iload_n 3, 1) := by decide +kernel
theorem dL_far_30 : decode cL_far 30 = .ok (.isub, 1) := by decide +kernel
theorem dL_far_31 : decode cL_far 31 = .ok (.goto 6, 3) := by decide +kernel
theorem dL_far_34 : decode cL_far 34 = .ok (.iload_n 3, 1) := by decide +kernel
theorem dL_far_35 : decode cL_far 35 = .ok (.iload_n 2, 1) := by decide +kernel
theorem dL_far_36 : decode cL_far 36 = .ok (.isub, 1) := by decide +kernel
theorem dL_far_37 : decode cL_far 37 = .ok (.ireturn, 1) := by decide +kernel
set_option maxRecDepth 20000 in
theorem ggL_isAhead_X4_ofTeam : GoodIn wsL_isAhead wsX4_ofTeam := goodIn_r _ [5, 6, 7, 8, 9, 10, 11, 12, 13, 14, 15, 16, 17, 18, 19, 20, 21, 22, 23, 24, 25, 26, 27, 28, 29, 4, 30, 31, 32, 33, 34, 35, 36, 37, 38, 39, 40, 41, 42, 43, 44, 45, 46, 47, 48, 49, 50, 51, 52, 53, 54, 55, 56, 57, 58, 59, 60, 61, 62, 63, 64, 65, 66, 67, 68, 69, 70, 71, 72, 73, 74, 75, 76, 77, 78, 79, 80, 81, 82, 83, 84, 85, 86, 87, 88, 89, 90, 91, 92, 93, 94, 95, 96, 97, 98, 99, 100, 101, 102, 103, 104, 105, 106, 107, 108, 109, 110, 111, 112, 113, 169, 170, 171, 172, 173, 174, 175, 176, 177, 178, 179, 180, 181, 182, 183, 184, 185] (by decide +kernel) (by decide +kernel)
set_option maxRecDepth 20000 in
theorem gL_isAhead_X4_ofTeam : GoodIn wsL_isAhead (wsV RL 9 RX4 yX4_ofTeam wsX4_ofTeam) := goodIn_app (goodIn_of _ (by decide +kernel)) ggL_isAhead_X4_ofTeam
set_option maxRecDepth 20000 in
theorem ggL_isAhead_X4_count : GoodIn wsL_isAhead wsX4_count := goodIn_r _ [117, 6, 118, 119, 120, 121, 122, 123, 80, 81, 14, 82, 16, 83, 124, 85, 86, 87, 21, 79, 125, 76, 77, 78, 84, 126, 127, 128, 129, 130, 131, 132, 133, 134, 100, 135, 136, 137, 138, 22, 139, 140, 141, 142, 143, 64, 65, 66, 67, 68, 69, 70, 144, 145, 146, 147, 148, 149, 150, 151, 44, 18, 19, 20, 23, 24, 25, 26, 27, 28, 29, 4, 30, 31, 32, 33, 34, 35, 152, 153, 154, 155, 156, 157, 158, 159, 160, 161, 162, 163, 169, 170, 171, 172, 173, 174, 175, 176, 177, 178, 179, 180, 181, 182, 183, 184, 185, 186, 187, 188, 189, 190] (by decide +kernel) (by decide +kernel)
set_option maxRecDepth 20000 in
theorem gL_isAhead_X4_count : GoodIn wsL_isAhead (wsV RL 15 RX4 yX4_count wsX4_count) := goodIn_app (goodIn_of _ (by decide +kernel)) ggL_isAhead_X4_count
set_option maxRecDepth 20000 in
theorem ggL_isAhead_L_far : GoodIn wsL_isAhead wsL_far := goodIn_r _ [167, 168, 1, 2, 3, 4, 5, 6, 7, 8, 9, 10, 11, 12, 13, 14, 15, 16, 17, 18, 19, 20, 21, 22, 23, 24, 25, 26, 27, 28, 29, 30, 31, 32, 33, 34, 35, 36, 37, 38, 39, 40, 41, 42, 43, 44, 45, 46, 47, 48, 49, 50, 51, 52, 53, 54, 55, 56, 57, 58, 59, 60, 61, 62, 63, 64, 65, 66, 67, 68, 69, 70, 71, 72, 73, 74, 75, 76, 77, 78, 79, 80, 81, 82, 83, 84, 85, 86, 87, 88, 89, 90, 91, 92, 93, 94, 95, 96, 97, 98, 99, 100, 101, 102, 103, 104, 105, 106, 107, 108, 109, 110, 111, 112, 113, 114, 115, 116, 117, 118, 119, 120, 121, 122, 123, 124, 125, 126, 127, 128, 129, 130, 131, 132, 133, 134, 135, 136, 137, 138, 139, 140, 141, 142, 143, 144, 145, 146, 147, 148, 149, 150, 151, 152, 153, 154, 155, 156, 157, 158, 159, 160, 161, 162, 163, 169, 170, 171, 172, 173, 174, 175, 176, 177, 178, 179, 180, 181, 182, 183, 184, 185, 186, 187, 188, 189, 190] (by decide +kernel) (by decide +kernel)
set_option maxRecDepth 20000 in
theorem gL_isAhead_L_far : GoodIn wsL_isAhead (va_wsS RL 20 yL_far wsL_far) := goodIn_app (goodIn_of _ (by decide +kernel)) ggL_isAhead_L_far
theorem dL_isAhead_0 : decode cL_isAhead 0 = .ok (.aload_n 0, 1) := by decide +kernel
theorem dL_isAhead_1 : decode cL_isAhead 1 = .ok (.iload_n 1, 1) := by decide +kernel
theorem dL_isAhead_2 : decode cL_isAhead 2 = .ok (.iconst 0, 1) := by decide +kernel
theorem dL_isAhead_3 : decode cL_isAhead 3 = .ok (.invokevirtual 9, 3) := by decide +kernel
theorem dL_isAhead_6 : decode cL_isAhead 6 = .ok (.istore_n 3, 1) := by decide +kernel
theorem dL_isAhead_7 : decode cL_isAhead 7 = .ok (.aload_n 0, 1) := by decide +kernel
theorem dL_isAhead_8 : decode cL_isAhead 8 = .ok (.iload_n 2, 1) := by decide +kernel
theorem dL_isAhead_9 : decode cL_isAhead 9 = .ok (.iconst 0, 1) := by decide +kernel
theorem dL_isAhead_10 : decode cL_isAhead 10 = .ok (.invokevirtual 9, 3) := by decide +kernel
theorem dL_isAhead_13 : decode cL_isAhead 13 = .ok (.istore 4, 2) := by decide +kernel
theorem dL_isAhead_15 : decode cL_isAhead 15 = .ok (.iload_n 3, 1) := by decide +kernel
theorem dL_isAhead_16 : decode cL_isAhead 16 = .ok (.iload 4, 2) := by decide +kernel
theorem dL_isAhead_18 : decode cL_isAhead 18 = .ok (.if_icmp .gt 31, 3) := by decide +kernel
theorem dL_isAhead_21 : decode cL_isAhead 21 = .ok (.iload_n 3, 1) := by decide +kernel
theorem dL_isAhead_22 : decode cL_isAhead 22 = .ok (.iload 4, 2) := by decide +kernel
theorem dL_isAhead_24 : decode cL_isAhead 24 = .ok (.if_icmp .ne 29, 3) := by decide +kernel
theorem dL_isAhead_27 : decode cL_isAhead 27 = .ok (.aload_n 0, 1) := by decide +kernel
theorem dL_isAhead_28 : decode cL_isAhead 28 = .ok (.bipush 7, 2) := by decide +kernel
theorem dL_isAhead_30 : decode cL_isAhead 30 = .ok (.invokevirtual 15, 3) := by decide +kernel
theorem dL_isAhead_33 : decode cL_isAhead 33 = .ok (.ifCond .lt 20, 3) := by decide +kernel
theorem dL_isAhead_36 : decode cL_isAhead 36 = .ok (.aload_n 0, 1) := by decide +kernel
theorem dL_isAhead_37 : decode cL_isAhead 37 = .ok (.iload_n 1, 1) := by decide +kernel
theorem dL_isAhead_38 : decode cL_isAhead 38 = .ok (.invokestatic 20, 3) := by decide +kernel
theorem dL_isAhead_41 : decode cL_isAhead 41 = .ok (.aload_n 0, 1) := by decide +kernel
theorem dL_isAhead_42 : decode cL_isAhead 42 = .ok (.iload_n 2, 1) := by decide +kernel
theorem dL_isAhead_43 : decode cL_isAhead 43 = .ok (.invokestatic 20, 3) := by decide +kernel
theorem dL_isAhead_46 : decode cL_isAhead 46 = .ok (.if_icmp .ge 7, 3) := by decide +kernel
theorem dL_isAhead_49 : decode cL_isAhead 49 = .ok (.iconst 1, 1) := by decide +kernel
theorem dL_isAhead_50 : decode cL_isAhead 50 = .ok (.goto 4, 3) := by decide +kernel
theorem dL_isAhead_53 : decode cL_isAhead 53 = .ok (.iconst 0, 1) := by decide +kernel
theorem dL_isAhead_54 : decode cL_isAhead 54 = .ok (.ireturn, 1) := by decide +kernel
set_option maxRecDepth 20000 in
theorem ggL_areRanks_X4_count : GoodIn wsL_areRanks wsX4_count := goodIn_r _ [5, 6, 7, 8, 9, 10, 11, 12, 13, 14, 15, 16, 17, 18, 19, 20, 21, 22, 23, 24, 25, 26, 27, 28, 29, 30, 31, 32, 33, 34, 35, 36, 37, 38, 39, 40, 41, 42, 43, 44, 45, 46, 47, 48, 49, 50, 51, 52, 53, 54, 55, 56, 57, 58, 59, 60, 61, 62, 63, 64, 65, 66, 67, 68, 69, 70, 71, 72, 73, 74, 75, 4, 76, 77, 78, 79, 80, 81, 82, 83, 84, 85, 86, 87, 88, 89, 90, 91, 92, 93, 209, 210, 211, 212, 213, 214, 215, 216, 217, 218, 219, 220, 221, 222, 223, 224, 225, 226, 227, 228, 229, 230] (by decide +kernel) (by decide +kernel)
set_option maxRecDepth 20000 in
theorem gL_areRanks_X4_count : GoodIn wsL_areRanks (wsV RL 15 RX4 yX4_count wsX4_count) := goodIn_app (goodIn_of _ (by decide +kernel)) ggL_areRanks_X4_count
set_option maxRecDepth 20000 in
theorem ggL_areRanks_X4_at : GoodIn wsL_areRanks wsX4_at := goodIn_r _ [97, 6, 7, 98, 99, 100, 15, 101, 102, 103, 104, 105, 17, 106, 107, 108, 109, 65, 66, 67, 68, 23, 44, 69, 70, 71, 72, 73, 74, 75, 4, 76, 77, 78, 79, 80, 81, 110, 111, 112, 113, 114, 115, 116, 117, 118, 119, 120, 121, 122, 123, 124, 125, 126, 50, 51, 52, 53, 54, 55, 56, 209, 210, 211, 212, 213, 214, 215, 216, 217, 218, 219, 220, 221, 222, 223, 224, 225] (by decide +kernel) (by decide +kernel)
set_option maxRecDepth 20000 in
theorem gL_areRanks_X4_at : GoodIn wsL_areRanks (wsV RL 26 RX4 yX4_at wsX4_at) := goodIn_app (goodIn_of _ (by decide +kernel)) ggL_areRanks_X4_at
set_option maxRecDepth 20000 in
theorem ggL_areRanks_L_isAhead : GoodIn wsL_areRanks wsL_isAhead := goodIn_r _ [130, 131, 132, 133, 4, 134, 6, 135, 136, 137, 138, 139, 140, 141, 15, 142, 17, 143, 66, 67, 68, 23, 44, 69, 70, 71, 72, 73, 74, 75, 76, 77, 78, 79, 80, 81, 144, 103, 104, 105, 106, 107, 108, 109, 65, 110, 111, 112, 113, 114, 115, 116, 117, 118, 119, 145, 146, 147, 148, 102, 120, 121, 122, 123, 50, 51, 52, 53, 54, 55, 56, 149, 150, 151, 152, 153, 26, 27, 28, 24, 13, 14, 16, 18, 29, 20, 21, 22, 124, 125, 126, 154, 155, 156, 157, 158, 159, 160, 161, 162, 39, 163, 164, 165, 166, 167, 168, 169, 170, 171, 172, 173, 174, 175, 1, 2, 3, 5, 7, 8, 9, 10, 11, 12, 19, 25, 30, 31, 32, 33, 34, 35, 36, 37, 38, 40, 41, 42, 43, 45, 46, 47, 48, 49, 57, 58, 59, 60, 61, 62, 63, 64, 82, 83, 84, 85, 86, 87, 88, 89, 90, 91, 92, 93, 176, 177, 129, 178, 179, 209, 210, 211, 212, 213, 214, 215, 216, 217, 218, 219, 220, 221, 222, 223, 224, 225, 226, 227, 228, 229, 230] (by decide +kernel) (by decide +kernel)
set_option maxRecDepth 20000 in
theorem gL_areRanks_L_isAhead : GoodIn wsL_areRanks (va_wsS RL 29 yL_isAhead wsL_isAhead) := goodIn_app (goodIn_of _ (by decide +kernel)) ggL_areRanks_L_isAhead
set_option maxRecDepth 20000 in
theorem ggL_areRanks_X4_ofTeam : GoodIn wsL_areRanks wsX4_ofTeam := goodIn_r _ [134, 6, 135, 136, 137, 138, 139, 140, 141, 15, 142, 17, 143, 66, 67, 68, 23, 44, 69, 70, 71, 72, 73, 74, 75, 4, 76, 77, 78, 79, 80, 81, 144, 103, 104, 105, 106, 107, 108, 109, 65, 110, 111, 112, 113, 114, 115, 116, 117, 118, 119, 145, 146, 147, 148, 102, 120, 121, 122, 123, 50, 51, 52, 53, 54, 55, 56, 149, 150, 151, 152, 153, 26, 27, 28, 24, 13, 14, 16, 18, 29, 20, 21, 22, 124, 125, 126, 154, 155, 156, 157, 158, 159, 160, 161, 162, 39, 163, 164, 165, 166, 167, 168, 169, 170, 171, 172, 173, 174, 175, 209, 210, 211, 212, 213, 214, 215, 216, 217, 218, 219, 220, 221, 222, 223, 224, 225] (by decide +kernel) (by decide +kernel)
set_option maxRecDepth 20000 in
theorem gL_areRanks_X4_ofTeam : GoodIn wsL_areRanks (wsV RL 9 RX4 yX4_ofTeam wsX4_ofTeam) := goodIn_app (goodIn_of _ (by decide +kernel)) ggL_areRanks_X4_ofTeam
set_option maxRecDepth 20000 in
theorem ggL_areRanks_X4_most : GoodIn wsL_areRanks wsX4_most := goodIn_r _ [183, 6, 139, 140, 141, 15, 142, 17, 184, 185, 186, 187, 23, 44, 81, 188, 189, 190, 191, 167, 168, 169, 170, 171, 172, 173, 174, 73, 75, 4, 76, 192, 193, 194, 195, 74, 158, 159, 160, 161, 162, 39, 34, 35, 36, 37, 38, 77, 78, 79, 80, 196, 197, 198, 199, 209, 210, 211, 212, 213, 214, 215, 216, 217, 218, 219, 220, 221, 222, 223, 224, 225] (by decide +kernel) (by decide +kernel)
set_option maxRecDepth 20000 in
theorem gL_areRanks_X4_most : GoodIn wsL_areRanks (wsV RL 33 RX4 yX4_most wsX4_most) := goodIn_app (goodIn_of _ (by decide +kernel)) ggL_areRanks_X4_most
set_option maxRecDepth 20000 in
theorem ggL_areRanks_X4_canWin : GoodIn wsL_areRanks wsX4_canWin := goodIn_r _ [203, 6, 7, 204, 205, 206, 15, 207, 17, 208, 185, 186, 187, 23, 44, 81, 188, 189, 190, 191, 167, 168, 169, 170, 171, 172, 173, 174, 73, 75, 4, 76, 192, 193, 194, 195, 74, 158, 159, 160, 161, 162, 39, 34, 35, 36, 37, 38, 77, 78, 79, 80, 196, 197, 198, 199, 65, 66, 67, 68, 69, 70, 71, 72, 209, 210, 211, 212, 213, 214, 215, 216, 217, 218, 219, 220, 221, 222, 223, 224, 225] (by decide +kernel) (by decide +kernel)
set_option maxRecDepth 20000 in
theorem gL_areRanks_X4_canWin : GoodIn wsL_areRanks (wsV RL 36 RX4 yX4_canWin wsX4_canWin) := goodIn_app (goodIn_of _ (by decide +kernel)) ggL_areRanks_X4_canWin
theorem dL_areRanks_0 : decode cL_areRanks 0 = .ok (.aload_n 0, 1) := by decide +kernel
theorem dL_areRanks_1 : decode cL_areRanks 1 = .ok (.iconst 0, 1) := by decide +kernel
theorem dL_areRanks_2 : decode cL_areRanks 2 = .ok (.invokevirtual 15, 3) := by decide +kernel
theorem dL_areRanks_5 : decode cL_areRanks 5 = .ok (.istore_n 1, 1) := by decide +kernel
theorem dL_areRanks_6 : decode cL_areRanks 6 = .ok (.iconst 0, 1) := by decide +kernel
theorem dL_areRanks_7 : decode cL_areRanks 7 = .ok (.istore_n 2, 1) := by decide +kernel
theorem dL_areRanks_8 : decode cL_areRanks 8 = .ok (.iconst 0, 1) := by decide +kernel
theorem dL_areRanks_9 : decode cL_areRanks 9 = .ok (.istore_n 3, 1) := by decide +kernel
theorem dL_areRanks_10 : decode cL_areRanks 10 = .ok (.iconst 0, 1) := by decide +kernel
theorem dL_areRanks_11 : decode cL_areRanks 11 = .ok (.istore 4, 2) := by decide +kernel
theorem dL_areRanks_13 : decode cL_areRanks 13 = .ok (.aload_n 0, 1) := by decide +kernel
theorem dL_areRanks_14 : decode cL_areRanks 14 = .ok (.iload_n 1, 1) := by decide +kernel
theorem dL_areRanks_15 : decode cL_areRanks 15 = .ok (.invokevirtual 26, 3) := by decide +kernel
theorem dL_areRanks_18 : decode cL_areRanks 18 = .ok (.iconst (-1), 1) := by decide +kernel
theorem dL_areRanks_19 : decode cL_areRanks 19 = .ok (.if_icmp .ne 16, 3) := by decide +kernel
theorem dL_areRanks_22 : decode cL_areRanks 22 = .ok (.aload_n 0, 1) := by decide +kernel
theorem dL_areRanks_23 : decode cL_areRanks 23 = .ok (.iconst (-1), 1) := by decide +kernel
theorem dL_areRanks_24 : decode cL_areRanks 24 = .ok (.invokevirtual 26, 3) := by decide +kernel
theorem dL_areRanks_27 : decode cL_areRanks 27 = .ok (.iconst (-1), 1) := by decide +kernel
theorem dL_areRanks_28 : decode cL_areRanks 28 = .ok (.if_icmp .ne 7, 3) := by decide +kernel
theorem dL_areRanks_31 : decode cL_areRanks 31 = .ok (.iconst 1, 1) := by decide +kernel
theorem dL_areRanks_32 : decode cL_areRanks 32 = .ok (.goto 4, 3) := by decide +kernel
theorem dL_areRanks_35 : decode cL_areRanks 35 = .ok (.iconst 0, 1) := by decide +kernel
theorem dL_areRanks_36 : decode cL_areRanks 36 = .ok (.istore 5, 2) := by decide +kernel
theorem dL_areRanks_38 : decode cL_areRanks 38 = .ok (.iconst 0, 1) := by decide +kernel
theorem dL_areRanks_39 : decode cL_areRanks 39 = .ok (.istore 6, 2) := by decide +kernel
theorem dL_areRanks_41 : decode cL_areRanks 41 = .ok (.iload 6, 2) := by decide +kernel
theorem dL_areRanks_43 : decode cL_areRanks 43 = .ok (.iload_n 1, 1) := by decide +kernel
theorem dL_areRanks_44 : decode cL_areRanks 44 = .ok (.if_icmp .ge 235, 3) := by decide +kernel
theorem dL_areRanks_47 : decode cL_areRanks 47 = .ok (.iload 5, 2) := by decide +kernel
theorem dL_areRanks_49 : decode cL_areRanks 49 = .ok (.ifCond .eq 230, 3) := by decide +kernel
theorem dL_areRanks_52 : decode cL_areRanks 52 = .ok (.iconst 0, 1) := by decide +kernel
theorem dL_areRanks_53 : decode cL_areRanks 53 = .ok (.istore 7, 2) := by decide +kernel
theorem dL_areRanks_55 : decode cL_areRanks 55 = .ok (.iconst 0, 1) := by decide +kernel
theorem dL_areRanks_56 : decode cL_areRanks 56 = .ok (.istore 8, 2) := by decide +kernel
theorem dL_areRanks_58 : decode cL_areRanks 58 = .ok (.iconst 0, 1) := by decide +kernel
theorem dL_areRanks_59 : decode cL_areRanks 59 = .ok (.istore 9, 2) := by decide +kernel
theorem dL_areRanks_61 : decode cL_areRanks 61 = .ok (.iload 9, 2) := by decide +kernel
theorem dL_areRanks_63 : decode cL_areRanks 63 = .ok (.iload_n 1, 1) := by decide +kernel
theorem dL_areRanks_64 : decode cL_areRanks 64 = .ok (.if_icmp .ge 72, 3) := by decide +kernel
theorem dL_areRanks_67 : decode cL_areRanks 67 = .ok (.iload 7, 2) := by decide +kernel
theorem dL_areRanks_69 : decode cL_areRanks 69 = .ok (.aload_n 0, 1) := by decide +kernel
theorem dL_areRanks_70 : decode cL_areRanks 70 = .ok (.iload 9, 2) := by decide +kernel
theorem dL_areRanks_72 : decode cL_areRanks 72 = .ok (.iload 6, 2) := by decide +kernel
theorem dL_areRanks_74 : decode cL_areRanks 74 = .ok (.invokestatic 29, 3) := by decide +kernel
theorem dL_areRanks_77 : decode cL_areRanks 77 = .ok (.ifCond .eq 7, 3) := by decide +kernel
theorem dL_areRanks_80 : decode cL_areRanks 80 = .ok (.iconst 1, 1) := by decide +kernel
theorem dL_areRanks_81 : decode cL_areRanks 81 = .ok (.goto 4, 3) := by decide +kernel
theorem dL_areRanks_84 : decode cL_areRanks 84 = .ok (.iconst 0, 1) := by decide +kernel
theorem dL_areRanks_85 : decode cL_areRanks 85 = .ok (.iadd, 1) := by decide +kernel
theorem dL_areRanks_86 : decode cL_areRanks 86 = .ok (.istore 7, 2) := by decide +kernel
theorem dL_areRanks_88 : decode cL_areRanks 88 = .ok (.iload 8, 2) := by decide +kernel
theorem dL_areRanks_90 : decode cL_areRanks 90 = .ok (.iload 9, 2) := by decide +kernel
theorem dL_areRanks_92 : decode cL_areRanks 92 = .ok (.iload 6, 2) := by decide +kernel
theorem dL_areRanks_94 : decode cL_areRanks 94 = .ok (.if_icmp .eq 32, 3) := by decide +kernel
theorem dL_areRanks_97 : decode cL_areRanks 97 = .ok (.aload_n 0, 1) := by decide +kernel
theorem dL_areRanks_98 : decode cL_areRanks 98 = .ok (.iload 9, 2) := by decide +kernel
theorem dL_areRanks_100 : decode cL_areRanks 100 = .ok (.iload 6, 2) := by decide +kernel
theorem dL_areRanks_102 : decode cL_areRanks 102 = .ok (.invokestatic 29, 3) := by decide +kernel
theorem dL_areRanks_105 : decode cL_areRanks 105 = .ok (.ifCond .ne 21, 3) := by decide +kernel
theorem dL_areRanks_108 : decode cL_areRanks 108 = .ok (.aload_n 0, 1) := by decide +kernel
theorem dL_areRanks_109 : decode cL_areRanks 109 = .ok (.iload 6, 2) := by decide +kernel
theorem dL_areRanks_111 : decode cL_areRanks 111 = .ok (.iload 9, 2) := by decide +kernel
theorem dL_areRanks_113 : decode cL_areRanks 113 = .ok (.invokestatic 29, 3) := by decide +kernel
theorem dL_areRanks_116 : decode cL_areRanks 116 = .ok (.ifCond .ne 10, 3) := by decide +kernel
theorem dL_areRanks_119 : decode cL_areRanks 119 = .ok (.iconst 1, 1) := by decide +kernel
theorem dL_areRanks_120 : decode cL_areRanks 120 = .ok (.iload 9, 2) := by decide +kernel
theorem dL_areRanks_122 : decode cL_areRanks 122 = .ok (.ishl, 1) := by decide +kernel
theorem dL_areRanks_123 : decode cL_areRanks 123 = .ok (.goto 4, 3) := by decide +kernel
theorem dL_areRanks_126 : decode cL_areRanks 126 = .ok (.iconst 0, 1) := by decide +kernel
theorem dL_areRanks_127 : decode cL_areRanks 127 = .ok (.ior, 1) := by decide +kernel
theorem dL_areRanks_128 : decode cL_areRanks 128 = .ok (.istore 8, 2) := by decide +kernel
theorem dL_areRanks_130 : decode cL_areRanks 130 = .ok (.iinc 9 1, 3) := by decide +kernel
theorem dL_areRanks_133 : decode cL_areRanks 133 = .ok (.goto (-72), 3) := by decide +kernel
theorem dL_areRanks_136 : decode cL_areRanks 136 = .ok (.iload_n 2, 1) := by decide +kernel
theorem dL_areRanks_137 : decode cL_areRanks 137 = .ok (.aload_n 0, 1) := by decide +kernel
theorem dL_areRanks_138 : decode cL_areRanks 138 = .ok (.iload 6, 2) := by decide +kernel
theorem dL_areRanks_140 : decode cL_areRanks 140 = .ok (.iconst 2, 1) := by decide +kernel
theorem dL_areRanks_141 : decode cL_areRanks 141 = .ok (.invokevirtual 9, 3) := by decide +kernel
theorem dL_areRanks_144 : decode cL_areRanks 144 = .ok (.iadd, 1) := by decide +kernel
theorem dL_areRanks_145 : decode cL_areRanks 145 = .ok (.istore_n 2, 1) := by decide +kernel
theorem dL_areRanks_146 : decode cL_areRanks 146 = .ok (.iload_n 3, 1) := by decide +kernel
theorem dL_areRanks_147 : decode cL_areRanks 147 = .ok (.aload_n 0, 1) := by decide +kernel
theorem dL_areRanks_148 : decode cL_areRanks 148 = .ok (.iload 6, 2) := by decide +kernel
theorem dL_areRanks_150 : decode cL_areRanks 150 = .ok (.bipush 8, 2) := by decide +kernel
theorem dL_areRanks_152 : decode cL_areRanks 152 = .ok (.invokevirtual 9, 3) := by decide +kernel
theorem dL_areRanks_155 : decode cL_areRanks 155 = .ok (.iadd, 1) := by decide +kernel
theorem dL_areRanks_156 : decode cL_areRanks 156 = .ok (.istore_n 3, 1) := by decide +kernel
theorem dL_areRanks_157 : decode cL_areRanks 157 = .ok (.iload 4, 2) := by decide +kernel
theorem dL_areRanks_159 : decode cL_areRanks 159 = .ok (.iconst 1, 1) := by decide +kernel
theorem dL_areRanks_160 : decode cL_areRanks 160 = .ok (.aload_n 0, 1) := by decide +kernel
theorem dL_areRanks_161 : decode cL_areRanks 161 = .ok (.iload 6, 2) := by decide +kernel
theorem dL_areRanks_163 : decode cL_areRanks 163 = .ok (.invokevirtual 26, 3) := by decide +kernel
theorem dL_areRanks_166 : decode cL_areRanks 166 = .ok (.ishl, 1) := by decide +kernel
theorem dL_areRanks_167 : decode cL_areRanks 167 = .ok (.ior, 1) := by decide +kernel
theorem dL_areRanks_168 : decode cL_areRanks 168 = .ok (.istore 4, 2) := by decide +kernel
theorem dL_areRanks_170 : decode cL_areRanks 170 = .ok (.aload_n 0, 1) := by decide +kernel
theorem dL_areRanks_171 : decode cL_areRanks 171 = .ok (.iload 6, 2) := by decide +kernel
theorem dL_areRanks_173 : decode cL_areRanks 173 = .ok (.iconst 1, 1) := by decide +kernel
theorem dL_areRanks_174 : decode cL_areRanks 174 = .ok (.invokevirtual 9, 3) := by decide +kernel
theorem dL_areRanks_177 : decode cL_areRanks 177 = .ok (.iload 7, 2) := by decide +kernel
theorem dL_areRanks_179 : decode cL_areRanks 179 = .ok (.iconst 1, 1) := by decide +kernel
theorem dL_areRanks_180 : decode cL_areRanks 180 = .ok (.iadd, 1) := by decide +kernel
theorem dL_areRanks_181 : decode cL_areRanks 181 = .ok (.if_icmp .ne 89, 3) := by decide +kernel
theorem dL_areRanks_184 : decode cL_areRanks 184 = .ok (.aload_n 0, 1) := by decide +kernel
theorem dL_areRanks_185 : decode cL_areRanks 185 = .ok (.iload 6, 2) := by decide +kernel
theorem dL_areRanks_187 : decode cL_areRanks 187 = .ok (.bipush 9, 2) := by decide +kernel
theorem dL_areRanks_189 : decode cL_areRanks 189 = .ok (.invokevirtual 9, 3) := by decide +kernel
theorem dL_areRanks_192 : decode cL_areRanks 192 = .ok (.iload 8, 2) := by decide +kernel
theorem dL_areRanks_194 : decode cL_areRanks 194 = .ok (.if_icmp .ne 76, 3) := by decide +kernel
theorem dL_areRanks_197 : decode cL_areRanks 197 = .ok (.iload 6, 2) := by decide +kernel
theorem dL_areRanks_199 : decode cL_areRanks 199 = .ok (.ifCond .eq 30, 3) := by decide +kernel
theorem dL_areRanks_202 : decode cL_areRanks 202 = .ok (.aload_n 0, 1) := by decide +kernel
theorem dL_areRanks_203 : decode cL_areRanks 203 = .ok (.aload_n 0, 1) := by decide +kernel
theorem dL_areRanks_204 : decode cL_areRanks 204 = .ok (.iload 6, 2) := by decide +kernel
theorem dL_areRanks_206 : decode cL_areRanks 206 = .ok (.invokevirtual 26, 3) := by decide +kernel
theorem dL_areRanks_209 : decode cL_areRanks 209 = .ok (.iconst 1, 1) := by decide +kernel
theorem dL_areRanks_210 : decode cL_areRanks 210 = .ok (.invokevirtual 9, 3) := by decide +kernel
theorem dL_areRanks_213 : decode cL_areRanks 213 = .ok (.aload_n 0, 1) := by decide +kernel
theorem dL_areRanks_214 : decode cL_areRanks 214 = .ok (.aload_n 0, 1) := by decide +kernel
theorem dL_areRanks_215 : decode cL_areRanks 215 = .ok (.iload 6, 2) := by decide +kernel
theorem dL_areRanks_217 : decode cL_areRanks 217 = .ok (.iconst 1, 1) := by decide +kernel
theorem dL_areRanks_218 : decode cL_areRanks 218 = .ok (.isub, 1) := by decide +kernel
theorem dL_areRanks_219 : decode cL_areRanks 219 = .ok (.invokevirtual 26, 3) := by decide +kernel
theorem dL_areRanks_222 : decode cL_areRanks 222 = .ok (.iconst 1, 1) := by decide +kernel
theorem dL_areRanks_223 : decode cL_areRanks 223 = .ok (.invokevirtual 9, 3) := by decide +kernel
theorem dL_areRanks_226 : decode cL_areRanks 226 = .ok (.if_icmp .lt 44, 3) := by decide +kernel
theorem dL_areRanks_229 : decode cL_areRanks 229 = .ok (.aload_n 0, 1) := by decide +kernel
theorem dL_areRanks_230 : decode cL_areRanks 230 = .ok (.iload 6, 2) := by decide +kernel
theorem dL_areRanks_232 : decode cL_areRanks 232 = .ok (.invokevirtual 33, 3) := by decide +kernel
theorem dL_areRanks_235 : decode cL_areRanks 235 = .ok (.aload_n 0, 1) := by decide +kernel
theorem dL_areRanks_236 : decode cL_areRanks 236 = .ok (.iload 6, 2) := by decide +kernel
theorem dL_areRanks_238 : decode cL_areRanks 238 = .ok (.iconst 0, 1) := by decide +kernel
theorem dL_areRanks_239 : decode cL_areRanks 239 = .ok (.invokevirtual 9, 3) := by decide +kernel
theorem dL_areRanks_242 : decode cL_areRanks 242 = .ok (.if_icmp .lt 28, 3) := by decide +kernel
theorem dL_areRanks_245 : decode cL_areRanks 245 = .ok (.aload_n 0, 1) := by decide +kernel
theorem dL_areRanks_246 : decode cL_areRanks 246 = .ok (.iload 6, 2) := by decide +kernel
theorem dL_areRanks_248 : decode cL_areRanks 248 = .ok (.iconst 1, 1) := by decide +kernel
theorem dL_areRanks_249 : decode cL_areRanks 249 = .ok (.invokevirtual 9, 3) := by decide +kernel
theorem dL_areRanks_252 : decode cL_areRanks 252 = .ok (.iconst 3, 1) := by decide +kernel
theorem dL_areRanks_253 : decode cL_areRanks 253 = .ok (.if_icmp .le 13, 3) := by decide +kernel
theorem dL_areRanks_256 : decode cL_areRanks 256 = .ok (.aload_n 0, 1) := by decide +kernel
theorem dL_areRanks_257 : decode cL_areRanks 257 = .ok (.iload 6, 2) := by decide +kernel
theorem dL_areRanks_259 : decode cL_areRanks 259 = .ok (.iconst 2, 1) := by decide +kernel
theorem dL_areRanks_260 : decode cL_areRanks 260 = .ok (.invokevirtual 9, 3) := by decide +kernel
theorem dL_areRanks_263 : decode cL_areRanks 263 = .ok (.ifCond .ne 7, 3) := by decide +kernel
theorem dL_areRanks_266 : decode cL_areRanks 266 = .ok (.iconst 1, 1) := by decide +kernel
theorem dL_areRanks_267 : decode cL_areRanks 267 = .ok (.goto 4, 3) := by decide +kernel
theorem dL_areRanks_270 : decode cL_areRanks 270 = .ok (.iconst 0, 1) := by decide +kernel
theorem dL_areRanks_271 : decode cL_areRanks 271 = .ok (.istore 5, 2) := by decide +kernel
theorem dL_areRanks_273 : decode cL_areRanks 273 = .ok (.iinc 6 1, 3) := by decide +kernel
theorem dL_areRanks_276 : decode cL_areRanks 276 = .ok (.goto (-235), 3) := by decide +kernel
theorem dL_areRanks_279 : decode cL_areRanks 279 = .ok (.aload_n 0, 1) := by decide +kernel
theorem dL_areRanks_280 : decode cL_areRanks 280 = .ok (.invokevirtual 36, 3) := by decide +kernel
theorem dL_areRanks_283 : decode cL_areRanks 283 = .ok (.istore 6, 2) := by decide +kernel
theorem dL_areRanks_285 : decode cL_areRanks 285 = .ok (.iconst 0, 1) := by decide +kernel
theorem dL_areRanks_286 : decode cL_areRanks 286 = .ok (.istore 7, 2) := by decide +kernel
theorem dL_areRanks_288 : decode cL_areRanks 288 = .ok (.iload 7, 2) := by decide +kernel
theorem dL_areRanks_290 : decode cL_areRanks 290 = .ok (.iload_n 1, 1) := by decide +kernel
theorem dL_areRanks_291 : decode cL_areRanks 291 = .ok (.if_icmp .ge 94, 3) := by decide +kernel
theorem dL_areRanks_294 : decode cL_areRanks 294 = .ok (.iload 5, 2) := by decide +kernel
theorem dL_areRanks_296 : decode cL_areRanks 296 = .ok (.ifCond .eq 89, 3) := by decide +kernel
theorem dL_areRanks_299 : decode cL_areRanks 299 = .ok (.iconst 1, 1) := by decide +kernel
theorem dL_areRanks_300 : decode cL_areRanks 300 = .ok (.istore 8, 2) := by decide +kernel
theorem dL_areRanks_302 : decode cL_areRanks 302 = .ok (.iconst 0, 1) := by decide +kernel
theorem dL_areRanks_303 : decode cL_areRanks 303 = .ok (.istore 9, 2) := by decide +kernel
theorem dL_areRanks_305 : decode cL_areRanks 305 = .ok (.iload 9, 2) := by decide +kernel
theorem dL_areRanks_307 : decode cL_areRanks 307 = .ok (.iload_n 1, 1) := by decide +kernel
theorem dL_areRanks_308 : decode cL_areRanks 308 = .ok (.if_icmp .ge 44, 3) := by decide +kernel
theorem dL_areRanks_311 : decode cL_areRanks 311 = .ok (.iload 8, 2) := by decide +kernel
theorem dL_areRanks_313 : decode cL_areRanks 313 = .ok (.ifCond .eq 30, 3) := by decide +kernel
theorem dL_areRanks_316 : decode cL_areRanks 316 = .ok (.iload 9, 2) := by decide +kernel
theorem dL_areRanks_318 : decode cL_areRanks 318 = .ok (.iload 7, 2) := by decide +kernel
theorem dL_areRanks_320 : decode cL_areRanks 320 = .ok (.if_icmp .eq 19, 3) := by decide +kernel
theorem dL_areRanks_323 : decode cL_areRanks 323 = .ok (.aload_n 0, 1) := by decide +kernel
theorem dL_areRanks_324 : decode cL_areRanks 324 = .ok (.iload 7, 2) := by decide +kernel
theorem dL_areRanks_326 : decode cL_areRanks 326 = .ok (.invokevirtual 33, 3) := by decide +kernel
theorem dL_areRanks_329 : decode cL_areRanks 329 = .ok (.aload_n 0, 1) := by decide +kernel
theorem dL_areRanks_330 : decode cL_areRanks 330 = .ok (.iload 9, 2) := by decide +kernel
theorem dL_areRanks_332 : decode cL_areRanks 332 = .ok (.iconst 0, 1) := by decide +kernel
theorem dL_areRanks_333 : decode cL_areRanks 333 = .ok (.invokevirtual 9, 3) := by decide +kernel
theorem dL_areRanks_336 : decode cL_areRanks 336 = .ok (.if_icmp .lt 7, 3) := by decide +kernel
theorem dL_areRanks_339 : decode cL_areRanks 339 = .ok (.iconst 1, 1) := by decide +kernel
theorem dL_areRanks_340 : decode cL_areRanks 340 = .ok (.goto 4, 3) := by decide +kernel
theorem dL_areRanks_343 : decode cL_areRanks 343 = .ok (.iconst 0, 1) := by decide +kernel
theorem dL_areRanks_344 : decode cL_areRanks 344 = .ok (.istore 8, 2) := by decide +kernel
theorem dL_areRanks_346 : decode cL_areRanks 346 = .ok (.iinc 9 1, 3) := by decide +kernel
theorem dL_areRanks_349 : decode cL_areRanks 349 = .ok (.goto (-44), 3) := by decide +kernel
theorem dL_areRanks_352 : decode cL_areRanks 352 = .ok (.iload 6, 2) := by decide +kernel
theorem dL_areRanks_354 : decode cL_areRanks 354 = .ok (.iload 7, 2) := by decide +kernel
theorem dL_areRanks_356 : decode cL_areRanks 356 = .ok (.ishr, 1) := by decide +kernel
theorem dL_areRanks_357 : decode cL_areRanks 357 = .ok (.iconst 1, 1) := by decide +kernel
theorem dL_areRanks_358 : decode cL_areRanks 358 = .ok (.iand, 1) := by decide +kernel
theorem dL_areRanks_359 : decode cL_areRanks 359 = .ok (.iload 8, 2) := by decide +kernel
theorem dL_areRanks_361 : decode cL_areRanks 361 = .ok (.ifCond .eq 7, 3) := by decide +kernel
theorem dL_areRanks_364 : decode cL_areRanks 364 = .ok (.iconst 1, 1) := by decide +kernel
theorem dL_areRanks_365 : decode cL_areRanks 365 = .ok (.goto 4, 3) := by decide +kernel
theorem dL_areRanks_368 : decode cL_areRanks 368 = .ok (.iconst 0, 1) := by decide +kernel
theorem dL_areRanks_369 : decode cL_areRanks 369 = .ok (.if_icmp .ne 7, 3) := by decide +kernel
theorem dL_areRanks_372 : decode cL_areRanks 372 = .ok (.iconst 1, 1) := by decide +kernel
theorem dL_areRanks_373 : decode cL_areRanks 373 = .ok (.goto 4, 3) := by decide +kernel
theorem dL_areRanks_376 : decode cL_areRanks 376 = .ok (.iconst 0, 1) := by decide +kernel
theorem dL_areRanks_377 : decode cL_areRanks 377 = .ok (.istore 5, 2) := by decide +kernel
theorem dL_areRanks_379 : decode cL_areRanks 379 = .ok (.iinc 7 1, 3) := by decide +kernel
theorem dL_areRanks_382 : decode cL_areRanks 382 = .ok (.goto (-94), 3) := by decide +kernel
theorem dL_areRanks_385 : decode cL_areRanks 385 = .ok (.iload 5, 2) := by decide +kernel
theorem dL_areRanks_387 : decode cL_areRanks 387 = .ok (.ifCond .eq 73, 3) := by decide +kernel
theorem dL_areRanks_390 : decode cL_areRanks 390 = .ok (.iload_n 1, 1) := by decide +kernel
theorem dL_areRanks_391 : decode cL_areRanks 391 = .ok (.ifCond .eq 12, 3) := by decide +kernel
theorem dL_areRanks_394 : decode cL_areRanks 394 = .ok (.iload_n 2, 1) := by decide +kernel
theorem dL_areRanks_395 : decode cL_areRanks 395 = .ok (.aload_n 0, 1) := by decide +kernel
theorem dL_areRanks_396 : decode cL_areRanks 396 = .ok (.iconst 3, 1) := by decide +kernel
theorem dL_areRanks_397 : decode cL_areRanks 397 = .ok (.invokevirtual 15, 3) := by decide +kernel
theorem dL_areRanks_400 : decode cL_areRanks 400 = .ok (.if_icmp .ne 60, 3) := by decide +kernel
theorem dL_areRanks_403 : decode cL_areRanks 403 = .ok (.iload_n 3, 1) := by decide +kernel
theorem dL_areRanks_404 : decode cL_areRanks 404 = .ok (.aload_n 0, 1) := by decide +kernel
theorem dL_areRanks_405 : decode cL_areRanks 405 = .ok (.iconst 1, 1) := by decide +kernel
theorem dL_areRanks_406 : decode cL_areRanks 406 = .ok (.invokevirtual 15, 3) := by decide +kernel
theorem dL_areRanks_409 : decode cL_areRanks 409 = .ok (.if_icmp .ne 51, 3) := by decide +kernel
theorem dL_areRanks_412 : decode cL_areRanks 412 = .ok (.iload 4, 2) := by decide +kernel
theorem dL_areRanks_414 : decode cL_areRanks 414 = .ok (.iconst 1, 1) := by decide +kernel
theorem dL_areRanks_415 : decode cL_areRanks 415 = .ok (.iload_n 1, 1) := by decide +kernel
theorem dL_areRanks_416 : decode cL_areRanks 416 = .ok (.ishl, 1) := by decide +kernel
theorem dL_areRanks_417 : decode cL_areRanks 417 = .ok (.iconst 1, 1) := by decide +kernel
theorem dL_areRanks_418 : decode cL_areRanks 418 = .ok (.isub, 1) := by decide +kernel
theorem dL_areRanks_419 : decode cL_areRanks 419 = .ok (.if_icmp .ne 41, 3) := by decide +kernel
theorem dL_areRanks_422 : decode cL_areRanks 422 = .ok (.aload_n 0, 1) := by decide +kernel
theorem dL_areRanks_423 : decode cL_areRanks 423 = .ok (.iconst 2, 1) := by decide +kernel
theorem dL_areRanks_424 : decode cL_areRanks 424 = .ok (.invokevirtual 15, 3) := by decide +kernel
theorem dL_areRanks_427 : decode cL_areRanks 427 = .ok (.iload_n 3, 1) := by decide +kernel
theorem dL_areRanks_428 : decode cL_areRanks 428 = .ok (.aload_n 0, 1) := by decide +kernel
theorem dL_areRanks_429 : decode cL_areRanks 429 = .ok (.bipush 10, 2) := by decide +kernel
theorem dL_areRanks_431 : decode cL_areRanks 431 = .ok (.invokevirtual 15, 3) := by decide +kernel
theorem dL_areRanks_434 : decode cL_areRanks 434 = .ok (.imul, 1) := by decide +kernel
theorem dL_areRanks_435 : decode cL_areRanks 435 = .ok (.bipush 100, 2) := by decide +kernel
theorem dL_areRanks_437 : decode cL_areRanks 437 = .ok (.idiv, 1) := by decide +kernel
theorem dL_areRanks_438 : decode cL_areRanks 438 = .ok (.if_icmp .ne 22, 3) := by decide +kernel
theorem dL_areRanks_441 : decode cL_areRanks 441 = .ok (.aload_n 0, 1) := by decide +kernel
theorem dL_areRanks_442 : decode cL_areRanks 442 = .ok (.iconst 3, 1) := by decide +kernel
theorem dL_areRanks_443 : decode cL_areRanks 443 = .ok (.invokevirtual 15, 3) := by decide +kernel
theorem dL_areRanks_446 : decode cL_areRanks 446 = .ok (.iload_n 3, 1) := by decide +kernel
theorem dL_areRanks_447 : decode cL_areRanks 447 = .ok (.aload_n 0, 1) := by decide +kernel
theorem dL_areRanks_448 : decode cL_areRanks 448 = .ok (.iconst 2, 1) := by decide +kernel
theorem dL_areRanks_449 : decode cL_areRanks 449 = .ok (.invokevirtual 15, 3) := by decide +kernel
theorem dL_areRanks_452 : decode cL_areRanks 452 = .ok (.isub, 1) := by decide +kernel
theorem dL_areRanks_453 : decode cL_areRanks 453 = .ok (.if_icmp .ne 7, 3) := by decide +kernel
theorem dL_areRanks_456 : decode cL_areRanks 456 = .ok (.iconst 1, 1) := by decide +kernel
theorem dL_areRanks_457 : decode cL_areRanks 457 = .ok (.goto 4, 3) := by decide +kernel
theorem dL_areRanks_460 : decode cL_areRanks 460 = .ok (.iconst 0, 1) := by decide +kernel
theorem dL_areRanks_461 : decode cL_areRanks 461 = .ok (.ireturn, 1) := by decide +kernel
set_option maxRecDepth 20000 in
theorem ggL_tells_X4_wipe : GoodIn wsL_tells wsX4_wipe := goodIn_r _ [6, 7, 8, 9, 10, 11, 12, 13, 14, 15, 16, 17, 45, 46, 47, 48, 49, 50, 51] (by decide +kernel) (by decide +kernel)
set_option maxRecDepth 20000 in
theorem gL_tells_X4_wipe : GoodIn wsL_tells (wsV RL 53 RX4 yX4_wipe wsX4_wipe) := goodIn_app (goodIn_of _ (by decide +kernel)) ggL_tells_X4_wipe
set_option maxRecDepth 20000 in
theorem ggL_tells_X4_put : GoodIn wsL_tells wsX4_put := goodIn_r _ [21, 7, 22, 23, 11, 24, 25, 26, 27, 28, 29, 13, 30, 8, 9, 10, 12, 45, 46, 47, 48, 49, 50, 51] (by decide +kernel) (by decide +kernel)
set_option maxRecDepth 20000 in
theorem gL_tells_X4_put : GoodIn wsL_tells (wsV RL 58 RX4 yX4_put wsX4_put) := goodIn_app (goodIn_of _ (by decide +kernel)) ggL_tells_X4_put
set_option maxRecDepth 20000 in
theorem ggL_tells_X4_fault : GoodIn wsL_tells wsX4_fault := goodIn_r _ [34, 7, 35, 36, 37, 11, 38, 13, 30, 39, 40, 41, 42, 43, 44, 45, 46, 47, 48, 49, 50, 51] (by decide +kernel) (by decide +kernel)
set_option maxRecDepth 20000 in
theorem gL_tells_X4_fault : GoodIn wsL_tells (wsV RL 62 RX4 yX4_fault wsX4_fault) := goodIn_app (goodIn_of _ (by decide +kernel)) ggL_tells_X4_fault
theorem dL_tells_0 : decode cL_tells 0 = .ok (.aload_n 0, 1) := by decide +kernel
theorem dL_tells_1 : decode cL_tells 1 = .ok (.invokevirtual 53, 3) := by decide +kernel
theorem dL_tells_4 : decode cL_tells 4 = .ok (.ifCond .lt 7, 3) := by decide +kernel
theorem dL_tells_7 : decode cL_tells 7 = .ok (.iconst 1, 1) := by decide +kernel
theorem dL_tells_8 : decode cL_tells 8 = .ok (.goto 4, 3) := by decide +kernel
theorem dL_tells_11 : decode cL_tells 11 = .ok (.iconst 0, 1) := by decide +kernel
theorem dL_tells_12 : decode cL_tells 12 = .ok (.istore_n 3, 1) := by decide +kernel
theorem dL_tells_13 : decode cL_tells 13 = .ok (.iconst 0, 1) := by decide +kernel
theorem dL_tells_14 : decode cL_tells 14 = .ok (.istore 4, 2) := by decide +kernel
theorem dL_tells_16 : decode cL_tells 16 = .ok (.iload 4, 2) := by decide +kernel
theorem dL_tells_18 : decode cL_tells 18 = .ok (.bipush 10, 2) := by decide +kernel
theorem dL_tells_20 : decode cL_tells 20 = .ok (.if_icmp .ge 72, 3) := by decide +kernel
theorem dL_tells_23 : decode cL_tells 23 = .ok (.iload_n 3, 1) := by decide +kernel
theorem dL_tells_24 : decode cL_tells 24 = .ok (.ifCond .eq 68, 3) := by decide +kernel
theorem dL_tells_27 : decode cL_tells 27 = .ok (.iload_n 1, 1) := by decide +kernel
theorem dL_tells_28 : decode cL_tells 28 = .ok (.iconst 2, 1) := by decide +kernel
theorem dL_tells_29 : decode cL_tells 29 = .ok (.iload 4, 2) := by decide +kernel
theorem dL_tells_31 : decode cL_tells 31 = .ok (.imul, 1) := by decide +kernel
theorem dL_tells_32 : decode cL_tells 32 = .ok (.ishr, 1) := by decide +kernel
theorem dL_tells_33 : decode cL_tells 33 = .ok (.iconst 4, 1) := by decide +kernel
theorem dL_tells_34 : decode cL_tells 34 = .ok (.irem, 1) := by decide +kernel
theorem dL_tells_35 : decode cL_tells 35 = .ok (.istore 5, 2) := by decide +kernel
theorem dL_tells_37 : decode cL_tells 37 = .ok (.aload_n 0, 1) := by decide +kernel
theorem dL_tells_38 : decode cL_tells 38 = .ok (.iload_n 2, 1) := by decide +kernel
theorem dL_tells_39 : decode cL_tells 39 = .ok (.ifCond .ne 23, 3) := by decide +kernel
theorem dL_tells_42 : decode cL_tells 42 = .ok (.iload 5, 2) := by decide +kernel
theorem dL_tells_44 : decode cL_tells 44 = .ok (.iconst 3, 1) := by decide +kernel
theorem dL_tells_45 : decode cL_tells 45 = .ok (.if_icmp .ne 17, 3) := by decide +kernel
theorem dL_tells_48 : decode cL_tells 48 = .ok (.iload 4, 2) := by decide +kernel
theorem dL_tells_50 : decode cL_tells 50 = .ok (.iconst 2, 1) := by decide +kernel
theorem dL_tells_51 : decode cL_tells 51 = .ok (.irem, 1) := by decide +kernel
theorem dL_tells_52 : decode cL_tells 52 = .ok (.iconst 1, 1) := by decide +kernel
theorem dL_tells_53 : decode cL_tells 53 = .ok (.if_icmp .ne 9, 3) := by decide +kernel
theorem dL_tells_56 : decode cL_tells 56 = .ok (.ldc2_w 56, 3) := by decide +kernel
theorem dL_tells_59 : decode cL_tells 59 = .ok (.goto 11, 3) := by decide +kernel
theorem dL_tells_62 : decode cL_tells 62 = .ok (.bipush 48, 2) := by decide +kernel
theorem dL_tells_64 : decode cL_tells 64 = .ok (.iload 5, 2) := by decide +kernel
theorem dL_tells_66 : decode cL_tells 66 = .ok (.iconst 3, 1) := by decide +kernel
theorem dL_tells_67 : decode cL_tells 67 = .ok (.irem, 1) := by decide +kernel
theorem dL_tells_68 : decode cL_tells 68 = .ok (.iadd, 1) := by decide +kernel
theorem dL_tells_69 : decode cL_tells 69 = .ok (.i2l, 1) := by decide +kernel
theorem dL_tells_70 : decode cL_tells 70 = .ok (.invokevirtual 58, 3) := by decide +kernel
theorem dL_tells_73 : decode cL_tells 73 = .ok (.iload 4, 2) := by decide +kernel
theorem dL_tells_75 : decode cL_tells 75 = .ok (.iconst 1, 1) := by decide +kernel
theorem dL_tells_76 : decode cL_tells 76 = .ok (.iadd, 1) := by decide +kernel
theorem dL_tells_77 : decode cL_tells 77 = .ok (.if_icmp .ne 7, 3) := by decide +kernel
theorem dL_tells_80 : decode cL_tells 80 = .ok (.iconst 1, 1) := by decide +kernel
theorem dL_tells_81 : decode cL_tells 81 = .ok (.goto 4, 3) := by decide +kernel
theorem dL_tells_84 : decode cL_tells 84 = .ok (.iconst 0, 1) := by decide +kernel
theorem dL_tells_85 : decode cL_tells 85 = .ok (.istore_n 3, 1) := by decide +kernel
theorem dL_tells_86 : decode cL_tells 86 = .ok (.iinc 4 1, 3) := by decide +kernel
theorem dL_tells_89 : decode cL_tells 89 = .ok (.goto (-73), 3) := by decide +kernel
theorem dL_tells_92 : decode cL_tells 92 = .ok (.iload_n 3, 1) := by decide +kernel
theorem dL_tells_93 : decode cL_tells 93 = .ok (.ifCond .eq 16, 3) := by decide +kernel
theorem dL_tells_96 : decode cL_tells 96 = .ok (.aload_n 0, 1) := by decide +kernel
theorem dL_tells_97 : decode cL_tells 97 = .ok (.invokevirtual 62, 3) := by decide +kernel
theorem dL_tells_100 : decode cL_tells 100 = .ok (.bipush (-6), 2) := by decide +kernel
theorem dL_tells_102 : decode cL_tells 102 = .ok (.if_icmp .ne 7, 3) := by decide +kernel
theorem dL_tells_105 : decode cL_tells 105 = .ok (.iconst 1, 1) := by decide +kernel
theorem dL_tells_106 : decode cL_tells 106 = .ok (.goto 4, 3) := by decide +kernel
theorem dL_tells_109 : decode cL_tells 109 = .ok (.iconst 0, 1) := by decide +kernel
theorem dL_tells_110 : decode cL_tells 110 = .ok (.ireturn, 1) := by decide +kernel
