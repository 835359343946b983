set_option maxRecDepth 20000 in
theorem ggL_areSheets_X4_count : GoodIn wsL_areSheets wsX4_count := goodIn_r _ [5, 6, 7, 8, 9, 10, 11, 12, 13, 14, 15, 16, 17, 18, 19, 20, 21, 22, 23, 24, 25, 26, 27, 28, 29, 30, 31, 32, 33, 34, 35, 36, 37, 38, 39, 40, 41, 42, 43, 44, 45, 46, 47, 48, 49, 50, 51, 52, 53, 54, 55, 56, 57, 58, 59, 60, 61, 62, 63, 64, 65, 66, 67, 68, 69, 70, 71, 72, 73, 74, 75, 4, 76, 77, 78, 79, 80, 81, 82, 83, 84, 85, 86, 87, 88, 89, 90, 91, 92, 93, 243, 244, 245, 246, 247, 248, 249, 250, 251, 252, 253, 254, 255, 256, 257, 258, 259, 260, 261, 262, 263, 264] (by decide +kernel) (by decide +kernel)
set_option maxRecDepth 20000 in
theorem gL_areSheets_X4_count : GoodIn wsL_areSheets (wsV RL 15 RX4 yX4_count wsX4_count) := goodIn_app (goodIn_of _ (by decide +kernel)) ggL_areSheets_X4_count
set_option maxRecDepth 20000 in
theorem ggL_areSheets_X4_ofTeam : GoodIn wsL_areSheets wsX4_ofTeam := goodIn_r _ [97, 6, 98, 99, 100, 101, 102, 103, 104, 15, 105, 17, 106, 66, 67, 68, 23, 44, 69, 70, 71, 72, 73, 74, 75, 4, 76, 77, 78, 79, 80, 81, 107, 108, 109, 110, 111, 112, 113, 114, 65, 115, 116, 117, 118, 119, 120, 121, 122, 123, 124, 125, 126, 127, 128, 129, 130, 131, 132, 133, 50, 51, 52, 53, 54, 55, 56, 134, 135, 136, 137, 138, 26, 27, 28, 24, 13, 14, 16, 18, 29, 20, 21, 22, 139, 140, 141, 142, 143, 144, 145, 146, 147, 148, 149, 150, 39, 151, 152, 153, 154, 155, 156, 157, 158, 159, 160, 161, 162, 163, 243, 244, 245, 246, 247, 248, 249, 250, 251, 252, 253, 254, 255, 256, 257, 258, 259] (by decide +kernel) (by decide +kernel)
set_option maxRecDepth 20000 in
theorem gL_areSheets_X4_ofTeam : GoodIn wsL_areSheets (wsV RL 9 RX4 yX4_ofTeam wsX4_ofTeam) := goodIn_app (goodIn_of _ (by decide +kernel)) ggL_areSheets_X4_ofTeam
set_option maxRecDepth 20000 in
theorem ggL_areSheets_X4_sheet : GoodIn wsL_areSheets wsX4_sheet := goodIn_r _ [167, 6, 102, 103, 104, 15, 105, 17, 168, 169, 4, 170, 171, 147, 148, 149, 150, 39, 75, 76, 172, 156, 157, 158, 159, 160, 161, 162, 73, 173, 174, 175, 176, 74, 177, 178, 70, 71, 72, 77, 78, 79, 80, 81, 179, 35, 36, 37, 38, 180, 181, 182, 183, 23, 184, 185, 186, 187, 188, 189, 190, 191, 243, 244, 245, 246, 247, 248, 249, 250, 251, 252, 253, 254, 255, 256, 257, 258, 259] (by decide +kernel) (by decide +kernel)
set_option maxRecDepth 20000 in
theorem gL_areSheets_X4_sheet : GoodIn wsL_areSheets (wsV RL 40 RX4 yX4_sheet wsX4_sheet) := goodIn_app (goodIn_of _ (by decide +kernel)) ggL_areSheets_X4_sheet
set_option maxRecDepth 20000 in
theorem ggL_areSheets_X4_ofRound : GoodIn wsL_areSheets wsX4_ofRound := goodIn_r _ [195, 6, 196, 7, 168, 169, 4, 170, 179, 35, 36, 15, 37, 38, 39, 197, 198, 199, 200, 17, 146, 147, 148, 149, 150, 75, 76, 201, 202, 203, 204, 81, 205, 206, 207, 208, 155, 156, 157, 158, 159, 160, 161, 162, 73, 209, 210, 211, 212, 213, 214, 123, 215, 69, 70, 71, 72, 74, 77, 78, 79, 80, 243, 244, 245, 246, 247, 248, 249, 250, 251, 252, 253, 254, 255, 256, 257, 258, 259] (by decide +kernel) (by decide +kernel)
set_option maxRecDepth 20000 in
theorem gL_areSheets_X4_ofRound : GoodIn wsL_areSheets (wsV RL 44 RX4 yX4_ofRound wsX4_ofRound) := goodIn_app (goodIn_of _ (by decide +kernel)) ggL_areSheets_X4_ofRound
set_option maxRecDepth 20000 in
theorem ggL_areSheets_X4_bestJoker : GoodIn wsL_areSheets wsX4_bestJoker := goodIn_r _ [219, 6, 102, 103, 104, 15, 105, 17, 220, 221, 222, 223, 224, 225, 226, 227, 23, 44, 155, 156, 157, 158, 159, 160, 161, 162, 73, 75, 4, 76, 228, 174, 175, 176, 74, 229, 243, 244, 245, 246, 247, 248, 249, 250, 251, 252, 253, 254, 255, 256, 257, 258, 259] (by decide +kernel) (by decide +kernel)
set_option maxRecDepth 20000 in
theorem gL_areSheets_X4_bestJoker : GoodIn wsL_areSheets (wsV RL 47 RX4 yX4_bestJoker wsX4_bestJoker) := goodIn_app (goodIn_of _ (by decide +kernel)) ggL_areSheets_X4_bestJoker
set_option maxRecDepth 20000 in
theorem ggL_areSheets_X4_wrongMarks : GoodIn wsL_areSheets wsX4_wrongMarks := goodIn_r _ [233, 6, 7, 234, 235, 236, 15, 237, 155, 156, 157, 158, 159, 160, 161, 162, 73, 75, 4, 76, 238, 239, 240, 241, 49, 228, 174, 175, 176, 74, 242, 181, 182, 183, 150, 38, 23, 184, 185, 186, 187, 243, 244, 245, 246, 247, 248, 249, 250, 251, 252, 253, 254, 255, 256, 257, 258, 259] (by decide +kernel) (by decide +kernel)
set_option maxRecDepth 20000 in
theorem gL_areSheets_X4_wrongMarks : GoodIn wsL_areSheets (wsV RL 50 RX4 yX4_wrongMarks wsX4_wrongMarks) := goodIn_app (goodIn_of _ (by decide +kernel)) ggL_areSheets_X4_wrongMarks
theorem dL_areSheets_0 : decode cL_areSheets 0 = .ok (.iconst 0, 1) := by decide +kernel
theorem dL_areSheets_1 : decode cL_areSheets 1 = .ok (.istore_n 1, 1) := by decide +kernel
theorem dL_areSheets_2 : decode cL_areSheets 2 = .ok (.iconst 0, 1) := by decide +kernel
theorem dL_areSheets_3 : decode cL_areSheets 3 = .ok (.istore_n 2, 1) := by decide +kernel
theorem dL_areSheets_4 : decode cL_areSheets 4 = .ok (.iconst 1, 1) := by decide +kernel
theorem dL_areSheets_5 : decode cL_areSheets 5 = .ok (.istore_n 3, 1) := by decide +kernel
theorem dL_areSheets_6 : decode cL_areSheets 6 = .ok (.iconst 0, 1) := by decide +kernel
theorem dL_areSheets_7 : decode cL_areSheets 7 = .ok (.istore 4, 2) := by decide +kernel
theorem dL_areSheets_9 : decode cL_areSheets 9 = .ok (.iload 4, 2) := by decide +kernel
theorem dL_areSheets_11 : decode cL_areSheets 11 = .ok (.aload_n 0, 1) := by decide +kernel
theorem dL_areSheets_12 : decode cL_areSheets 12 = .ok (.iconst 0, 1) := by decide +kernel
theorem dL_areSheets_13 : decode cL_areSheets 13 = .ok (.invokevirtual 15, 3) := by decide +kernel
theorem dL_areSheets_16 : decode cL_areSheets 16 = .ok (.if_icmp .ge 491, 3) := by decide +kernel
theorem dL_areSheets_19 : decode cL_areSheets 19 = .ok (.iload_n 3, 1) := by decide +kernel
theorem dL_areSheets_20 : decode cL_areSheets 20 = .ok (.ifCond .eq 487, 3) := by decide +kernel
theorem dL_areSheets_23 : decode cL_areSheets 23 = .ok (.sipush 1000, 3) := by decide +kernel
theorem dL_areSheets_26 : decode cL_areSheets 26 = .ok (.aload_n 0, 1) := by decide +kernel
theorem dL_areSheets_27 : decode cL_areSheets 27 = .ok (.bipush 12, 2) := by decide +kernel
theorem dL_areSheets_29 : decode cL_areSheets 29 = .ok (.invokevirtual 15, 3) := by decide +kernel
theorem dL_areSheets_32 : decode cL_areSheets 32 = .ok (.aload_n 0, 1) := by decide +kernel
theorem dL_areSheets_33 : decode cL_areSheets 33 = .ok (.iload 4, 2) := by decide +kernel
theorem dL_areSheets_35 : decode cL_areSheets 35 = .ok (.iconst 4, 1) := by decide +kernel
theorem dL_areSheets_36 : decode cL_areSheets 36 = .ok (.invokevirtual 9, 3) := by decide +kernel
theorem dL_areSheets_39 : decode cL_areSheets 39 = .ok (.imul, 1) := by decide +kernel
theorem dL_areSheets_40 : decode cL_areSheets 40 = .ok (.isub, 1) := by decide +kernel
theorem dL_areSheets_41 : decode cL_areSheets 41 = .ok (.istore 5, 2) := by decide +kernel
theorem dL_areSheets_43 : decode cL_areSheets 43 = .ok (.iconst 0, 1) := by decide +kernel
theorem dL_areSheets_44 : decode cL_areSheets 44 = .ok (.istore 6, 2) := by decide +kernel
theorem dL_areSheets_46 : decode cL_areSheets 46 = .ok (.iconst 0, 1) := by decide +kernel
theorem dL_areSheets_47 : decode cL_areSheets 47 = .ok (.istore 7, 2) := by decide +kernel
theorem dL_areSheets_49 : decode cL_areSheets 49 = .ok (.iconst 0, 1) := by decide +kernel
theorem dL_areSheets_50 : decode cL_areSheets 50 = .ok (.istore 8, 2) := by decide +kernel
theorem dL_areSheets_52 : decode cL_areSheets 52 = .ok (.iload 8, 2) := by decide +kernel
theorem dL_areSheets_54 : decode cL_areSheets 54 = .ok (.bipush 8, 2) := by decide +kernel
theorem dL_areSheets_56 : decode cL_areSheets 56 = .ok (.if_icmp .ge 358, 3) := by decide +kernel
theorem dL_areSheets_59 : decode cL_areSheets 59 = .ok (.iload_n 3, 1) := by decide +kernel
theorem dL_areSheets_60 : decode cL_areSheets 60 = .ok (.ifCond .eq 354, 3) := by decide +kernel
theorem dL_areSheets_63 : decode cL_areSheets 63 = .ok (.aload_n 0, 1) := by decide +kernel
theorem dL_areSheets_64 : decode cL_areSheets 64 = .ok (.iload 4, 2) := by decide +kernel
theorem dL_areSheets_66 : decode cL_areSheets 66 = .ok (.iload 8, 2) := by decide +kernel
theorem dL_areSheets_68 : decode cL_areSheets 68 = .ok (.iconst 4, 1) := by decide +kernel
theorem dL_areSheets_69 : decode cL_areSheets 69 = .ok (.invokevirtual 40, 3) := by decide +kernel
theorem dL_areSheets_72 : decode cL_areSheets 72 = .ok (.istore 9, 2) := by decide +kernel
theorem dL_areSheets_74 : decode cL_areSheets 74 = .ok (.aload_n 0, 1) := by decide +kernel
theorem dL_areSheets_75 : decode cL_areSheets 75 = .ok (.iload 4, 2) := by decide +kernel
theorem dL_areSheets_77 : decode cL_areSheets 77 = .ok (.iload 8, 2) := by decide +kernel
theorem dL_areSheets_79 : decode cL_areSheets 79 = .ok (.iconst 0, 1) := by decide +kernel
theorem dL_areSheets_80 : decode cL_areSheets 80 = .ok (.invokevirtual 40, 3) := by decide +kernel
theorem dL_areSheets_83 : decode cL_areSheets 83 = .ok (.istore 10, 2) := by decide +kernel
theorem dL_areSheets_85 : decode cL_areSheets 85 = .ok (.aload_n 0, 1) := by decide +kernel
theorem dL_areSheets_86 : decode cL_areSheets 86 = .ok (.iload 4, 2) := by decide +kernel
theorem dL_areSheets_88 : decode cL_areSheets 88 = .ok (.iload 8, 2) := by decide +kernel
theorem dL_areSheets_90 : decode cL_areSheets 90 = .ok (.iconst 3, 1) := by decide +kernel
theorem dL_areSheets_91 : decode cL_areSheets 91 = .ok (.invokevirtual 40, 3) := by decide +kernel
theorem dL_areSheets_94 : decode cL_areSheets 94 = .ok (.istore 11, 2) := by decide +kernel
theorem dL_areSheets_96 : decode cL_areSheets 96 = .ok (.iload 9, 2) := by decide +kernel
theorem dL_areSheets_98 : decode cL_areSheets 98 = .ok (.ifCond .ge 7, 3) := by decide +kernel
theorem dL_areSheets_101 : decode cL_areSheets 101 = .ok (.iconst 0, 1) := by decide +kernel
theorem dL_areSheets_102 : decode cL_areSheets 102 = .ok (.goto 15, 3) := by decide +kernel
theorem dL_areSheets_105 : decode cL_areSheets 105 = .ok (.aload_n 0, 1) := by decide +kernel
theorem dL_areSheets_106 : decode cL_areSheets 106 = .ok (.iload 4, 2) := by decide +kernel
theorem dL_areSheets_108 : decode cL_areSheets 108 = .ok (.iload 8, 2) := by decide +kernel
theorem dL_areSheets_110 : decode cL_areSheets 110 = .ok (.iconst 2, 1) := by decide +kernel
theorem dL_areSheets_111 : decode cL_areSheets 111 = .ok (.invokevirtual 40, 3) := by decide +kernel
theorem dL_areSheets_114 : decode cL_areSheets 114 = .ok (.bipush 100, 2) := by decide +kernel
theorem dL_areSheets_116 : decode cL_areSheets 116 = .ok (.isub, 1) := by decide +kernel
theorem dL_areSheets_117 : decode cL_areSheets 117 = .ok (.istore 12, 2) := by decide +kernel
theorem dL_areSheets_119 : decode cL_areSheets 119 = .ok (.aload_n 0, 1) := by decide +kernel
theorem dL_areSheets_120 : decode cL_areSheets 120 = .ok (.iload 8, 2) := by decide +kernel
theorem dL_areSheets_122 : decode cL_areSheets 122 = .ok (.iconst 3, 1) := by decide +kernel
theorem dL_areSheets_123 : decode cL_areSheets 123 = .ok (.invokevirtual 44, 3) := by decide +kernel
theorem dL_areSheets_126 : decode cL_areSheets 126 = .ok (.iload 4, 2) := by decide +kernel
theorem dL_areSheets_128 : decode cL_areSheets 128 = .ok (.ishr, 1) := by decide +kernel
theorem dL_areSheets_129 : decode cL_areSheets 129 = .ok (.iconst 1, 1) := by decide +kernel
theorem dL_areSheets_130 : decode cL_areSheets 130 = .ok (.iand, 1) := by decide +kernel
theorem dL_areSheets_131 : decode cL_areSheets 131 = .ok (.iconst 1, 1) := by decide +kernel
theorem dL_areSheets_132 : decode cL_areSheets 132 = .ok (.if_icmp .ne 7, 3) := by decide +kernel
theorem dL_areSheets_135 : decode cL_areSheets 135 = .ok (.iconst 1, 1) := by decide +kernel
theorem dL_areSheets_136 : decode cL_areSheets 136 = .ok (.goto 4, 3) := by decide +kernel
theorem dL_areSheets_139 : decode cL_areSheets 139 = .ok (.iconst 0, 1) := by decide +kernel
theorem dL_areSheets_140 : decode cL_areSheets 140 = .ok (.istore 13, 2) := by decide +kernel
theorem dL_areSheets_142 : decode cL_areSheets 142 = .ok (.aload_n 0, 1) := by decide +kernel
theorem dL_areSheets_143 : decode cL_areSheets 143 = .ok (.iload 8, 2) := by decide +kernel
theorem dL_areSheets_145 : decode cL_areSheets 145 = .ok (.iconst 4, 1) := by decide +kernel
theorem dL_areSheets_146 : decode cL_areSheets 146 = .ok (.invokevirtual 44, 3) := by decide +kernel
theorem dL_areSheets_149 : decode cL_areSheets 149 = .ok (.iload 4, 2) := by decide +kernel
theorem dL_areSheets_151 : decode cL_areSheets 151 = .ok (.ishr, 1) := by decide +kernel
theorem dL_areSheets_152 : decode cL_areSheets 152 = .ok (.iconst 1, 1) := by decide +kernel
theorem dL_areSheets_153 : decode cL_areSheets 153 = .ok (.iand, 1) := by decide +kernel
theorem dL_areSheets_154 : decode cL_areSheets 154 = .ok (.iconst 1, 1) := by decide +kernel
theorem dL_areSheets_155 : decode cL_areSheets 155 = .ok (.if_icmp .ne 7, 3) := by decide +kernel
theorem dL_areSheets_158 : decode cL_areSheets 158 = .ok (.iconst 1, 1) := by decide +kernel
theorem dL_areSheets_159 : decode cL_areSheets 159 = .ok (.goto 4, 3) := by decide +kernel
theorem dL_areSheets_162 : decode cL_areSheets 162 = .ok (.iconst 0, 1) := by decide +kernel
theorem dL_areSheets_163 : decode cL_areSheets 163 = .ok (.istore 14, 2) := by decide +kernel
theorem dL_areSheets_165 : decode cL_areSheets 165 = .ok (.aload_n 0, 1) := by decide +kernel
theorem dL_areSheets_166 : decode cL_areSheets 166 = .ok (.iload 4, 2) := by decide +kernel
theorem dL_areSheets_168 : decode cL_areSheets 168 = .ok (.iconst 3, 1) := by decide +kernel
theorem dL_areSheets_169 : decode cL_areSheets 169 = .ok (.invokevirtual 9, 3) := by decide +kernel
theorem dL_areSheets_172 : decode cL_areSheets 172 = .ok (.iload 8, 2) := by decide +kernel
theorem dL_areSheets_174 : decode cL_areSheets 174 = .ok (.if_icmp .ne 7, 3) := by decide +kernel
theorem dL_areSheets_177 : decode cL_areSheets 177 = .ok (.iconst 2, 1) := by decide +kernel
theorem dL_areSheets_178 : decode cL_areSheets 178 = .ok (.goto 4, 3) := by decide +kernel
theorem dL_areSheets_181 : decode cL_areSheets 181 = .ok (.iconst 1, 1) := by decide +kernel
theorem dL_areSheets_182 : decode cL_areSheets 182 = .ok (.istore 15, 2) := by decide +kernel
theorem dL_areSheets_184 : decode cL_areSheets 184 = .ok (.iload 6, 2) := by decide +kernel
theorem dL_areSheets_186 : decode cL_areSheets 186 = .ok (.iload 9, 2) := by decide +kernel
theorem dL_areSheets_188 : decode cL_areSheets 188 = .ok (.ifCond .lt 10, 3) := by decide +kernel
theorem dL_areSheets_191 : decode cL_areSheets 191 = .ok (.iconst 1, 1) := by decide +kernel
theorem dL_areSheets_192 : decode cL_areSheets 192 = .ok (.iload 8, 2) := by decide +kernel
theorem dL_areSheets_194 : decode cL_areSheets 194 = .ok (.ishl, 1) := by decide +kernel
theorem dL_areSheets_195 : decode cL_areSheets 195 = .ok (.goto 4, 3) := by decide +kernel
theorem dL_areSheets_198 : decode cL_areSheets 198 = .ok (.iconst 0, 1) := by decide +kernel
theorem dL_areSheets_199 : decode cL_areSheets 199 = .ok (.ior, 1) := by decide +kernel
theorem dL_areSheets_200 : decode cL_areSheets 200 = .ok (.istore 6, 2) := by decide +kernel
theorem dL_areSheets_202 : decode cL_areSheets 202 = .ok (.iload 7, 2) := by decide +kernel
theorem dL_areSheets_204 : decode cL_areSheets 204 = .ok (.iload 13, 2) := by decide +kernel
theorem dL_areSheets_206 : decode cL_areSheets 206 = .ok (.ifCond .eq 10, 3) := by decide +kernel
theorem dL_areSheets_209 : decode cL_areSheets 209 = .ok (.iconst 1, 1) := by decide +kernel
theorem dL_areSheets_210 : decode cL_areSheets 210 = .ok (.iload 8, 2) := by decide +kernel
theorem dL_areSheets_212 : decode cL_areSheets 212 = .ok (.ishl, 1) := by decide +kernel
theorem dL_areSheets_213 : decode cL_areSheets 213 = .ok (.goto 4, 3) := by decide +kernel
theorem dL_areSheets_216 : decode cL_areSheets 216 = .ok (.iconst 0, 1) := by decide +kernel
theorem dL_areSheets_217 : decode cL_areSheets 217 = .ok (.ior, 1) := by decide +kernel
theorem dL_areSheets_218 : decode cL_areSheets 218 = .ok (.istore 7, 2) := by decide +kernel
theorem dL_areSheets_220 : decode cL_areSheets 220 = .ok (.iload 5, 2) := by decide +kernel
theorem dL_areSheets_222 : decode cL_areSheets 222 = .ok (.iload 12, 2) := by decide +kernel
theorem dL_areSheets_224 : decode cL_areSheets 224 = .ok (.iadd, 1) := by decide +kernel
theorem dL_areSheets_225 : decode cL_areSheets 225 = .ok (.istore 5, 2) := by decide +kernel
theorem dL_areSheets_227 : decode cL_areSheets 227 = .ok (.iload_n 1, 1) := by decide +kernel
theorem dL_areSheets_228 : decode cL_areSheets 228 = .ok (.iload 13, 2) := by decide +kernel
theorem dL_areSheets_230 : decode cL_areSheets 230 = .ok (.ifCond .eq 19, 3) := by decide +kernel
theorem dL_areSheets_233 : decode cL_areSheets 233 = .ok (.iload 14, 2) := by decide +kernel
theorem dL_areSheets_235 : decode cL_areSheets 235 = .ok (.ifCond .ne 14, 3) := by decide +kernel
theorem dL_areSheets_238 : decode cL_areSheets 238 = .ok (.iload 10, 2) := by decide +kernel
theorem dL_areSheets_240 : decode cL_areSheets 240 = .ok (.iload 11, 2) := by decide +kernel
theorem dL_areSheets_242 : decode cL_areSheets 242 = .ok (.if_icmp .eq 7, 3) := by decide +kernel
theorem dL_areSheets_245 : decode cL_areSheets 245 = .ok (.iconst 1, 1) := by decide +kernel
theorem dL_areSheets_246 : decode cL_areSheets 246 = .ok (.goto 4, 3) := by decide +kernel
theorem dL_areSheets_249 : decode cL_areSheets 249 = .ok (.iconst 0, 1) := by decide +kernel
theorem dL_areSheets_250 : decode cL_areSheets 250 = .ok (.iadd, 1) := by decide +kernel
theorem dL_areSheets_251 : decode cL_areSheets 251 = .ok (.istore_n 1, 1) := by decide +kernel
theorem dL_areSheets_252 : decode cL_areSheets 252 = .ok (.iload 9, 2) := by decide +kernel
theorem dL_areSheets_254 : decode cL_areSheets 254 = .ok (.ifCond .lt 7, 3) := by decide +kernel
theorem dL_areSheets_257 : decode cL_areSheets 257 = .ok (.iconst 1, 1) := by decide +kernel
theorem dL_areSheets_258 : decode cL_areSheets 258 = .ok (.goto 4, 3) := by decide +kernel
theorem dL_areSheets_261 : decode cL_areSheets 261 = .ok (.iconst 0, 1) := by decide +kernel
theorem dL_areSheets_262 : decode cL_areSheets 262 = .ok (.aload_n 0, 1) := by decide +kernel
theorem dL_areSheets_263 : decode cL_areSheets 263 = .ok (.iload 8, 2) := by decide +kernel
theorem dL_areSheets_265 : decode cL_areSheets 265 = .ok (.iconst 1, 1) := by decide +kernel
theorem dL_areSheets_266 : decode cL_areSheets 266 = .ok (.invokevirtual 44, 3) := by decide +kernel
theorem dL_areSheets_269 : decode cL_areSheets 269 = .ok (.iload 4, 2) := by decide +kernel
theorem dL_areSheets_271 : decode cL_areSheets 271 = .ok (.ishr, 1) := by decide +kernel
theorem dL_areSheets_272 : decode cL_areSheets 272 = .ok (.iconst 1, 1) := by decide +kernel
theorem dL_areSheets_273 : decode cL_areSheets 273 = .ok (.iand, 1) := by decide +kernel
theorem dL_areSheets_274 : decode cL_areSheets 274 = .ok (.iconst 1, 1) := by decide +kernel
theorem dL_areSheets_275 : decode cL_areSheets 275 = .ok (.if_icmp .ne 7, 3) := by decide +kernel
theorem dL_areSheets_278 : decode cL_areSheets 278 = .ok (.iconst 1, 1) := by decide +kernel
theorem dL_areSheets_279 : decode cL_areSheets 279 = .ok (.goto 4, 3) := by decide +kernel
theorem dL_areSheets_282 : decode cL_areSheets 282 = .ok (.iconst 0, 1) := by decide +kernel
theorem dL_areSheets_283 : decode cL_areSheets 283 = .ok (.if_icmp .ne 123, 3) := by decide +kernel
theorem dL_areSheets_286 : decode cL_areSheets 286 = .ok (.iload 9, 2) := by decide +kernel
theorem dL_areSheets_288 : decode cL_areSheets 288 = .ok (.ifCond .ge 17, 3) := by decide +kernel
theorem dL_areSheets_291 : decode cL_areSheets 291 = .ok (.iload 10, 2) := by decide +kernel
theorem dL_areSheets_293 : decode cL_areSheets 293 = .ok (.iconst (-1), 1) := by decide +kernel
theorem dL_areSheets_294 : decode cL_areSheets 294 = .ok (.if_icmp .ne 112, 3) := by decide +kernel
theorem dL_areSheets_297 : decode cL_areSheets 297 = .ok (.iload 13, 2) := by decide +kernel
theorem dL_areSheets_299 : decode cL_areSheets 299 = .ok (.ifCond .ne 107, 3) := by decide +kernel
theorem dL_areSheets_302 : decode cL_areSheets 302 = .ok (.goto 40, 3) := by decide +kernel
theorem dL_areSheets_305 : decode cL_areSheets 305 = .ok (.iload 13, 2) := by decide +kernel
theorem dL_areSheets_307 : decode cL_areSheets 307 = .ok (.iload 10, 2) := by decide +kernel
theorem dL_areSheets_309 : decode cL_areSheets 309 = .ok (.ifCond .lt 7, 3) := by decide +kernel
theorem dL_areSheets_312 : decode cL_areSheets 312 = .ok (.iconst 1, 1) := by decide +kernel
theorem dL_areSheets_313 : decode cL_areSheets 313 = .ok (.goto 4, 3) := by decide +kernel
theorem dL_areSheets_316 : decode cL_areSheets 316 = .ok (.iconst 0, 1) := by decide +kernel
theorem dL_areSheets_317 : decode cL_areSheets 317 = .ok (.if_icmp .ne 89, 3) := by decide +kernel
theorem dL_areSheets_320 : decode cL_areSheets 320 = .ok (.iload 12, 2) := by decide +kernel
theorem dL_areSheets_322 : decode cL_areSheets 322 = .ok (.iload 13, 2) := by decide +kernel
theorem dL_areSheets_324 : decode cL_areSheets 324 = .ok (.ifCond .eq 14, 3) := by decide +kernel
theorem dL_areSheets_327 : decode cL_areSheets 327 = .ok (.iload 15, 2) := by decide +kernel
theorem dL_areSheets_329 : decode cL_areSheets 329 = .ok (.iload 10, 2) := by decide +kernel
theorem dL_areSheets_331 : decode cL_areSheets 331 = .ok (.bipush 100, 2) := by decide +kernel
theorem dL_areSheets_333 : decode cL_areSheets 333 = .ok (.isub, 1) := by decide +kernel
theorem dL_areSheets_334 : decode cL_areSheets 334 = .ok (.imul, 1) := by decide +kernel
theorem dL_areSheets_335 : decode cL_areSheets 335 = .ok (.goto 4, 3) := by decide +kernel
theorem dL_areSheets_338 : decode cL_areSheets 338 = .ok (.iconst 0, 1) := by decide +kernel
theorem dL_areSheets_339 : decode cL_areSheets 339 = .ok (.if_icmp .ne 67, 3) := by decide +kernel
theorem dL_areSheets_342 : decode cL_areSheets 342 = .ok (.iload 13, 2) := by decide +kernel
theorem dL_areSheets_344 : decode cL_areSheets 344 = .ok (.ifCond .eq 13, 3) := by decide +kernel
theorem dL_areSheets_347 : decode cL_areSheets 347 = .ok (.aload_n 0, 1) := by decide +kernel
theorem dL_areSheets_348 : decode cL_areSheets 348 = .ok (.iload 8, 2) := by decide +kernel
theorem dL_areSheets_350 : decode cL_areSheets 350 = .ok (.iconst 0, 1) := by decide +kernel
theorem dL_areSheets_351 : decode cL_areSheets 351 = .ok (.invokevirtual 44, 3) := by decide +kernel
theorem dL_areSheets_354 : decode cL_areSheets 354 = .ok (.ifCond .ne 52, 3) := by decide +kernel
theorem dL_areSheets_357 : decode cL_areSheets 357 = .ok (.iload 14, 2) := by decide +kernel
theorem dL_areSheets_359 : decode cL_areSheets 359 = .ok (.ifCond .eq 8, 3) := by decide +kernel
theorem dL_areSheets_362 : decode cL_areSheets 362 = .ok (.iload 13, 2) := by decide +kernel
theorem dL_areSheets_364 : decode cL_areSheets 364 = .ok (.ifCond .eq 42, 3) := by decide +kernel
theorem dL_areSheets_367 : decode cL_areSheets 367 = .ok (.iload 15, 2) := by decide +kernel
theorem dL_areSheets_369 : decode cL_areSheets 369 = .ok (.iconst 2, 1) := by decide +kernel
theorem dL_areSheets_370 : decode cL_areSheets 370 = .ok (.if_icmp .ne 7, 3) := by decide +kernel
theorem dL_areSheets_373 : decode cL_areSheets 373 = .ok (.iconst 1, 1) := by decide +kernel
theorem dL_areSheets_374 : decode cL_areSheets 374 = .ok (.goto 4, 3) := by decide +kernel
theorem dL_areSheets_377 : decode cL_areSheets 377 = .ok (.iconst 0, 1) := by decide +kernel
theorem dL_areSheets_378 : decode cL_areSheets 378 = .ok (.aload_n 0, 1) := by decide +kernel
theorem dL_areSheets_379 : decode cL_areSheets 379 = .ok (.iload 8, 2) := by decide +kernel
theorem dL_areSheets_381 : decode cL_areSheets 381 = .ok (.iconst 2, 1) := by decide +kernel
theorem dL_areSheets_382 : decode cL_areSheets 382 = .ok (.invokevirtual 44, 3) := by decide +kernel
theorem dL_areSheets_385 : decode cL_areSheets 385 = .ok (.iload 4, 2) := by decide +kernel
theorem dL_areSheets_387 : decode cL_areSheets 387 = .ok (.ishr, 1) := by decide +kernel
theorem dL_areSheets_388 : decode cL_areSheets 388 = .ok (.iconst 1, 1) := by decide +kernel
theorem dL_areSheets_389 : decode cL_areSheets 389 = .ok (.iand, 1) := by decide +kernel
theorem dL_areSheets_390 : decode cL_areSheets 390 = .ok (.iconst 1, 1) := by decide +kernel
theorem dL_areSheets_391 : decode cL_areSheets 391 = .ok (.if_icmp .ne 7, 3) := by decide +kernel
theorem dL_areSheets_394 : decode cL_areSheets 394 = .ok (.iconst 1, 1) := by decide +kernel
theorem dL_areSheets_395 : decode cL_areSheets 395 = .ok (.goto 4, 3) := by decide +kernel
theorem dL_areSheets_398 : decode cL_areSheets 398 = .ok (.iconst 0, 1) := by decide +kernel
theorem dL_areSheets_399 : decode cL_areSheets 399 = .ok (.if_icmp .ne 7, 3) := by decide +kernel
theorem dL_areSheets_402 : decode cL_areSheets 402 = .ok (.iconst 1, 1) := by decide +kernel
theorem dL_areSheets_403 : decode cL_areSheets 403 = .ok (.goto 4, 3) := by decide +kernel
theorem dL_areSheets_406 : decode cL_areSheets 406 = .ok (.iconst 0, 1) := by decide +kernel
theorem dL_areSheets_407 : decode cL_areSheets 407 = .ok (.istore_n 3, 1) := by decide +kernel
theorem dL_areSheets_408 : decode cL_areSheets 408 = .ok (.iinc 8 1, 3) := by decide +kernel
theorem dL_areSheets_411 : decode cL_areSheets 411 = .ok (.goto (-359), 3) := by decide +kernel
theorem dL_areSheets_414 : decode cL_areSheets 414 = .ok (.iload_n 2, 1) := by decide +kernel
theorem dL_areSheets_415 : decode cL_areSheets 415 = .ok (.aload_n 0, 1) := by decide +kernel
theorem dL_areSheets_416 : decode cL_areSheets 416 = .ok (.iload 4, 2) := by decide +kernel
theorem dL_areSheets_418 : decode cL_areSheets 418 = .ok (.iconst 4, 1) := by decide +kernel
theorem dL_areSheets_419 : decode cL_areSheets 419 = .ok (.invokevirtual 9, 3) := by decide +kernel
theorem dL_areSheets_422 : decode cL_areSheets 422 = .ok (.iadd, 1) := by decide +kernel
theorem dL_areSheets_423 : decode cL_areSheets 423 = .ok (.istore_n 2, 1) := by decide +kernel
theorem dL_areSheets_424 : decode cL_areSheets 424 = .ok (.iload_n 3, 1) := by decide +kernel
theorem dL_areSheets_425 : decode cL_areSheets 425 = .ok (.ifCond .eq 74, 3) := by decide +kernel
theorem dL_areSheets_428 : decode cL_areSheets 428 = .ok (.iload 5, 2) := by decide +kernel
theorem dL_areSheets_430 : decode cL_areSheets 430 = .ok (.aload_n 0, 1) := by decide +kernel
theorem dL_areSheets_431 : decode cL_areSheets 431 = .ok (.iload 4, 2) := by decide +kernel
theorem dL_areSheets_433 : decode cL_areSheets 433 = .ok (.iconst 0, 1) := by decide +kernel
theorem dL_areSheets_434 : decode cL_areSheets 434 = .ok (.invokevirtual 9, 3) := by decide +kernel
theorem dL_areSheets_437 : decode cL_areSheets 437 = .ok (.if_icmp .ne 62, 3) := by decide +kernel
theorem dL_areSheets_440 : decode cL_areSheets 440 = .ok (.iload 6, 2) := by decide +kernel
theorem dL_areSheets_442 : decode cL_areSheets 442 = .ok (.aload_n 0, 1) := by decide +kernel
theorem dL_areSheets_443 : decode cL_areSheets 443 = .ok (.iload 4, 2) := by decide +kernel
theorem dL_areSheets_445 : decode cL_areSheets 445 = .ok (.bipush 6, 2) := by decide +kernel
theorem dL_areSheets_447 : decode cL_areSheets 447 = .ok (.invokevirtual 9, 3) := by decide +kernel
theorem dL_areSheets_450 : decode cL_areSheets 450 = .ok (.if_icmp .ne 49, 3) := by decide +kernel
theorem dL_areSheets_453 : decode cL_areSheets 453 = .ok (.iload 7, 2) := by decide +kernel
theorem dL_areSheets_455 : decode cL_areSheets 455 = .ok (.aload_n 0, 1) := by decide +kernel
theorem dL_areSheets_456 : decode cL_areSheets 456 = .ok (.iload 4, 2) := by decide +kernel
theorem dL_areSheets_458 : decode cL_areSheets 458 = .ok (.bipush 7, 2) := by decide +kernel
theorem dL_areSheets_460 : decode cL_areSheets 460 = .ok (.invokevirtual 9, 3) := by decide +kernel
theorem dL_areSheets_463 : decode cL_areSheets 463 = .ok (.if_icmp .ne 36, 3) := by decide +kernel
theorem dL_areSheets_466 : decode cL_areSheets 466 = .ok (.aload_n 0, 1) := by decide +kernel
theorem dL_areSheets_467 : decode cL_areSheets 467 = .ok (.iload 4, 2) := by decide +kernel
theorem dL_areSheets_469 : decode cL_areSheets 469 = .ok (.iconst 1, 1) := by decide +kernel
theorem dL_areSheets_470 : decode cL_areSheets 470 = .ok (.invokevirtual 47, 3) := by decide +kernel
theorem dL_areSheets_473 : decode cL_areSheets 473 = .ok (.iload 5, 2) := by decide +kernel
theorem dL_areSheets_475 : decode cL_areSheets 475 = .ok (.aload_n 0, 1) := by decide +kernel
theorem dL_areSheets_476 : decode cL_areSheets 476 = .ok (.iload 4, 2) := by decide +kernel
theorem dL_areSheets_478 : decode cL_areSheets 478 = .ok (.iconst 3, 1) := by decide +kernel
theorem dL_areSheets_479 : decode cL_areSheets 479 = .ok (.invokevirtual 9, 3) := by decide +kernel
theorem dL_areSheets_482 : decode cL_areSheets 482 = .ok (.ifCond .ge 8, 3) := by decide +kernel
theorem dL_areSheets_485 : decode cL_areSheets 485 = .ok (.bipush 20, 2) := by decide +kernel
theorem dL_areSheets_487 : decode cL_areSheets 487 = .ok (.goto 4, 3) := by decide +kernel
theorem dL_areSheets_490 : decode cL_areSheets 490 = .ok (.iconst 0, 1) := by decide +kernel
theorem dL_areSheets_491 : decode cL_areSheets 491 = .ok (.isub, 1) := by decide +kernel
theorem dL_areSheets_492 : decode cL_areSheets 492 = .ok (.if_icmp .lt 7, 3) := by decide +kernel
theorem dL_areSheets_495 : decode cL_areSheets 495 = .ok (.iconst 1, 1) := by decide +kernel
theorem dL_areSheets_496 : decode cL_areSheets 496 = .ok (.goto 4, 3) := by decide +kernel
theorem dL_areSheets_499 : decode cL_areSheets 499 = .ok (.iconst 0, 1) := by decide +kernel
theorem dL_areSheets_500 : decode cL_areSheets 500 = .ok (.istore_n 3, 1) := by decide +kernel
theorem dL_areSheets_501 : decode cL_areSheets 501 = .ok (.iinc 4 1, 3) := by decide +kernel
theorem dL_areSheets_504 : decode cL_areSheets 504 = .ok (.goto (-495), 3) := by decide +kernel
theorem dL_areSheets_507 : decode cL_areSheets 507 = .ok (.iload_n 3, 1) := by decide +kernel
theorem dL_areSheets_508 : decode cL_areSheets 508 = .ok (.ifCond .eq 24, 3) := by decide +kernel
theorem dL_areSheets_511 : decode cL_areSheets 511 = .ok (.iload_n 1, 1) := by decide +kernel
theorem dL_areSheets_512 : decode cL_areSheets 512 = .ok (.aload_n 0, 1) := by decide +kernel
theorem dL_areSheets_513 : decode cL_areSheets 513 = .ok (.invokevirtual 50, 3) := by decide +kernel
theorem dL_areSheets_516 : decode cL_areSheets 516 = .ok (.if_icmp .ne 16, 3) := by decide +kernel
theorem dL_areSheets_519 : decode cL_areSheets 519 = .ok (.iload_n 2, 1) := by decide +kernel
theorem dL_areSheets_520 : decode cL_areSheets 520 = .ok (.aload_n 0, 1) := by decide +kernel
theorem dL_areSheets_521 : decode cL_areSheets 521 = .ok (.iconst 5, 1) := by decide +kernel
theorem dL_areSheets_522 : decode cL_areSheets 522 = .ok (.invokevirtual 15, 3) := by decide +kernel
theorem dL_areSheets_525 : decode cL_areSheets 525 = .ok (.if_icmp .ne 7, 3) := by decide +kernel
theorem dL_areSheets_528 : decode cL_areSheets 528 = .ok (.iconst 1, 1) := by decide +kernel
theorem dL_areSheets_529 : decode cL_areSheets 529 = .ok (.goto 4, 3) := by decide +kernel
theorem dL_areSheets_532 : decode cL_areSheets 532 = .ok (.iconst 0, 1) := by decide +kernel
theorem dL_areSheets_533 : decode cL_areSheets 533 = .ok (.ireturn, 1) := by decide +kernel
