theorem dL_cell_0 : decode cL_cell 0 = .ok (.iload_n 1, 1) := by decide +kernel
theorem dL_cell_1 : decode cL_cell 1 = .ok (.aload_n 0, 1) := by decide +kernel
theorem dL_cell_2 : decode cL_cell 2 = .ok (.arraylength, 1) := by decide +kernel
theorem dL_cell_3 : decode cL_cell 3 = .ok (.if_icmp .ge 9, 3) := by decide +kernel
theorem dL_cell_6 : decode cL_cell 6 = .ok (.aload_n 0, 1) := by decide +kernel
theorem dL_cell_7 : decode cL_cell 7 = .ok (.iload_n 1, 1) := by decide +kernel
theorem dL_cell_8 : decode cL_cell 8 = .ok (.iaload, 1) := by decide +kernel
theorem dL_cell_9 : decode cL_cell 9 = .ok (.goto 11, 3) := by decide +kernel
theorem dL_cell_12 : decode cL_cell 12 = .ok (.ldc 7, 2) := by decide +kernel
theorem dL_cell_14 : decode cL_cell 14 = .ok (.iload_n 1, 1) := by decide +kernel
theorem dL_cell_15 : decode cL_cell 15 = .ok (.sipush 971, 3) := by decide +kernel
theorem dL_cell_18 : decode cL_cell 18 = .ok (.iadd, 1) := by decide +kernel
theorem dL_cell_19 : decode cL_cell 19 = .ok (.imul, 1) := by decide +kernel
theorem dL_cell_20 : decode cL_cell 20 = .ok (.ireturn, 1) := by decide +kernel
theorem dL_up_0 : decode cL_up 0 = .ok (.iload_n 0, 1) := by decide +kernel
theorem dL_up_1 : decode cL_up 1 = .ok (.ldc 8, 2) := by decide +kernel
theorem dL_up_3 : decode cL_up 3 = .ok (.iand, 1) := by decide +kernel
theorem dL_up_4 : decode cL_up 4 = .ok (.iload_n 1, 1) := by decide +kernel
theorem dL_up_5 : decode cL_up 5 = .ok (.irem, 1) := by decide +kernel
theorem dL_up_6 : decode cL_up 6 = .ok (.ireturn, 1) := by decide +kernel
set_option maxRecDepth 20000 in
theorem ggL_isStep_L_up : GoodIn wsL_isStep wsL_up := goodIn_r _ [4, 5] (by decide +kernel) (by decide +kernel)
set_option maxRecDepth 20000 in
theorem gL_isStep_L_up : GoodIn wsL_isStep (va_wsS RL 9 yL_up wsL_up) := goodIn_app (goodIn_of _ (by decide +kernel)) ggL_isStep_L_up
set_option maxRecDepth 20000 in
theorem ggL_isStep_X4_arrive : GoodIn wsL_isStep wsX4_arrive := goodIn_r _ [10, 11, 12, 13, 14, 15, 16, 17, 18, 19, 20, 21, 22, 23, 24, 25, 26, 27, 28, 29, 30, 31, 32, 33, 34, 35, 36, 37, 38, 39, 40, 41, 42, 43, 44, 45, 46, 47, 48, 49, 50, 51, 52, 53, 54, 55, 56, 57, 58, 59, 60, 61, 62, 63, 64, 65, 66, 67, 68, 69, 70, 71, 72, 73, 74, 75, 76, 77, 9, 78, 79, 80, 81, 82, 197, 198, 199, 200, 201, 202, 203, 204, 205, 206, 207, 208, 209, 210, 211, 212, 213, 214, 215, 216, 217, 218, 219, 220, 221, 222] (by decide +kernel) (by decide +kernel)
set_option maxRecDepth 20000 in
theorem gL_isStep_X4_arrive : GoodIn wsL_isStep (wsV RL 15 RX4 yX4_arrive wsX4_arrive) := goodIn_app (goodIn_of _ (by decide +kernel)) ggL_isStep_X4_arrive
set_option maxRecDepth 20000 in
theorem ggL_isStep_X4_pass : GoodIn wsL_isStep wsX4_pass := goodIn_r _ [86, 11, 12, 13, 14, 15, 16, 17, 18, 19, 20, 21, 22, 23, 24, 25, 26, 27, 28, 29, 30, 31, 32, 33, 34, 35, 36, 37, 38, 39, 40, 41, 42, 43, 44, 45, 46, 47, 48, 49, 50, 51, 52, 53, 54, 55, 56, 57, 58, 59, 87, 88, 89, 90, 91, 92, 93, 94, 95, 96, 97, 98, 99, 100, 101, 102, 103, 104, 105, 106, 107, 108, 109, 110, 111, 112, 113, 114, 115, 116, 117, 118, 119, 120, 121, 122, 123, 124, 125, 126, 127, 128, 129, 130, 131, 132, 133, 134, 135, 136, 137, 138, 139, 140, 141, 142, 143, 144, 145, 146, 147, 148, 149, 150, 151, 152, 153, 154, 155, 156, 157, 158, 159, 67, 68, 69, 70, 160, 161, 162, 163, 164, 165, 166, 75, 76, 77, 9, 78, 79, 80, 81, 82, 197, 198, 199, 200, 201, 202, 203, 204, 205, 206, 207, 208, 209, 210, 211, 212, 213, 214, 215, 216, 217, 218, 219, 220, 221, 222] (by decide +kernel) (by decide +kernel)
set_option maxRecDepth 20000 in
theorem gL_isStep_X4_pass : GoodIn wsL_isStep (wsV RL 21 RX4 yX4_pass wsX4_pass) := goodIn_app (goodIn_of _ (by decide +kernel)) ggL_isStep_X4_pass
set_option maxRecDepth 20000 in
theorem ggL_isStep_X4_turn : GoodIn wsL_isStep wsX4_turn := goodIn_r _ [170, 11, 12, 13, 14, 15, 16, 17, 18, 19, 20, 21, 22, 23, 24, 25, 26, 27, 28, 29, 30, 31, 32, 33, 34, 35, 36, 37, 38, 39, 40, 41, 42, 43, 44, 45, 46, 47, 48, 49, 50, 51, 52, 53, 54, 55, 56, 57, 58, 59, 171, 172, 173, 174, 103, 175, 176, 177, 178, 179, 64, 65, 66, 180, 181, 182, 183, 184, 185, 186, 67, 68, 69, 70, 75, 76, 77, 9, 78, 79, 80, 81, 82, 197, 198, 199, 200, 201, 202, 203, 204, 205, 206, 207, 208, 209, 210, 211, 212, 213, 214, 215, 216, 217, 218, 219, 220, 221, 222] (by decide +kernel) (by decide +kernel)
set_option maxRecDepth 20000 in
theorem gL_isStep_X4_turn : GoodIn wsL_isStep (wsV RL 24 RX4 yX4_turn wsX4_turn) := goodIn_app (goodIn_of _ (by decide +kernel)) ggL_isStep_X4_turn
set_option maxRecDepth 20000 in
theorem ggL_isStep_X4_set : GoodIn wsL_isStep wsX4_set := goodIn_r _ [190, 11, 12, 13, 14, 15, 16, 17, 18, 19, 20, 21, 22, 23, 24, 25, 26, 27, 28, 29, 30, 31, 32, 33, 34, 35, 36, 37, 38, 39, 40, 41, 42, 43, 44, 45, 46, 47, 48, 49, 50, 51, 52, 53, 54, 55, 56, 57, 58, 59, 191, 192, 193, 194, 195, 196, 75, 76, 77, 9, 78, 79, 80, 81, 82, 197, 198, 199, 200, 201, 202, 203, 204, 205, 206, 207, 208, 209, 210, 211, 212, 213, 214, 215, 216, 217, 218, 219, 220, 221, 222] (by decide +kernel) (by decide +kernel)
set_option maxRecDepth 20000 in
theorem gL_isStep_X4_set : GoodIn wsL_isStep (wsV RL 27 RX4 yX4_set wsX4_set) := goodIn_app (goodIn_of _ (by decide +kernel)) ggL_isStep_X4_set
theorem dL_isStep_0 : decode cL_isStep 0 = .ok (.iload_n 2, 1) := by decide +kernel
theorem dL_isStep_1 : decode cL_isStep 1 = .ok (.iconst 4, 1) := by decide +kernel
theorem dL_isStep_2 : decode cL_isStep 2 = .ok (.ishr, 1) := by decide +kernel
theorem dL_isStep_3 : decode cL_isStep 3 = .ok (.istore_n 3, 1) := by decide +kernel
theorem dL_isStep_4 : decode cL_isStep 4 = .ok (.iload_n 2, 1) := by decide +kernel
theorem dL_isStep_5 : decode cL_isStep 5 = .ok (.bipush 14, 2) := by decide +kernel
theorem dL_isStep_7 : decode cL_isStep 7 = .ok (.invokestatic 9, 3) := by decide +kernel
theorem dL_isStep_10 : decode cL_isStep 10 = .ok (.istore 4, 2) := by decide +kernel
theorem dL_isStep_12 : decode cL_isStep 12 = .ok (.iload 4, 2) := by decide +kernel
theorem dL_isStep_14 : decode cL_isStep 14 = .ok (.iconst 5, 1) := by decide +kernel
theorem dL_isStep_15 : decode cL_isStep 15 = .ok (.if_icmp .ge 34, 3) := by decide +kernel
theorem dL_isStep_18 : decode cL_isStep 18 = .ok (.iconst 4, 1) := by decide +kernel
theorem dL_isStep_19 : decode cL_isStep 19 = .ok (.iload_n 3, 1) := by decide +kernel
theorem dL_isStep_20 : decode cL_isStep 20 = .ok (.bipush 14, 2) := by decide +kernel
theorem dL_isStep_22 : decode cL_isStep 22 = .ok (.invokestatic 9, 3) := by decide +kernel
theorem dL_isStep_25 : decode cL_isStep 25 = .ok (.iadd, 1) := by decide +kernel
theorem dL_isStep_26 : decode cL_isStep 26 = .ok (.istore 5, 2) := by decide +kernel
theorem dL_isStep_28 : decode cL_isStep 28 = .ok (.aload_n 0, 1) := by decide +kernel
theorem dL_isStep_29 : decode cL_isStep 29 = .ok (.iload 5, 2) := by decide +kernel
theorem dL_isStep_31 : decode cL_isStep 31 = .ok (.invokevirtual 15, 3) := by decide +kernel
theorem dL_isStep_34 : decode cL_isStep 34 = .ok (.aload_n 1, 1) := by decide +kernel
theorem dL_isStep_35 : decode cL_isStep 35 = .ok (.iload 5, 2) := by decide +kernel
theorem dL_isStep_37 : decode cL_isStep 37 = .ok (.invokevirtual 15, 3) := by decide +kernel
theorem dL_isStep_40 : decode cL_isStep 40 = .ok (.if_icmp .ne 7, 3) := by decide +kernel
theorem dL_isStep_43 : decode cL_isStep 43 = .ok (.iconst 1, 1) := by decide +kernel
theorem dL_isStep_44 : decode cL_isStep 44 = .ok (.goto 4, 3) := by decide +kernel
theorem dL_isStep_47 : decode cL_isStep 47 = .ok (.iconst 0, 1) := by decide +kernel
theorem dL_isStep_48 : decode cL_isStep 48 = .ok (.ireturn, 1) := by decide +kernel
theorem dL_isStep_49 : decode cL_isStep 49 = .ok (.iload 4, 2) := by decide +kernel
theorem dL_isStep_51 : decode cL_isStep 51 = .ok (.bipush 11, 2) := by decide +kernel
theorem dL_isStep_53 : decode cL_isStep 53 = .ok (.if_icmp .ge 59, 3) := by decide +kernel
theorem dL_isStep_56 : decode cL_isStep 56 = .ok (.iconst 1, 1) := by decide +kernel
theorem dL_isStep_57 : decode cL_isStep 57 = .ok (.iload_n 3, 1) := by decide +kernel
theorem dL_isStep_58 : decode cL_isStep 58 = .ok (.bipush 9, 2) := by decide +kernel
theorem dL_isStep_60 : decode cL_isStep 60 = .ok (.invokestatic 9, 3) := by decide +kernel
theorem dL_isStep_63 : decode cL_isStep 63 = .ok (.iadd, 1) := by decide +kernel
theorem dL_isStep_64 : decode cL_isStep 64 = .ok (.istore 5, 2) := by decide +kernel
theorem dL_isStep_66 : decode cL_isStep 66 = .ok (.iconst 0, 1) := by decide +kernel
theorem dL_isStep_67 : decode cL_isStep 67 = .ok (.istore 6, 2) := by decide +kernel
theorem dL_isStep_69 : decode cL_isStep 69 = .ok (.iconst 0, 1) := by decide +kernel
theorem dL_isStep_70 : decode cL_isStep 70 = .ok (.istore 7, 2) := by decide +kernel
theorem dL_isStep_72 : decode cL_isStep 72 = .ok (.iload 7, 2) := by decide +kernel
theorem dL_isStep_74 : decode cL_isStep 74 = .ok (.iload 5, 2) := by decide +kernel
theorem dL_isStep_76 : decode cL_isStep 76 = .ok (.if_icmp .ge 19, 3) := by decide +kernel
theorem dL_isStep_79 : decode cL_isStep 79 = .ok (.iload 6, 2) := by decide +kernel
theorem dL_isStep_81 : decode cL_isStep 81 = .ok (.aload_n 1, 1) := by decide +kernel
theorem dL_isStep_82 : decode cL_isStep 82 = .ok (.iconst 1, 1) := by decide +kernel
theorem dL_isStep_83 : decode cL_isStep 83 = .ok (.invokevirtual 21, 3) := by decide +kernel
theorem dL_isStep_86 : decode cL_isStep 86 = .ok (.iadd, 1) := by decide +kernel
theorem dL_isStep_87 : decode cL_isStep 87 = .ok (.istore 6, 2) := by decide +kernel
theorem dL_isStep_89 : decode cL_isStep 89 = .ok (.iinc 7 1, 3) := by decide +kernel
theorem dL_isStep_92 : decode cL_isStep 92 = .ok (.goto (-20), 3) := by decide +kernel
theorem dL_isStep_95 : decode cL_isStep 95 = .ok (.aload_n 0, 1) := by decide +kernel
theorem dL_isStep_96 : decode cL_isStep 96 = .ok (.iload 5, 2) := by decide +kernel
theorem dL_isStep_98 : decode cL_isStep 98 = .ok (.invokevirtual 21, 3) := by decide +kernel
theorem dL_isStep_101 : decode cL_isStep 101 = .ok (.iload 6, 2) := by decide +kernel
theorem dL_isStep_103 : decode cL_isStep 103 = .ok (.if_icmp .ne 7, 3) := by decide +kernel
theorem dL_isStep_106 : decode cL_isStep 106 = .ok (.iconst 1, 1) := by decide +kernel
theorem dL_isStep_107 : decode cL_isStep 107 = .ok (.goto 4, 3) := by decide +kernel
theorem dL_isStep_110 : decode cL_isStep 110 = .ok (.iconst 0, 1) := by decide +kernel
theorem dL_isStep_111 : decode cL_isStep 111 = .ok (.ireturn, 1) := by decide +kernel
theorem dL_isStep_112 : decode cL_isStep 112 = .ok (.iload 4, 2) := by decide +kernel
theorem dL_isStep_114 : decode cL_isStep 114 = .ok (.bipush 11, 2) := by decide +kernel
theorem dL_isStep_116 : decode cL_isStep 116 = .ok (.if_icmp .ne 50, 3) := by decide +kernel
theorem dL_isStep_119 : decode cL_isStep 119 = .ok (.aload_n 0, 1) := by decide +kernel
theorem dL_isStep_120 : decode cL_isStep 120 = .ok (.iload_n 3, 1) := by decide +kernel
theorem dL_isStep_121 : decode cL_isStep 121 = .ok (.iconst 4, 1) := by decide +kernel
theorem dL_isStep_122 : decode cL_isStep 122 = .ok (.invokestatic 9, 3) := by decide +kernel
theorem dL_isStep_125 : decode cL_isStep 125 = .ok (.iconst 4, 1) := by decide +kernel
theorem dL_isStep_126 : decode cL_isStep 126 = .ok (.iload_n 3, 1) := by decide +kernel
theorem dL_isStep_127 : decode cL_isStep 127 = .ok (.iconst 2, 1) := by decide +kernel
theorem dL_isStep_128 : decode cL_isStep 128 = .ok (.ishr, 1) := by decide +kernel
theorem dL_isStep_129 : decode cL_isStep 129 = .ok (.bipush 27, 2) := by decide +kernel
theorem dL_isStep_131 : decode cL_isStep 131 = .ok (.invokestatic 9, 3) := by decide +kernel
theorem dL_isStep_134 : decode cL_isStep 134 = .ok (.iadd, 1) := by decide +kernel
theorem dL_isStep_135 : decode cL_isStep 135 = .ok (.invokevirtual 24, 3) := by decide +kernel
theorem dL_isStep_138 : decode cL_isStep 138 = .ok (.aload_n 1, 1) := by decide +kernel
theorem dL_isStep_139 : decode cL_isStep 139 = .ok (.iload_n 3, 1) := by decide +kernel
theorem dL_isStep_140 : decode cL_isStep 140 = .ok (.iconst 4, 1) := by decide +kernel
theorem dL_isStep_141 : decode cL_isStep 141 = .ok (.invokestatic 9, 3) := by decide +kernel
theorem dL_isStep_144 : decode cL_isStep 144 = .ok (.iconst 4, 1) := by decide +kernel
theorem dL_isStep_145 : decode cL_isStep 145 = .ok (.iload_n 3, 1) := by decide +kernel
theorem dL_isStep_146 : decode cL_isStep 146 = .ok (.iconst 2, 1) := by decide +kernel
theorem dL_isStep_147 : decode cL_isStep 147 = .ok (.ishr, 1) := by decide +kernel
theorem dL_isStep_148 : decode cL_isStep 148 = .ok (.bipush 27, 2) := by decide +kernel
theorem dL_isStep_150 : decode cL_isStep 150 = .ok (.invokestatic 9, 3) := by decide +kernel
theorem dL_isStep_153 : decode cL_isStep 153 = .ok (.iadd, 1) := by decide +kernel
theorem dL_isStep_154 : decode cL_isStep 154 = .ok (.invokevirtual 24, 3) := by decide +kernel
theorem dL_isStep_157 : decode cL_isStep 157 = .ok (.if_icmp .ne 7, 3) := by decide +kernel
theorem dL_isStep_160 : decode cL_isStep 160 = .ok (.iconst 1, 1) := by decide +kernel
theorem dL_isStep_161 : decode cL_isStep 161 = .ok (.goto 4, 3) := by decide +kernel
theorem dL_isStep_164 : decode cL_isStep 164 = .ok (.iconst 0, 1) := by decide +kernel
theorem dL_isStep_165 : decode cL_isStep 165 = .ok (.ireturn, 1) := by decide +kernel
theorem dL_isStep_166 : decode cL_isStep 166 = .ok (.iload_n 3, 1) := by decide +kernel
theorem dL_isStep_167 : decode cL_isStep 167 = .ok (.bipush 8, 2) := by decide +kernel
theorem dL_isStep_169 : decode cL_isStep 169 = .ok (.invokestatic 9, 3) := by decide +kernel
theorem dL_isStep_172 : decode cL_isStep 172 = .ok (.istore 5, 2) := by decide +kernel
theorem dL_isStep_174 : decode cL_isStep 174 = .ok (.iload 5, 2) := by decide +kernel
theorem dL_isStep_176 : decode cL_isStep 176 = .ok (.iconst 3, 1) := by decide +kernel
theorem dL_isStep_177 : decode cL_isStep 177 = .ok (.if_icmp .ne 14, 3) := by decide +kernel
theorem dL_isStep_180 : decode cL_isStep 180 = .ok (.iload_n 3, 1) := by decide +kernel
theorem dL_isStep_181 : decode cL_isStep 181 = .ok (.iconst 3, 1) := by decide +kernel
theorem dL_isStep_182 : decode cL_isStep 182 = .ok (.ishr, 1) := by decide +kernel
theorem dL_isStep_183 : decode cL_isStep 183 = .ok (.bipush 21, 2) := by decide +kernel
theorem dL_isStep_185 : decode cL_isStep 185 = .ok (.invokestatic 9, 3) := by decide +kernel
theorem dL_isStep_188 : decode cL_isStep 188 = .ok (.goto 67, 3) := by decide +kernel
theorem dL_isStep_191 : decode cL_isStep 191 = .ok (.iload 5, 2) := by decide +kernel
theorem dL_isStep_193 : decode cL_isStep 193 = .ok (.iconst 4, 1) := by decide +kernel
theorem dL_isStep_194 : decode cL_isStep 194 = .ok (.if_icmp .ne 16, 3) := by decide +kernel
theorem dL_isStep_197 : decode cL_isStep 197 = .ok (.iconst 1, 1) := by decide +kernel
theorem dL_isStep_198 : decode cL_isStep 198 = .ok (.iload_n 3, 1) := by decide +kernel
theorem dL_isStep_199 : decode cL_isStep 199 = .ok (.iconst 3, 1) := by decide +kernel
theorem dL_isStep_200 : decode cL_isStep 200 = .ok (.ishr, 1) := by decide +kernel
theorem dL_isStep_201 : decode cL_isStep 201 = .ok (.bipush 12, 2) := by decide +kernel
theorem dL_isStep_203 : decode cL_isStep 203 = .ok (.invokestatic 9, 3) := by decide +kernel
theorem dL_isStep_206 : decode cL_isStep 206 = .ok (.iadd, 1) := by decide +kernel
theorem dL_isStep_207 : decode cL_isStep 207 = .ok (.goto 48, 3) := by decide +kernel
theorem dL_isStep_210 : decode cL_isStep 210 = .ok (.iload 5, 2) := by decide +kernel
theorem dL_isStep_212 : decode cL_isStep 212 = .ok (.iconst 5, 1) := by decide +kernel
theorem dL_isStep_213 : decode cL_isStep 213 = .ok (.if_icmp .ne 17, 3) := by decide +kernel
theorem dL_isStep_216 : decode cL_isStep 216 = .ok (.bipush 20, 2) := by decide +kernel
theorem dL_isStep_218 : decode cL_isStep 218 = .ok (.iload_n 3, 1) := by decide +kernel
theorem dL_isStep_219 : decode cL_isStep 219 = .ok (.iconst 3, 1) := by decide +kernel
theorem dL_isStep_220 : decode cL_isStep 220 = .ok (.ishr, 1) := by decide +kernel
theorem dL_isStep_221 : decode cL_isStep 221 = .ok (.bipush 41, 2) := by decide +kernel
theorem dL_isStep_223 : decode cL_isStep 223 = .ok (.invokestatic 9, 3) := by decide +kernel
theorem dL_isStep_226 : decode cL_isStep 226 = .ok (.iadd, 1) := by decide +kernel
theorem dL_isStep_227 : decode cL_isStep 227 = .ok (.goto 28, 3) := by decide +kernel
theorem dL_isStep_230 : decode cL_isStep 230 = .ok (.iload_n 3, 1) := by decide +kernel
theorem dL_isStep_231 : decode cL_isStep 231 = .ok (.iconst 3, 1) := by decide +kernel
theorem dL_isStep_232 : decode cL_isStep 232 = .ok (.ishr, 1) := by decide +kernel
theorem dL_isStep_233 : decode cL_isStep 233 = .ok (.iload 5, 2) := by decide +kernel
theorem dL_isStep_235 : decode cL_isStep 235 = .ok (.iconst 1, 1) := by decide +kernel
theorem dL_isStep_236 : decode cL_isStep 236 = .ok (.if_icmp .eq 9, 3) := by decide +kernel
theorem dL_isStep_239 : decode cL_isStep 239 = .ok (.iload 5, 2) := by decide +kernel
theorem dL_isStep_241 : decode cL_isStep 241 = .ok (.iconst 2, 1) := by decide +kernel
theorem dL_isStep_242 : decode cL_isStep 242 = .ok (.if_icmp .ne 8, 3) := by decide +kernel
theorem dL_isStep_245 : decode cL_isStep 245 = .ok (.bipush 6, 2) := by decide +kernel
theorem dL_isStep_247 : decode cL_isStep 247 = .ok (.goto 5, 3) := by decide +kernel
theorem dL_isStep_250 : decode cL_isStep 250 = .ok (.bipush 10, 2) := by decide +kernel
theorem dL_isStep_252 : decode cL_isStep 252 = .ok (.invokestatic 9, 3) := by decide +kernel
theorem dL_isStep_255 : decode cL_isStep 255 = .ok (.istore 6, 2) := by decide +kernel
theorem dL_isStep_257 : decode cL_isStep 257 = .ok (.aload_n 0, 1) := by decide +kernel
theorem dL_isStep_258 : decode cL_isStep 258 = .ok (.iload 5, 2) := by decide +kernel
theorem dL_isStep_260 : decode cL_isStep 260 = .ok (.iload 6, 2) := by decide +kernel
theorem dL_isStep_262 : decode cL_isStep 262 = .ok (.invokevirtual 27, 3) := by decide +kernel
theorem dL_isStep_265 : decode cL_isStep 265 = .ok (.aload_n 1, 1) := by decide +kernel
theorem dL_isStep_266 : decode cL_isStep 266 = .ok (.iload 5, 2) := by decide +kernel
theorem dL_isStep_268 : decode cL_isStep 268 = .ok (.iload 6, 2) := by decide +kernel
theorem dL_isStep_270 : decode cL_isStep 270 = .ok (.invokevirtual 27, 3) := by decide +kernel
theorem dL_isStep_273 : decode cL_isStep 273 = .ok (.if_icmp .ne 7, 3) := by decide +kernel
theorem dL_isStep_276 : decode cL_isStep 276 = .ok (.iconst 1, 1) := by decide +kernel
theorem dL_isStep_277 : decode cL_isStep 277 = .ok (.goto 4, 3) := by decide +kernel
theorem dL_isStep_280 : decode cL_isStep 280 = .ok (.iconst 0, 1) := by decide +kernel
theorem dL_isStep_281 : decode cL_isStep 281 = .ok (.ireturn, 1) := by decide +kernel
set_option maxRecDepth 20000 in
theorem ggL_isWell_X4_count : GoodIn wsL_isWell wsX4_count := goodIn_r _ [5, 6, 7, 8, 9, 10, 11, 12, 13, 14, 15, 16, 17, 18, 19, 20, 65, 66, 67, 68, 69, 70, 71, 72, 73, 74, 75, 76, 77, 78, 79, 80, 81, 82, 83, 84, 85] (by decide +kernel) (by decide +kernel)
set_option maxRecDepth 20000 in
theorem gL_isWell_X4_count : GoodIn wsL_isWell (wsV RL 30 RX4 yX4_count wsX4_count) := goodIn_app (goodIn_of _ (by decide +kernel)) ggL_isWell_X4_count
set_option maxRecDepth 20000 in
theorem ggL_isWell_X4_box : GoodIn wsL_isWell wsX4_box := goodIn_r _ [24, 10, 25, 26, 27, 14, 28, 29, 30, 31, 32, 33, 16, 34, 35, 36, 37, 38, 39, 40, 41, 42, 43, 44, 45, 65, 66, 67, 68, 69, 70, 76, 77, 78, 79, 80, 81, 82, 83, 84, 85, 86, 87, 88, 89, 90, 91, 92] (by decide +kernel) (by decide +kernel)
set_option maxRecDepth 20000 in
theorem gL_isWell_X4_box : GoodIn wsL_isWell (wsV RL 33 RX4 yX4_box wsX4_box) := goodIn_app (goodIn_of _ (by decide +kernel)) ggL_isWell_X4_box
set_option maxRecDepth 20000 in
theorem ggL_isWell_X4_plan : GoodIn wsL_isWell wsX4_plan := goodIn_r _ [49, 10, 50, 51, 52, 14, 53, 18, 54, 65, 66, 67, 68, 69, 70, 76, 77, 78, 79, 80, 81, 82, 83, 84, 85] (by decide +kernel) (by decide +kernel)
set_option maxRecDepth 20000 in
theorem gL_isWell_X4_plan : GoodIn wsL_isWell (wsV RL 36 RX4 yX4_plan wsX4_plan) := goodIn_app (goodIn_of _ (by decide +kernel)) ggL_isWell_X4_plan
set_option maxRecDepth 20000 in
theorem ggL_isWell_X4_report : GoodIn wsL_isWell wsX4_report := goodIn_r _ [58, 10, 59, 60, 61, 14, 62, 17, 63, 19, 64, 65, 66, 67, 68, 69, 70, 76, 77, 78, 79, 80, 81, 82, 83, 84, 85] (by decide +kernel) (by decide +kernel)
set_option maxRecDepth 20000 in
theorem gL_isWell_X4_report : GoodIn wsL_isWell (wsV RL 39 RX4 yX4_report wsX4_report) := goodIn_app (goodIn_of _ (by decide +kernel)) ggL_isWell_X4_report
theorem dL_isWell_0 : decode cL_isWell 0 = .ok (.aload_n 0, 1) := by decide +kernel
theorem dL_isWell_1 : decode cL_isWell 1 = .ok (.iconst 1, 1) := by decide +kernel
theorem dL_isWell_2 : decode cL_isWell 2 = .ok (.invokevirtual 30, 3) := by decide +kernel
theorem dL_isWell_5 : decode cL_isWell 5 = .ok (.istore_n 2, 1) := by decide +kernel
theorem dL_isWell_6 : decode cL_isWell 6 = .ok (.iconst 0, 1) := by decide +kernel
theorem dL_isWell_7 : decode cL_isWell 7 = .ok (.istore_n 3, 1) := by decide +kernel
theorem dL_isWell_8 : decode cL_isWell 8 = .ok (.iconst 0, 1) := by decide +kernel
theorem dL_isWell_9 : decode cL_isWell 9 = .ok (.istore 4, 2) := by decide +kernel
theorem dL_isWell_11 : decode cL_isWell 11 = .ok (.aload_n 0, 1) := by decide +kernel
theorem dL_isWell_12 : decode cL_isWell 12 = .ok (.iconst 2, 1) := by decide +kernel
theorem dL_isWell_13 : decode cL_isWell 13 = .ok (.invokevirtual 30, 3) := by decide +kernel
theorem dL_isWell_16 : decode cL_isWell 16 = .ok (.iload_n 2, 1) := by decide +kernel
theorem dL_isWell_17 : decode cL_isWell 17 = .ok (.aload_n 0, 1) := by decide +kernel
theorem dL_isWell_18 : decode cL_isWell 18 = .ok (.iconst 3, 1) := by decide +kernel
theorem dL_isWell_19 : decode cL_isWell 19 = .ok (.invokevirtual 30, 3) := by decide +kernel
theorem dL_isWell_22 : decode cL_isWell 22 = .ok (.iadd, 1) := by decide +kernel
theorem dL_isWell_23 : decode cL_isWell 23 = .ok (.aload_n 0, 1) := by decide +kernel
theorem dL_isWell_24 : decode cL_isWell 24 = .ok (.iconst 4, 1) := by decide +kernel
theorem dL_isWell_25 : decode cL_isWell 25 = .ok (.invokevirtual 30, 3) := by decide +kernel
theorem dL_isWell_28 : decode cL_isWell 28 = .ok (.iadd, 1) := by decide +kernel
theorem dL_isWell_29 : decode cL_isWell 29 = .ok (.aload_n 0, 1) := by decide +kernel
theorem dL_isWell_30 : decode cL_isWell 30 = .ok (.iconst 5, 1) := by decide +kernel
theorem dL_isWell_31 : decode cL_isWell 31 = .ok (.invokevirtual 30, 3) := by decide +kernel
theorem dL_isWell_34 : decode cL_isWell 34 = .ok (.iadd, 1) := by decide +kernel
theorem dL_isWell_35 : decode cL_isWell 35 = .ok (.if_icmp .ne 27, 3) := by decide +kernel
theorem dL_isWell_38 : decode cL_isWell 38 = .ok (.aload_n 0, 1) := by decide +kernel
theorem dL_isWell_39 : decode cL_isWell 39 = .ok (.bipush 10, 2) := by decide +kernel
theorem dL_isWell_41 : decode cL_isWell 41 = .ok (.invokevirtual 30, 3) := by decide +kernel
theorem dL_isWell_44 : decode cL_isWell 44 = .ok (.ifCond .lt 18, 3) := by decide +kernel
theorem dL_isWell_47 : decode cL_isWell 47 = .ok (.aload_n 0, 1) := by decide +kernel
theorem dL_isWell_48 : decode cL_isWell 48 = .ok (.bipush 10, 2) := by decide +kernel
theorem dL_isWell_50 : decode cL_isWell 50 = .ok (.invokevirtual 30, 3) := by decide +kernel
theorem dL_isWell_53 : decode cL_isWell 53 = .ok (.bipush 60, 2) := by decide +kernel
theorem dL_isWell_55 : decode cL_isWell 55 = .ok (.if_icmp .gt 7, 3) := by decide +kernel
theorem dL_isWell_58 : decode cL_isWell 58 = .ok (.iconst 1, 1) := by decide +kernel
theorem dL_isWell_59 : decode cL_isWell 59 = .ok (.goto 4, 3) := by decide +kernel
theorem dL_isWell_62 : decode cL_isWell 62 = .ok (.iconst 0, 1) := by decide +kernel
theorem dL_isWell_63 : decode cL_isWell 63 = .ok (.istore 5, 2) := by decide +kernel
theorem dL_isWell_65 : decode cL_isWell 65 = .ok (.iconst 0, 1) := by decide +kernel
theorem dL_isWell_66 : decode cL_isWell 66 = .ok (.istore 6, 2) := by decide +kernel
theorem dL_isWell_68 : decode cL_isWell 68 = .ok (.iload 6, 2) := by decide +kernel
theorem dL_isWell_70 : decode cL_isWell 70 = .ok (.bipush 22, 2) := by decide +kernel
theorem dL_isWell_72 : decode cL_isWell 72 = .ok (.if_icmp .ge 36, 3) := by decide +kernel
theorem dL_isWell_75 : decode cL_isWell 75 = .ok (.iload 5, 2) := by decide +kernel
theorem dL_isWell_77 : decode cL_isWell 77 = .ok (.ifCond .eq 22, 3) := by decide +kernel
theorem dL_isWell_80 : decode cL_isWell 80 = .ok (.aload_n 0, 1) := by decide +kernel
theorem dL_isWell_81 : decode cL_isWell 81 = .ok (.iload 6, 2) := by decide +kernel
theorem dL_isWell_83 : decode cL_isWell 83 = .ok (.invokevirtual 30, 3) := by decide +kernel
theorem dL_isWell_86 : decode cL_isWell 86 = .ok (.aload_n 1, 1) := by decide +kernel
theorem dL_isWell_87 : decode cL_isWell 87 = .ok (.iload 6, 2) := by decide +kernel
theorem dL_isWell_89 : decode cL_isWell 89 = .ok (.invokevirtual 30, 3) := by decide +kernel
theorem dL_isWell_92 : decode cL_isWell 92 = .ok (.if_icmp .ne 7, 3) := by decide +kernel
theorem dL_isWell_95 : decode cL_isWell 95 = .ok (.iconst 1, 1) := by decide +kernel
theorem dL_isWell_96 : decode cL_isWell 96 = .ok (.goto 4, 3) := by decide +kernel
theorem dL_isWell_99 : decode cL_isWell 99 = .ok (.iconst 0, 1) := by decide +kernel
theorem dL_isWell_100 : decode cL_isWell 100 = .ok (.istore 5, 2) := by decide +kernel
theorem dL_isWell_102 : decode cL_isWell 102 = .ok (.iinc 6 1, 3) := by decide +kernel
theorem dL_isWell_105 : decode cL_isWell 105 = .ok (.goto (-37), 3) := by decide +kernel
theorem dL_isWell_108 : decode cL_isWell 108 = .ok (.iconst 0, 1) := by decide +kernel
theorem dL_isWell_109 : decode cL_isWell 109 = .ok (.istore 6, 2) := by decide +kernel
theorem dL_isWell_111 : decode cL_isWell 111 = .ok (.iconst 0, 1) := by decide +kernel
theorem dL_isWell_112 : decode cL_isWell 112 = .ok (.istore 7, 2) := by decide +kernel
theorem dL_isWell_114 : decode cL_isWell 114 = .ok (.iload 7, 2) := by decide +kernel
theorem dL_isWell_116 : decode cL_isWell 116 = .ok (.iload_n 2, 1) := by decide +kernel
theorem dL_isWell_117 : decode cL_isWell 117 = .ok (.if_icmp .ge 207, 3) := by decide +kernel
theorem dL_isWell_120 : decode cL_isWell 120 = .ok (.iload 5, 2) := by decide +kernel
theorem dL_isWell_122 : decode cL_isWell 122 = .ok (.ifCond .eq 202, 3) := by decide +kernel
theorem dL_isWell_125 : decode cL_isWell 125 = .ok (.aload_n 0, 1) := by decide +kernel
theorem dL_isWell_126 : decode cL_isWell 126 = .ok (.iload 7, 2) := by decide +kernel
theorem dL_isWell_128 : decode cL_isWell 128 = .ok (.iconst 0, 1) := by decide +kernel
theorem dL_isWell_129 : decode cL_isWell 129 = .ok (.invokevirtual 33, 3) := by decide +kernel
theorem dL_isWell_132 : decode cL_isWell 132 = .ok (.istore 8, 2) := by decide +kernel
theorem dL_isWell_134 : decode cL_isWell 134 = .ok (.aload_n 0, 1) := by decide +kernel
theorem dL_isWell_135 : decode cL_isWell 135 = .ok (.iload 7, 2) := by decide +kernel
theorem dL_isWell_137 : decode cL_isWell 137 = .ok (.iconst 3, 1) := by decide +kernel
theorem dL_isWell_138 : decode cL_isWell 138 = .ok (.invokevirtual 33, 3) := by decide +kernel
theorem dL_isWell_141 : decode cL_isWell 141 = .ok (.istore 9, 2) := by decide +kernel
theorem dL_isWell_143 : decode cL_isWell 143 = .ok (.iload_n 3, 1) := by decide +kernel
theorem dL_isWell_144 : decode cL_isWell 144 = .ok (.aload_n 0, 1) := by decide +kernel
theorem dL_isWell_145 : decode cL_isWell 145 = .ok (.iload 7, 2) := by decide +kernel
theorem dL_isWell_147 : decode cL_isWell 147 = .ok (.iconst 4, 1) := by decide +kernel
theorem dL_isWell_148 : decode cL_isWell 148 = .ok (.invokevirtual 33, 3) := by decide +kernel
theorem dL_isWell_151 : decode cL_isWell 151 = .ok (.iadd, 1) := by decide +kernel
theorem dL_isWell_152 : decode cL_isWell 152 = .ok (.istore_n 3, 1) := by decide +kernel
theorem dL_isWell_153 : decode cL_isWell 153 = .ok (.iload 4, 2) := by decide +kernel
theorem dL_isWell_155 : decode cL_isWell 155 = .ok (.iload 9, 2) := by decide +kernel
theorem dL_isWell_157 : decode cL_isWell 157 = .ok (.bipush (-6), 2) := by decide +kernel
theorem dL_isWell_159 : decode cL_isWell 159 = .ok (.if_icmp .ne 7, 3) := by decide +kernel
theorem dL_isWell_162 : decode cL_isWell 162 = .ok (.iconst 0, 1) := by decide +kernel
theorem dL_isWell_163 : decode cL_isWell 163 = .ok (.goto 4, 3) := by decide +kernel
theorem dL_isWell_166 : decode cL_isWell 166 = .ok (.iconst 1, 1) := by decide +kernel
theorem dL_isWell_167 : decode cL_isWell 167 = .ok (.iadd, 1) := by decide +kernel
theorem dL_isWell_168 : decode cL_isWell 168 = .ok (.istore 4, 2) := by decide +kernel
theorem dL_isWell_170 : decode cL_isWell 170 = .ok (.iload 6, 2) := by decide +kernel
theorem dL_isWell_172 : decode cL_isWell 172 = .ok (.iconst 1, 1) := by decide +kernel
theorem dL_isWell_173 : decode cL_isWell 173 = .ok (.aload_n 0, 1) := by decide +kernel
theorem dL_isWell_174 : decode cL_isWell 174 = .ok (.iload 7, 2) := by decide +kernel
theorem dL_isWell_176 : decode cL_isWell 176 = .ok (.iconst 2, 1) := by decide +kernel
theorem dL_isWell_177 : decode cL_isWell 177 = .ok (.invokevirtual 33, 3) := by decide +kernel
theorem dL_isWell_180 : decode cL_isWell 180 = .ok (.isub, 1) := by decide +kernel
theorem dL_isWell_181 : decode cL_isWell 181 = .ok (.iadd, 1) := by decide +kernel
theorem dL_isWell_182 : decode cL_isWell 182 = .ok (.istore 6, 2) := by decide +kernel
theorem dL_isWell_184 : decode cL_isWell 184 = .ok (.iload 8, 2) := by decide +kernel
theorem dL_isWell_186 : decode cL_isWell 186 = .ok (.aload_n 1, 1) := by decide +kernel
theorem dL_isWell_187 : decode cL_isWell 187 = .ok (.iload 7, 2) := by decide +kernel
theorem dL_isWell_189 : decode cL_isWell 189 = .ok (.iconst 0, 1) := by decide +kernel
theorem dL_isWell_190 : decode cL_isWell 190 = .ok (.invokevirtual 33, 3) := by decide +kernel
theorem dL_isWell_193 : decode cL_isWell 193 = .ok (.if_icmp .ne 122, 3) := by decide +kernel
theorem dL_isWell_196 : decode cL_isWell 196 = .ok (.iload 9, 2) := by decide +kernel
theorem dL_isWell_198 : decode cL_isWell 198 = .ok (.aload_n 1, 1) := by decide +kernel
theorem dL_isWell_199 : decode cL_isWell 199 = .ok (.iload 7, 2) := by decide +kernel
theorem dL_isWell_201 : decode cL_isWell 201 = .ok (.iconst 3, 1) := by decide +kernel
theorem dL_isWell_202 : decode cL_isWell 202 = .ok (.invokevirtual 33, 3) := by decide +kernel
theorem dL_isWell_205 : decode cL_isWell 205 = .ok (.if_icmp .ne 110, 3) := by decide +kernel
theorem dL_isWell_208 : decode cL_isWell 208 = .ok (.iload 7, 2) := by decide +kernel
theorem dL_isWell_210 : decode cL_isWell 210 = .ok (.ifCond .eq 46, 3) := by decide +kernel
theorem dL_isWell_213 : decode cL_isWell 213 = .ok (.aload_n 0, 1) := by decide +kernel
theorem dL_isWell_214 : decode cL_isWell 214 = .ok (.iload 7, 2) := by decide +kernel
theorem dL_isWell_216 : decode cL_isWell 216 = .ok (.iconst 1, 1) := by decide +kernel
theorem dL_isWell_217 : decode cL_isWell 217 = .ok (.isub, 1) := by decide +kernel
theorem dL_isWell_218 : decode cL_isWell 218 = .ok (.iconst 0, 1) := by decide +kernel
theorem dL_isWell_219 : decode cL_isWell 219 = .ok (.invokevirtual 33, 3) := by decide +kernel
theorem dL_isWell_222 : decode cL_isWell 222 = .ok (.aload_n 0, 1) := by decide +kernel
theorem dL_isWell_223 : decode cL_isWell 223 = .ok (.iload 7, 2) := by decide +kernel
theorem dL_isWell_225 : decode cL_isWell 225 = .ok (.iconst 1, 1) := by decide +kernel
theorem dL_isWell_226 : decode cL_isWell 226 = .ok (.isub, 1) := by decide +kernel
theorem dL_isWell_227 : decode cL_isWell 227 = .ok (.iconst 1, 1) := by decide +kernel
theorem dL_isWell_228 : decode cL_isWell 228 = .ok (.invokevirtual 33, 3) := by decide +kernel
theorem dL_isWell_231 : decode cL_isWell 231 = .ok (.isub, 1) := by decide +kernel
theorem dL_isWell_232 : decode cL_isWell 232 = .ok (.iload 8, 2) := by decide +kernel
theorem dL_isWell_234 : decode cL_isWell 234 = .ok (.if_icmp .le 81, 3) := by decide +kernel
theorem dL_isWell_237 : decode cL_isWell 237 = .ok (.aload_n 0, 1) := by decide +kernel
theorem dL_isWell_238 : decode cL_isWell 238 = .ok (.iload 7, 2) := by decide +kernel
theorem dL_isWell_240 : decode cL_isWell 240 = .ok (.iconst 5, 1) := by decide +kernel
theorem dL_isWell_241 : decode cL_isWell 241 = .ok (.invokevirtual 33, 3) := by decide +kernel
theorem dL_isWell_244 : decode cL_isWell 244 = .ok (.aload_n 0, 1) := by decide +kernel
theorem dL_isWell_245 : decode cL_isWell 245 = .ok (.iload 7, 2) := by decide +kernel
theorem dL_isWell_247 : decode cL_isWell 247 = .ok (.iconst 1, 1) := by decide +kernel
theorem dL_isWell_248 : decode cL_isWell 248 = .ok (.isub, 1) := by decide +kernel
theorem dL_isWell_249 : decode cL_isWell 249 = .ok (.iconst 5, 1) := by decide +kernel
theorem dL_isWell_250 : decode cL_isWell 250 = .ok (.invokevirtual 33, 3) := by decide +kernel
theorem dL_isWell_253 : decode cL_isWell 253 = .ok (.if_icmp .le 62, 3) := by decide +kernel
theorem dL_isWell_256 : decode cL_isWell 256 = .ok (.aload_n 0, 1) := by decide +kernel
theorem dL_isWell_257 : decode cL_isWell 257 = .ok (.iload 7, 2) := by decide +kernel
theorem dL_isWell_259 : decode cL_isWell 259 = .ok (.iconst 4, 1) := by decide +kernel
theorem dL_isWell_260 : decode cL_isWell 260 = .ok (.invokevirtual 33, 3) := by decide +kernel
theorem dL_isWell_263 : decode cL_isWell 263 = .ok (.ifCond .eq 10, 3) := by decide +kernel
theorem dL_isWell_266 : decode cL_isWell 266 = .ok (.iload 9, 2) := by decide +kernel
theorem dL_isWell_268 : decode cL_isWell 268 = .ok (.bipush (-6), 2) := by decide +kernel
theorem dL_isWell_270 : decode cL_isWell 270 = .ok (.if_icmp .eq 45, 3) := by decide +kernel
theorem dL_isWell_273 : decode cL_isWell 273 = .ok (.aload_n 0, 1) := by decide +kernel
theorem dL_isWell_274 : decode cL_isWell 274 = .ok (.iload 7, 2) := by decide +kernel
theorem dL_isWell_276 : decode cL_isWell 276 = .ok (.iconst 5, 1) := by decide +kernel
theorem dL_isWell_277 : decode cL_isWell 277 = .ok (.invokevirtual 33, 3) := by decide +kernel
theorem dL_isWell_280 : decode cL_isWell 280 = .ok (.aload_n 0, 1) := by decide +kernel
theorem dL_isWell_281 : decode cL_isWell 281 = .ok (.iconst 2, 1) := by decide +kernel
theorem dL_isWell_282 : decode cL_isWell 282 = .ok (.invokevirtual 30, 3) := by decide +kernel
theorem dL_isWell_285 : decode cL_isWell 285 = .ok (.if_icmp .ge 30, 3) := by decide +kernel
theorem dL_isWell_288 : decode cL_isWell 288 = .ok (.aload_n 0, 1) := by decide +kernel
theorem dL_isWell_289 : decode cL_isWell 289 = .ok (.iload 7, 2) := by decide +kernel
theorem dL_isWell_291 : decode cL_isWell 291 = .ok (.iconst 1, 1) := by decide +kernel
theorem dL_isWell_292 : decode cL_isWell 292 = .ok (.invokevirtual 33, 3) := by decide +kernel
theorem dL_isWell_295 : decode cL_isWell 295 = .ok (.iconst 4, 1) := by decide +kernel
theorem dL_isWell_296 : decode cL_isWell 296 = .ok (.if_icmp .lt 19, 3) := by decide +kernel
theorem dL_isWell_299 : decode cL_isWell 299 = .ok (.aload_n 0, 1) := by decide +kernel
theorem dL_isWell_300 : decode cL_isWell 300 = .ok (.iload 7, 2) := by decide +kernel
theorem dL_isWell_302 : decode cL_isWell 302 = .ok (.iconst 1, 1) := by decide +kernel
theorem dL_isWell_303 : decode cL_isWell 303 = .ok (.invokevirtual 33, 3) := by decide +kernel
theorem dL_isWell_306 : decode cL_isWell 306 = .ok (.bipush 30, 2) := by decide +kernel
theorem dL_isWell_308 : decode cL_isWell 308 = .ok (.if_icmp .gt 7, 3) := by decide +kernel
theorem dL_isWell_311 : decode cL_isWell 311 = .ok (.iconst 1, 1) := by decide +kernel
theorem dL_isWell_312 : decode cL_isWell 312 = .ok (.goto 4, 3) := by decide +kernel
theorem dL_isWell_315 : decode cL_isWell 315 = .ok (.iconst 0, 1) := by decide +kernel
theorem dL_isWell_316 : decode cL_isWell 316 = .ok (.istore 5, 2) := by decide +kernel
theorem dL_isWell_318 : decode cL_isWell 318 = .ok (.iinc 7 1, 3) := by decide +kernel
theorem dL_isWell_321 : decode cL_isWell 321 = .ok (.goto (-207), 3) := by decide +kernel
theorem dL_isWell_324 : decode cL_isWell 324 = .ok (.iload 5, 2) := by decide +kernel
theorem dL_isWell_326 : decode cL_isWell 326 = .ok (.ifCond .eq 80, 3) := by decide +kernel
theorem dL_isWell_329 : decode cL_isWell 329 = .ok (.aload_n 0, 1) := by decide +kernel
theorem dL_isWell_330 : decode cL_isWell 330 = .ok (.iconst 2, 1) := by decide +kernel
theorem dL_isWell_331 : decode cL_isWell 331 = .ok (.invokevirtual 30, 3) := by decide +kernel
theorem dL_isWell_334 : decode cL_isWell 334 = .ok (.iload 6, 2) := by decide +kernel
theorem dL_isWell_336 : decode cL_isWell 336 = .ok (.isub, 1) := by decide +kernel
theorem dL_isWell_337 : decode cL_isWell 337 = .ok (.aload_n 0, 1) := by decide +kernel
theorem dL_isWell_338 : decode cL_isWell 338 = .ok (.bipush 11, 2) := by decide +kernel
theorem dL_isWell_340 : decode cL_isWell 340 = .ok (.invokevirtual 30, 3) := by decide +kernel
theorem dL_isWell_343 : decode cL_isWell 343 = .ok (.aload_n 0, 1) := by decide +kernel
theorem dL_isWell_344 : decode cL_isWell 344 = .ok (.bipush 12, 2) := by decide +kernel
theorem dL_isWell_346 : decode cL_isWell 346 = .ok (.invokevirtual 30, 3) := by decide +kernel
theorem dL_isWell_349 : decode cL_isWell 349 = .ok (.iadd, 1) := by decide +kernel
theorem dL_isWell_350 : decode cL_isWell 350 = .ok (.aload_n 0, 1) := by decide +kernel
theorem dL_isWell_351 : decode cL_isWell 351 = .ok (.bipush 6, 2) := by decide +kernel
theorem dL_isWell_353 : decode cL_isWell 353 = .ok (.invokevirtual 30, 3) := by decide +kernel
theorem dL_isWell_356 : decode cL_isWell 356 = .ok (.iadd, 1) := by decide +kernel
theorem dL_isWell_357 : decode cL_isWell 357 = .ok (.aload_n 0, 1) := by decide +kernel
theorem dL_isWell_358 : decode cL_isWell 358 = .ok (.bipush 7, 2) := by decide +kernel
theorem dL_isWell_360 : decode cL_isWell 360 = .ok (.invokevirtual 30, 3) := by decide +kernel
theorem dL_isWell_363 : decode cL_isWell 363 = .ok (.iadd, 1) := by decide +kernel
theorem dL_isWell_364 : decode cL_isWell 364 = .ok (.aload_n 0, 1) := by decide +kernel
theorem dL_isWell_365 : decode cL_isWell 365 = .ok (.bipush 9, 2) := by decide +kernel
theorem dL_isWell_367 : decode cL_isWell 367 = .ok (.invokevirtual 30, 3) := by decide +kernel
theorem dL_isWell_370 : decode cL_isWell 370 = .ok (.iadd, 1) := by decide +kernel
theorem dL_isWell_371 : decode cL_isWell 371 = .ok (.if_icmp .ne 35, 3) := by decide +kernel
theorem dL_isWell_374 : decode cL_isWell 374 = .ok (.iload_n 3, 1) := by decide +kernel
theorem dL_isWell_375 : decode cL_isWell 375 = .ok (.aload_n 0, 1) := by decide +kernel
theorem dL_isWell_376 : decode cL_isWell 376 = .ok (.bipush 8, 2) := by decide +kernel
theorem dL_isWell_378 : decode cL_isWell 378 = .ok (.invokevirtual 30, 3) := by decide +kernel
theorem dL_isWell_381 : decode cL_isWell 381 = .ok (.if_icmp .gt 25, 3) := by decide +kernel
theorem dL_isWell_384 : decode cL_isWell 384 = .ok (.iload 4, 2) := by decide +kernel
theorem dL_isWell_386 : decode cL_isWell 386 = .ok (.aload_n 0, 1) := by decide +kernel
theorem dL_isWell_387 : decode cL_isWell 387 = .ok (.bipush 8, 2) := by decide +kernel
theorem dL_isWell_389 : decode cL_isWell 389 = .ok (.invokevirtual 30, 3) := by decide +kernel
theorem dL_isWell_392 : decode cL_isWell 392 = .ok (.iadd, 1) := by decide +kernel
theorem dL_isWell_393 : decode cL_isWell 393 = .ok (.aload_n 0, 1) := by decide +kernel
theorem dL_isWell_394 : decode cL_isWell 394 = .ok (.bipush 6, 2) := by decide +kernel
theorem dL_isWell_396 : decode cL_isWell 396 = .ok (.invokevirtual 30, 3) := by decide +kernel
theorem dL_isWell_399 : decode cL_isWell 399 = .ok (.if_icmp .gt 7, 3) := by decide +kernel
theorem dL_isWell_402 : decode cL_isWell 402 = .ok (.iconst 1, 1) := by decide +kernel
theorem dL_isWell_403 : decode cL_isWell 403 = .ok (.goto 4, 3) := by decide +kernel
theorem dL_isWell_406 : decode cL_isWell 406 = .ok (.iconst 0, 1) := by decide +kernel
theorem dL_isWell_407 : decode cL_isWell 407 = .ok (.istore 5, 2) := by decide +kernel
theorem dL_isWell_409 : decode cL_isWell 409 = .ok (.iconst 0, 1) := by decide +kernel
theorem dL_isWell_410 : decode cL_isWell 410 = .ok (.istore 7, 2) := by decide +kernel
theorem dL_isWell_412 : decode cL_isWell 412 = .ok (.iload 7, 2) := by decide +kernel
theorem dL_isWell_414 : decode cL_isWell 414 = .ok (.aload_n 0, 1) := by decide +kernel
theorem dL_isWell_415 : decode cL_isWell 415 = .ok (.bipush 12, 2) := by decide +kernel
theorem dL_isWell_417 : decode cL_isWell 417 = .ok (.invokevirtual 30, 3) := by decide +kernel
theorem dL_isWell_420 : decode cL_isWell 420 = .ok (.if_icmp .ge 48, 3) := by decide +kernel
theorem dL_isWell_423 : decode cL_isWell 423 = .ok (.iload 5, 2) := by decide +kernel
theorem dL_isWell_425 : decode cL_isWell 425 = .ok (.ifCond .eq 34, 3) := by decide +kernel
theorem dL_isWell_428 : decode cL_isWell 428 = .ok (.aload_n 0, 1) := by decide +kernel
theorem dL_isWell_429 : decode cL_isWell 429 = .ok (.iload 7, 2) := by decide +kernel
theorem dL_isWell_431 : decode cL_isWell 431 = .ok (.invokevirtual 36, 3) := by decide +kernel
theorem dL_isWell_434 : decode cL_isWell 434 = .ok (.sipush 1000, 3) := by decide +kernel
theorem dL_isWell_437 : decode cL_isWell 437 = .ok (.if_icmp .le 22, 3) := by decide +kernel
theorem dL_isWell_440 : decode cL_isWell 440 = .ok (.aload_n 0, 1) := by decide +kernel
theorem dL_isWell_441 : decode cL_isWell 441 = .ok (.iload 7, 2) := by decide +kernel
theorem dL_isWell_443 : decode cL_isWell 443 = .ok (.invokevirtual 36, 3) := by decide +kernel
theorem dL_isWell_446 : decode cL_isWell 446 = .ok (.aload_n 1, 1) := by decide +kernel
theorem dL_isWell_447 : decode cL_isWell 447 = .ok (.iload 7, 2) := by decide +kernel
theorem dL_isWell_449 : decode cL_isWell 449 = .ok (.invokevirtual 36, 3) := by decide +kernel
theorem dL_isWell_452 : decode cL_isWell 452 = .ok (.if_icmp .ne 7, 3) := by decide +kernel
theorem dL_isWell_455 : decode cL_isWell 455 = .ok (.iconst 1, 1) := by decide +kernel
theorem dL_isWell_456 : decode cL_isWell 456 = .ok (.goto 4, 3) := by decide +kernel
theorem dL_isWell_459 : decode cL_isWell 459 = .ok (.iconst 0, 1) := by decide +kernel
theorem dL_isWell_460 : decode cL_isWell 460 = .ok (.istore 5, 2) := by decide +kernel
theorem dL_isWell_462 : decode cL_isWell 462 = .ok (.iinc 7 1, 3) := by decide +kernel
theorem dL_isWell_465 : decode cL_isWell 465 = .ok (.goto (-53), 3) := by decide +kernel
theorem dL_isWell_468 : decode cL_isWell 468 = .ok (.iconst 0, 1) := by decide +kernel
theorem dL_isWell_469 : decode cL_isWell 469 = .ok (.istore 7, 2) := by decide +kernel
theorem dL_isWell_471 : decode cL_isWell 471 = .ok (.iload 7, 2) := by decide +kernel
theorem dL_isWell_473 : decode cL_isWell 473 = .ok (.aload_n 0, 1) := by decide +kernel
theorem dL_isWell_474 : decode cL_isWell 474 = .ok (.bipush 11, 2) := by decide +kernel
theorem dL_isWell_476 : decode cL_isWell 476 = .ok (.invokevirtual 30, 3) := by decide +kernel
theorem dL_isWell_479 : decode cL_isWell 479 = .ok (.if_icmp .ge 54, 3) := by decide +kernel
theorem dL_isWell_482 : decode cL_isWell 482 = .ok (.iload 5, 2) := by decide +kernel
theorem dL_isWell_484 : decode cL_isWell 484 = .ok (.ifCond .eq 40, 3) := by decide +kernel
theorem dL_isWell_487 : decode cL_isWell 487 = .ok (.aload_n 0, 1) := by decide +kernel
theorem dL_isWell_488 : decode cL_isWell 488 = .ok (.iload 7, 2) := by decide +kernel
theorem dL_isWell_490 : decode cL_isWell 490 = .ok (.iconst 0, 1) := by decide +kernel
theorem dL_isWell_491 : decode cL_isWell 491 = .ok (.invokevirtual 39, 3) := by decide +kernel
theorem dL_isWell_494 : decode cL_isWell 494 = .ok (.iconst 1, 1) := by decide +kernel
theorem dL_isWell_495 : decode cL_isWell 495 = .ok (.if_icmp .lt 29, 3) := by decide +kernel
theorem dL_isWell_498 : decode cL_isWell 498 = .ok (.aload_n 0, 1) := by decide +kernel
theorem dL_isWell_499 : decode cL_isWell 499 = .ok (.iload 7, 2) := by decide +kernel
theorem dL_isWell_501 : decode cL_isWell 501 = .ok (.iconst 0, 1) := by decide +kernel
theorem dL_isWell_502 : decode cL_isWell 502 = .ok (.invokevirtual 39, 3) := by decide +kernel
theorem dL_isWell_505 : decode cL_isWell 505 = .ok (.bipush 6, 2) := by decide +kernel
theorem dL_isWell_507 : decode cL_isWell 507 = .ok (.if_icmp .gt 17, 3) := by decide +kernel
theorem dL_isWell_510 : decode cL_isWell 510 = .ok (.aload_n 0, 1) := by decide +kernel
theorem dL_isWell_511 : decode cL_isWell 511 = .ok (.iload 7, 2) := by decide +kernel
theorem dL_isWell_513 : decode cL_isWell 513 = .ok (.iconst 1, 1) := by decide +kernel
theorem dL_isWell_514 : decode cL_isWell 514 = .ok (.invokevirtual 39, 3) := by decide +kernel
theorem dL_isWell_517 : decode cL_isWell 517 = .ok (.ifCond .lt 7, 3) := by decide +kernel
theorem dL_isWell_520 : decode cL_isWell 520 = .ok (.iconst 1, 1) := by decide +kernel
theorem dL_isWell_521 : decode cL_isWell 521 = .ok (.goto 4, 3) := by decide +kernel
theorem dL_isWell_524 : decode cL_isWell 524 = .ok (.iconst 0, 1) := by decide +kernel
theorem dL_isWell_525 : decode cL_isWell 525 = .ok (.istore 5, 2) := by decide +kernel
theorem dL_isWell_527 : decode cL_isWell 527 = .ok (.iinc 7 1, 3) := by decide +kernel
theorem dL_isWell_530 : decode cL_isWell 530 = .ok (.goto (-59), 3) := by decide +kernel
theorem dL_isWell_533 : decode cL_isWell 533 = .ok (.iload 5, 2) := by decide +kernel
theorem dL_isWell_535 : decode cL_isWell 535 = .ok (.ireturn, 1) := by decide +kernel
set_option maxRecDepth 20000 in
theorem ggL_isForeseen_X4_ifPass : GoodIn wsL_isForeseen wsX4_ifPass := goodIn_r _ [5, 6, 7, 8, 9, 10, 4, 11, 12, 13, 14, 15, 16, 17, 18, 19, 20, 21, 22, 23, 24, 25, 26, 27, 28, 29, 30, 31, 32, 33, 34, 35, 36, 37, 38, 39, 40, 41, 42, 43, 44, 45, 46, 47, 48, 49, 50, 51, 52, 53, 54, 55, 56, 57, 58, 59, 60, 61, 62, 63, 64, 65, 66, 67, 68, 69, 70, 71, 72, 73, 74, 75, 76, 77, 78, 79, 80, 81, 82, 83, 84, 85, 86, 87, 88, 89, 90, 91, 92, 93, 94, 95, 96, 97, 98, 99, 100, 101, 102, 103, 104, 105, 106, 107, 108, 109, 110, 111, 112, 113, 114, 115, 116, 117, 118, 119, 120, 121, 122, 180, 181, 182, 183, 184, 185, 186, 187, 188, 189, 190, 191, 192, 193, 194, 195, 196, 197, 198, 199, 200, 201, 202] (by decide +kernel) (by decide +kernel)
set_option maxRecDepth 20000 in
theorem gL_isForeseen_X4_ifPass : GoodIn wsL_isForeseen (wsV RL 42 RX4 yX4_ifPass wsX4_ifPass) := goodIn_app (goodIn_of _ (by decide +kernel)) ggL_isForeseen_X4_ifPass
set_option maxRecDepth 20000 in
theorem ggL_isForeseen_X4_bestGuess : GoodIn wsL_isForeseen wsX4_bestGuess := goodIn_r _ [126, 9, 10, 4, 11, 127, 128, 129, 130, 7, 8, 131, 12, 13, 14, 15, 16, 17, 18, 19, 20, 21, 22, 23, 24, 25, 26, 27, 28, 29, 30, 31, 32, 33, 34, 35, 36, 37, 38, 39, 40, 41, 42, 43, 44, 45, 46, 47, 48, 49, 50, 51, 52, 53, 54, 55, 56, 57, 58, 59, 60, 61, 62, 63, 64, 65, 66, 67, 68, 69, 70, 71, 72, 73, 74, 75, 76, 77, 78, 79, 80, 81, 82, 83, 84, 85, 86, 87, 88, 89, 90, 91, 92, 93, 94, 95, 96, 97, 98, 99, 100, 101, 102, 103, 104, 105, 106, 107, 108, 109, 110, 111, 112, 113, 114, 115, 116, 117, 118, 119, 120, 121, 122, 180, 181, 182, 183, 184, 185, 186, 187, 188, 189, 190, 191, 192, 193, 194, 195, 196, 197, 198, 199, 200, 201, 202] (by decide +kernel) (by decide +kernel)
set_option maxRecDepth 20000 in
theorem gL_isForeseen_X4_bestGuess : GoodIn wsL_isForeseen (wsV RL 45 RX4 yX4_bestGuess wsX4_bestGuess) := goodIn_app (goodIn_of _ (by decide +kernel)) ggL_isForeseen_X4_bestGuess
set_option maxRecDepth 20000 in
theorem ggL_isForeseen_X4_pass : GoodIn wsL_isForeseen wsX4_pass := goodIn_r _ [135, 136, 8, 137, 138, 139, 140, 141, 142, 143, 144, 145, 146, 147, 148, 149, 150, 151, 152, 153, 13, 14, 15, 16, 17, 18, 19, 20, 21, 22, 23, 24, 25, 26, 27, 28, 29, 30, 31, 32, 33, 34, 35, 36, 37, 38, 39, 40, 41, 42, 154, 155, 156, 157, 158, 159, 160, 161, 162, 44, 45, 46, 47, 48, 49, 50, 51, 52, 53, 54, 55, 56, 57, 58, 59, 60, 61, 62, 63, 64, 65, 66, 67, 68, 69, 70, 71, 72, 73, 74, 75, 76, 77, 78, 79, 80, 81, 82, 83, 84, 85, 86, 87, 88, 89, 90, 91, 92, 93, 94, 95, 96, 97, 98, 99, 100, 101, 102, 103, 104, 105, 106, 107, 108, 109, 110, 111, 112, 113, 114, 115, 116, 117, 118, 163, 164, 165, 4, 166, 167, 168, 169, 170, 180, 181, 182, 183, 184, 185, 203, 204, 205, 186, 187, 188, 189, 190, 191, 192, 193, 194, 195, 196, 197, 198, 199, 200, 201, 202] (by decide +kernel) (by decide +kernel)
set_option maxRecDepth 20000 in
theorem gL_isForeseen_X4_pass : GoodIn wsL_isForeseen (wsV RL 21 RX4 yX4_pass wsX4_pass) := goodIn_app (goodIn_of _ (by decide +kernel)) ggL_isForeseen_X4_pass
set_option maxRecDepth 20000 in
theorem ggL_isForeseen_X4_undo : GoodIn wsL_isForeseen wsX4_undo := goodIn_r _ [174, 136, 175, 8, 176, 177, 178, 140, 179, 142, 143, 144, 145, 146, 147, 148, 149, 150, 151, 152, 153, 13, 14, 15, 16, 17, 18, 19, 20, 21, 22, 23, 24, 25, 26, 27, 28, 29, 30, 31, 32, 33, 34, 35, 36, 37, 38, 39, 40, 41, 42, 180, 181, 182, 183, 184, 185, 203, 204, 205, 186, 187, 188, 189, 190, 191, 192, 193, 194, 195, 196, 197, 198, 199, 200, 201, 202] (by decide +kernel) (by decide +kernel)
set_option maxRecDepth 20000 in
theorem gL_isForeseen_X4_undo : GoodIn wsL_isForeseen (wsV RL 48 RX4 yX4_undo wsX4_undo) := goodIn_app (goodIn_of _ (by decide +kernel)) ggL_isForeseen_X4_undo
theorem dL_isForeseen_0 : decode cL_isForeseen 0 = .ok (.aload_n 0, 1) := by decide +kernel
theorem dL_isForeseen_1 : decode cL_isForeseen 1 = .ok (.iload_n 1, 1) := by decide +kernel
theorem dL_isForeseen_2 : decode cL_isForeseen 2 = .ok (.iload_n 2, 1) := by decide +kernel
theorem dL_isForeseen_3 : decode cL_isForeseen 3 = .ok (.iadd, 1) := by decide +kernel
theorem dL_isForeseen_4 : decode cL_isForeseen 4 = .ok (.iconst 0, 1) := by decide +kernel
theorem dL_isForeseen_5 : decode cL_isForeseen 5 = .ok (.invokevirtual 42, 3) := by decide +kernel
theorem dL_isForeseen_8 : decode cL_isForeseen 8 = .ok (.istore_n 3, 1) := by decide +kernel
theorem dL_isForeseen_9 : decode cL_isForeseen 9 = .ok (.aload_n 0, 1) := by decide +kernel
theorem dL_isForeseen_10 : decode cL_isForeseen 10 = .ok (.iload_n 1, 1) := by decide +kernel
theorem dL_isForeseen_11 : decode cL_isForeseen 11 = .ok (.iload_n 2, 1) := by decide +kernel
theorem dL_isForeseen_12 : decode cL_isForeseen 12 = .ok (.iadd, 1) := by decide +kernel
theorem dL_isForeseen_13 : decode cL_isForeseen 13 = .ok (.iconst 3, 1) := by decide +kernel
theorem dL_isForeseen_14 : decode cL_isForeseen 14 = .ok (.invokevirtual 42, 3) := by decide +kernel
theorem dL_isForeseen_17 : decode cL_isForeseen 17 = .ok (.istore 4, 2) := by decide +kernel
theorem dL_isForeseen_19 : decode cL_isForeseen 19 = .ok (.aload_n 0, 1) := by decide +kernel
theorem dL_isForeseen_20 : decode cL_isForeseen 20 = .ok (.iload_n 1, 1) := by decide +kernel
theorem dL_isForeseen_21 : decode cL_isForeseen 21 = .ok (.iload_n 2, 1) := by decide +kernel
theorem dL_isForeseen_22 : decode cL_isForeseen 22 = .ok (.iadd, 1) := by decide +kernel
theorem dL_isForeseen_23 : decode cL_isForeseen 23 = .ok (.bipush 6, 2) := by decide +kernel
theorem dL_isForeseen_25 : decode cL_isForeseen 25 = .ok (.invokevirtual 42, 3) := by decide +kernel
theorem dL_isForeseen_28 : decode cL_isForeseen 28 = .ok (.istore 5, 2) := by decide +kernel
theorem dL_isForeseen_30 : decode cL_isForeseen 30 = .ok (.aload_n 0, 1) := by decide +kernel
theorem dL_isForeseen_31 : decode cL_isForeseen 31 = .ok (.iload_n 1, 1) := by decide +kernel
theorem dL_isForeseen_32 : decode cL_isForeseen 32 = .ok (.iconst 0, 1) := by decide +kernel
theorem dL_isForeseen_33 : decode cL_isForeseen 33 = .ok (.invokevirtual 42, 3) := by decide +kernel
theorem dL_isForeseen_36 : decode cL_isForeseen 36 = .ok (.istore 6, 2) := by decide +kernel
theorem dL_isForeseen_38 : decode cL_isForeseen 38 = .ok (.aload_n 0, 1) := by decide +kernel
theorem dL_isForeseen_39 : decode cL_isForeseen 39 = .ok (.iload_n 1, 1) := by decide +kernel
theorem dL_isForeseen_40 : decode cL_isForeseen 40 = .ok (.iconst 3, 1) := by decide +kernel
theorem dL_isForeseen_41 : decode cL_isForeseen 41 = .ok (.invokevirtual 42, 3) := by decide +kernel
theorem dL_isForeseen_44 : decode cL_isForeseen 44 = .ok (.istore 7, 2) := by decide +kernel
theorem dL_isForeseen_46 : decode cL_isForeseen 46 = .ok (.iload_n 3, 1) := by decide +kernel
theorem dL_isForeseen_47 : decode cL_isForeseen 47 = .ok (.iload 6, 2) := by decide +kernel
theorem dL_isForeseen_49 : decode cL_isForeseen 49 = .ok (.if_icmp .lt 35, 3) := by decide +kernel
theorem dL_isForeseen_52 : decode cL_isForeseen 52 = .ok (.iload 4, 2) := by decide +kernel
theorem dL_isForeseen_54 : decode cL_isForeseen 54 = .ok (.iload 7, 2) := by decide +kernel
theorem dL_isForeseen_56 : decode cL_isForeseen 56 = .ok (.if_icmp .lt 28, 3) := by decide +kernel
theorem dL_isForeseen_59 : decode cL_isForeseen 59 = .ok (.aload_n 0, 1) := by decide +kernel
theorem dL_isForeseen_60 : decode cL_isForeseen 60 = .ok (.iload_n 1, 1) := by decide +kernel
theorem dL_isForeseen_61 : decode cL_isForeseen 61 = .ok (.iconst 1, 1) := by decide +kernel
theorem dL_isForeseen_62 : decode cL_isForeseen 62 = .ok (.invokevirtual 45, 3) := by decide +kernel
theorem dL_isForeseen_65 : decode cL_isForeseen 65 = .ok (.iload 6, 2) := by decide +kernel
theorem dL_isForeseen_67 : decode cL_isForeseen 67 = .ok (.if_icmp .lt 17, 3) := by decide +kernel
theorem dL_isForeseen_70 : decode cL_isForeseen 70 = .ok (.aload_n 0, 1) := by decide +kernel
theorem dL_isForeseen_71 : decode cL_isForeseen 71 = .ok (.iload_n 1, 1) := by decide +kernel
theorem dL_isForeseen_72 : decode cL_isForeseen 72 = .ok (.invokevirtual 21, 3) := by decide +kernel
theorem dL_isForeseen_75 : decode cL_isForeseen 75 = .ok (.iload 6, 2) := by decide +kernel
theorem dL_isForeseen_77 : decode cL_isForeseen 77 = .ok (.if_icmp .lt 7, 3) := by decide +kernel
theorem dL_isForeseen_80 : decode cL_isForeseen 80 = .ok (.iconst 1, 1) := by decide +kernel
theorem dL_isForeseen_81 : decode cL_isForeseen 81 = .ok (.goto 4, 3) := by decide +kernel
theorem dL_isForeseen_84 : decode cL_isForeseen 84 = .ok (.iconst 0, 1) := by decide +kernel
theorem dL_isForeseen_85 : decode cL_isForeseen 85 = .ok (.istore 8, 2) := by decide +kernel
theorem dL_isForeseen_87 : decode cL_isForeseen 87 = .ok (.iload 8, 2) := by decide +kernel
theorem dL_isForeseen_89 : decode cL_isForeseen 89 = .ok (.ifCond .eq 53, 3) := by decide +kernel
theorem dL_isForeseen_92 : decode cL_isForeseen 92 = .ok (.aload_n 0, 1) := by decide +kernel
theorem dL_isForeseen_93 : decode cL_isForeseen 93 = .ok (.iload_n 2, 1) := by decide +kernel
theorem dL_isForeseen_94 : decode cL_isForeseen 94 = .ok (.iconst 0, 1) := by decide +kernel
theorem dL_isForeseen_95 : decode cL_isForeseen 95 = .ok (.invokevirtual 42, 3) := by decide +kernel
theorem dL_isForeseen_98 : decode cL_isForeseen 98 = .ok (.iload_n 3, 1) := by decide +kernel
theorem dL_isForeseen_99 : decode cL_isForeseen 99 = .ok (.iload 6, 2) := by decide +kernel
theorem dL_isForeseen_101 : decode cL_isForeseen 101 = .ok (.isub, 1) := by decide +kernel
theorem dL_isForeseen_102 : decode cL_isForeseen 102 = .ok (.if_icmp .ne 40, 3) := by decide +kernel
theorem dL_isForeseen_105 : decode cL_isForeseen 105 = .ok (.aload_n 0, 1) := by decide +kernel
theorem dL_isForeseen_106 : decode cL_isForeseen 106 = .ok (.iload_n 2, 1) := by decide +kernel
theorem dL_isForeseen_107 : decode cL_isForeseen 107 = .ok (.iconst 3, 1) := by decide +kernel
theorem dL_isForeseen_108 : decode cL_isForeseen 108 = .ok (.invokevirtual 42, 3) := by decide +kernel
theorem dL_isForeseen_111 : decode cL_isForeseen 111 = .ok (.iload 4, 2) := by decide +kernel
theorem dL_isForeseen_113 : decode cL_isForeseen 113 = .ok (.iload 7, 2) := by decide +kernel
theorem dL_isForeseen_115 : decode cL_isForeseen 115 = .ok (.isub, 1) := by decide +kernel
theorem dL_isForeseen_116 : decode cL_isForeseen 116 = .ok (.if_icmp .ne 26, 3) := by decide +kernel
theorem dL_isForeseen_119 : decode cL_isForeseen 119 = .ok (.aload_n 0, 1) := by decide +kernel
theorem dL_isForeseen_120 : decode cL_isForeseen 120 = .ok (.iload_n 2, 1) := by decide +kernel
theorem dL_isForeseen_121 : decode cL_isForeseen 121 = .ok (.bipush 6, 2) := by decide +kernel
theorem dL_isForeseen_123 : decode cL_isForeseen 123 = .ok (.invokevirtual 42, 3) := by decide +kernel
theorem dL_isForeseen_126 : decode cL_isForeseen 126 = .ok (.iload 5, 2) := by decide +kernel
theorem dL_isForeseen_128 : decode cL_isForeseen 128 = .ok (.if_icmp .ne 14, 3) := by decide +kernel
theorem dL_isForeseen_131 : decode cL_isForeseen 131 = .ok (.aload_n 0, 1) := by decide +kernel
theorem dL_isForeseen_132 : decode cL_isForeseen 132 = .ok (.invokevirtual 48, 3) := by decide +kernel
theorem dL_isForeseen_135 : decode cL_isForeseen 135 = .ok (.ifCond .lt 7, 3) := by decide +kernel
theorem dL_isForeseen_138 : decode cL_isForeseen 138 = .ok (.iconst 1, 1) := by decide +kernel
theorem dL_isForeseen_139 : decode cL_isForeseen 139 = .ok (.goto 4, 3) := by decide +kernel
theorem dL_isForeseen_142 : decode cL_isForeseen 142 = .ok (.iconst 0, 1) := by decide +kernel
theorem dL_isForeseen_143 : decode cL_isForeseen 143 = .ok (.ireturn, 1) := by decide +kernel
set_option maxRecDepth 20000 in
theorem ggL_law_X4_init : GoodIn wsL_law wsX4_init := goodIn_r _ [5, 6, 7, 8, 9, 10, 11, 12, 13, 14, 15, 16, 17, 18, 19, 20, 21, 22, 23, 24, 25, 26, 27, 28, 29, 30, 31, 32, 33, 34, 35, 36, 37, 38, 39, 40, 41, 42, 43, 44, 45, 46, 47, 48, 49, 50, 51, 52, 53, 54, 55, 56, 57, 58, 59, 60, 61, 328, 329, 330, 331, 332, 333, 334, 335, 336, 337, 322, 323, 324, 325, 326, 327, 338, 339, 340, 341, 342, 343, 344, 345, 346, 347, 348, 349] (by decide +kernel) (by decide +kernel)
set_option maxRecDepth 20000 in
theorem gL_law_X4_init : GoodIn wsL_law (wsX4_init) := ggL_law_X4_init
set_option maxRecDepth 20000 in
theorem ggL_law_L_cell : GoodIn wsL_law wsL_cell := goodIn_r _ [65, 66] (by decide +kernel) (by decide +kernel)
set_option maxRecDepth 20000 in
theorem gL_law_L_cell : GoodIn wsL_law (va_wsS RL 53 yL_cell wsL_cell) := goodIn_app (goodIn_of _ (by decide +kernel)) ggL_law_L_cell
set_option maxRecDepth 20000 in
theorem ggL_law_L_isStep : GoodIn wsL_law wsL_isStep := goodIn_r _ [69, 70, 71, 64, 72, 73, 74, 75, 76, 2, 77, 17, 12, 78, 79, 80, 16, 81, 82, 83, 84, 85, 86, 55, 87, 88, 89, 90, 91, 92, 93, 94, 11, 95, 36, 96, 97, 98, 99, 38, 100, 40, 101, 41, 42, 102, 43, 44, 103, 104, 105, 46, 106, 107, 108, 109, 110, 111, 112, 113, 114, 115, 116, 117, 118, 119, 120, 121, 122, 123, 124, 125, 126, 127, 128, 129, 130, 131, 132, 133, 134, 135, 136, 137, 138, 139, 140, 141, 142, 143, 144, 145, 146, 147, 148, 149, 150, 151, 152, 153, 154, 155, 156, 157, 158, 159, 160, 161, 162, 163, 164, 165, 166, 167, 168, 169, 170, 171, 172, 173, 174, 175, 176, 177, 178, 179, 180, 181, 182, 183, 184, 185, 186, 187, 188, 189, 190, 191, 192, 193, 194, 195, 196, 197, 198, 199, 200, 201, 202, 203, 204, 205, 206, 207, 208, 209, 210, 211, 212, 213, 214, 215, 216, 217, 218, 219, 220, 221, 222, 223, 224, 225, 226, 227, 228, 229, 230, 231, 232, 233, 234, 235, 236, 237, 238, 239, 240, 241, 242, 243, 244, 245, 246, 247, 248, 249, 250, 322, 323, 324, 325, 326, 327, 338, 339, 340, 328, 329, 330, 331, 332, 333, 334, 335, 336, 337, 343, 344, 345, 346, 347, 348, 349] (by decide +kernel) (by decide +kernel)
set_option maxRecDepth 20000 in
theorem gL_law_L_isStep : GoodIn wsL_law (va_wsS RL 57 yL_isStep wsL_isStep) := goodIn_app (goodIn_of _ (by decide +kernel)) ggL_law_L_isStep
set_option maxRecDepth 20000 in
theorem ggL_law_L_isWell : GoodIn wsL_law wsL_isWell := goodIn_r _ [253, 254, 255, 256, 2, 257, 24, 258, 17, 259, 12, 260, 261, 262, 11, 263, 100, 101, 102, 38, 36, 264, 265, 266, 267, 268, 269, 270, 271, 40, 230, 231, 232, 233, 272, 273, 274, 46, 275, 107, 108, 109, 110, 111, 112, 113, 276, 277, 278, 279, 280, 281, 282, 283, 43, 284, 285, 286, 287, 288, 289, 290, 291, 41, 42, 322, 323, 324, 325, 326, 327, 341, 342, 338, 339, 340, 328, 329, 330, 331, 332, 333, 334, 335, 336, 337, 343, 344, 345, 346, 347, 348, 349] (by decide +kernel) (by decide +kernel)
set_option maxRecDepth 20000 in
theorem gL_law_L_isWell : GoodIn wsL_law (va_wsS RL 61 yL_isWell wsL_isWell) := goodIn_app (goodIn_of _ (by decide +kernel)) ggL_law_L_isWell
set_option maxRecDepth 20000 in
theorem ggL_law_L_up : GoodIn wsL_law wsL_up := goodIn_r _ [72, 73] (by decide +kernel) (by decide +kernel)
set_option maxRecDepth 20000 in
theorem gL_law_L_up : GoodIn wsL_law (va_wsS RL 9 yL_up wsL_up) := goodIn_app (goodIn_of _ (by decide +kernel)) ggL_law_L_up
set_option maxRecDepth 20000 in
theorem ggL_law_L_isForeseen : GoodIn wsL_law wsL_isForeseen := goodIn_r _ [294, 295, 296, 297, 2, 298, 299, 13, 12, 300, 301, 302, 303, 93, 94, 11, 95, 36, 96, 97, 98, 99, 38, 100, 40, 101, 41, 42, 102, 43, 44, 103, 104, 105, 46, 106, 107, 108, 109, 110, 111, 112, 113, 304, 150, 151, 152, 153, 154, 155, 156, 157, 158, 159, 160, 161, 162, 163, 164, 165, 166, 167, 168, 169, 170, 171, 172, 173, 174, 175, 176, 177, 178, 179, 180, 181, 182, 183, 184, 185, 186, 187, 188, 189, 190, 191, 192, 193, 194, 195, 196, 197, 198, 199, 200, 201, 202, 203, 204, 205, 206, 207, 208, 209, 210, 211, 212, 213, 121, 122, 123, 124, 214, 215, 216, 217, 218, 219, 220, 260, 261, 262, 263, 305, 306, 307, 308, 309, 310, 311, 312, 313, 137, 138, 139, 140, 17, 78, 79, 80, 16, 81, 82, 83, 84, 85, 86, 55, 87, 88, 89, 90, 91, 92, 141, 142, 143, 144, 145, 146, 147, 148, 149, 129, 130, 131, 132, 133, 134, 135, 136, 314, 315, 316, 317, 259, 318, 319, 320, 321, 322, 323, 324, 325, 326, 327, 328, 329, 330, 331, 332, 333, 334, 335, 336, 337, 343, 344, 345, 346, 347, 348, 349, 338, 339, 340] (by decide +kernel) (by decide +kernel)
set_option maxRecDepth 20000 in
theorem gL_law_L_isForeseen : GoodIn wsL_law (va_wsS RL 65 yL_isForeseen wsL_isForeseen) := goodIn_app (goodIn_of _ (by decide +kernel)) ggL_law_L_isForeseen
theorem dL_law_0 : decode cL_law 0 = .ok (.new 16, 3) := by decide +kernel
theorem dL_law_3 : decode cL_law 3 = .ok (.dup, 1) := by decide +kernel
theorem dL_law_4 : decode cL_law 4 = .ok (.invokespecial 52, 3) := by decide +kernel
theorem dL_law_7 : decode cL_law 7 = .ok (.astore_n 1, 1) := by decide +kernel
theorem dL_law_8 : decode cL_law 8 = .ok (.new 16, 3) := by decide +kernel
theorem dL_law_11 : decode cL_law 11 = .ok (.dup, 1) := by decide +kernel
theorem dL_law_12 : decode cL_law 12 = .ok (.invokespecial 52, 3) := by decide +kernel
theorem dL_law_15 : decode cL_law 15 = .ok (.astore_n 2, 1) := by decide +kernel
theorem dL_law_16 : decode cL_law 16 = .ok (.iconst 1, 1) := by decide +kernel
theorem dL_law_17 : decode cL_law 17 = .ok (.istore_n 3, 1) := by decide +kernel
theorem dL_law_18 : decode cL_law 18 = .ok (.iconst 0, 1) := by decide +kernel
theorem dL_law_19 : decode cL_law 19 = .ok (.istore 4, 2) := by decide +kernel
theorem dL_law_21 : decode cL_law 21 = .ok (.iload 4, 2) := by decide +kernel
theorem dL_law_23 : decode cL_law 23 = .ok (.bipush 52, 2) := by decide +kernel
theorem dL_law_25 : decode cL_law 25 = .ok (.if_icmp .ge 41, 3) := by decide +kernel
theorem dL_law_28 : decode cL_law 28 = .ok (.iload_n 3, 1) := by decide +kernel
theorem dL_law_29 : decode cL_law 29 = .ok (.ifCond .eq 37, 3) := by decide +kernel
theorem dL_law_32 : decode cL_law 32 = .ok (.aload_n 1, 1) := by decide +kernel
theorem dL_law_33 : decode cL_law 33 = .ok (.aload_n 2, 1) := by decide +kernel
theorem dL_law_34 : decode cL_law 34 = .ok (.aload_n 0, 1) := by decide +kernel
theorem dL_law_35 : decode cL_law 35 = .ok (.iload 4, 2) := by decide +kernel
theorem dL_law_37 : decode cL_law 37 = .ok (.invokestatic 53, 3) := by decide +kernel
theorem dL_law_40 : decode cL_law 40 = .ok (.invokestatic 57, 3) := by decide +kernel
theorem dL_law_43 : decode cL_law 43 = .ok (.ifCond .eq 15, 3) := by decide +kernel
theorem dL_law_46 : decode cL_law 46 = .ok (.aload_n 1, 1) := by decide +kernel
theorem dL_law_47 : decode cL_law 47 = .ok (.aload_n 2, 1) := by decide +kernel
theorem dL_law_48 : decode cL_law 48 = .ok (.invokestatic 61, 3) := by decide +kernel
theorem dL_law_51 : decode cL_law 51 = .ok (.ifCond .eq 7, 3) := by decide +kernel
theorem dL_law_54 : decode cL_law 54 = .ok (.iconst 1, 1) := by decide +kernel
theorem dL_law_55 : decode cL_law 55 = .ok (.goto 4, 3) := by decide +kernel
theorem dL_law_58 : decode cL_law 58 = .ok (.iconst 0, 1) := by decide +kernel
theorem dL_law_59 : decode cL_law 59 = .ok (.istore_n 3, 1) := by decide +kernel
theorem dL_law_60 : decode cL_law 60 = .ok (.iinc 4 1, 3) := by decide +kernel
theorem dL_law_63 : decode cL_law 63 = .ok (.goto (-42), 3) := by decide +kernel
theorem dL_law_66 : decode cL_law 66 = .ok (.iload_n 3, 1) := by decide +kernel
theorem dL_law_67 : decode cL_law 67 = .ok (.ifCond .eq 40, 3) := by decide +kernel
theorem dL_law_70 : decode cL_law 70 = .ok (.aload_n 1, 1) := by decide +kernel
theorem dL_law_71 : decode cL_law 71 = .ok (.iconst 1, 1) := by decide +kernel
theorem dL_law_72 : decode cL_law 72 = .ok (.aload_n 0, 1) := by decide +kernel
theorem dL_law_73 : decode cL_law 73 = .ok (.bipush 52, 2) := by decide +kernel
theorem dL_law_75 : decode cL_law 75 = .ok (.invokestatic 53, 3) := by decide +kernel
theorem dL_law_78 : decode cL_law 78 = .ok (.bipush 30, 2) := by decide +kernel
theorem dL_law_80 : decode cL_law 80 = .ok (.invokestatic 9, 3) := by decide +kernel
theorem dL_law_83 : decode cL_law 83 = .ok (.iadd, 1) := by decide +kernel
theorem dL_law_84 : decode cL_law 84 = .ok (.iconst 1, 1) := by decide +kernel
theorem dL_law_85 : decode cL_law 85 = .ok (.aload_n 0, 1) := by decide +kernel
theorem dL_law_86 : decode cL_law 86 = .ok (.bipush 53, 2) := by decide +kernel
theorem dL_law_88 : decode cL_law 88 = .ok (.invokestatic 53, 3) := by decide +kernel
theorem dL_law_91 : decode cL_law 91 = .ok (.bipush 30, 2) := by decide +kernel
theorem dL_law_93 : decode cL_law 93 = .ok (.invokestatic 9, 3) := by decide +kernel
theorem dL_law_96 : decode cL_law 96 = .ok (.iadd, 1) := by decide +kernel
theorem dL_law_97 : decode cL_law 97 = .ok (.invokestatic 65, 3) := by decide +kernel
theorem dL_law_100 : decode cL_law 100 = .ok (.ifCond .eq 7, 3) := by decide +kernel
theorem dL_law_103 : decode cL_law 103 = .ok (.iconst 1, 1) := by decide +kernel
theorem dL_law_104 : decode cL_law 104 = .ok (.goto 4, 3) := by decide +kernel
theorem dL_law_107 : decode cL_law 107 = .ok (.iconst 0, 1) := by decide +kernel
theorem dL_law_108 : decode cL_law 108 = .ok (.ireturn, 1) := by decide +kernel
