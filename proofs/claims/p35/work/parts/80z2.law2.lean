theorem dL_areLoans_92 : decode cL_areLoans 92 = .ok (.iload 9, 2) := by decide +kernel
theorem dL_areLoans_94 : decode cL_areLoans 94 = .ok (.lshr, 1) := by decide +kernel
theorem dL_areLoans_95 : decode cL_areLoans 95 = .ok (.lconst 1, 1) := by decide +kernel
theorem dL_areLoans_96 : decode cL_areLoans 96 = .ok (.land, 1) := by decide +kernel
theorem dL_areLoans_97 : decode cL_areLoans 97 = .ok (.lconst 1, 1) := by decide +kernel
theorem dL_areLoans_98 : decode cL_areLoans 98 = .ok (.lcmp, 1) := by decide +kernel
theorem dL_areLoans_99 : decode cL_areLoans 99 = .ok (.ifCond .ne 7, 3) := by decide +kernel
theorem dL_areLoans_102 : decode cL_areLoans 102 = .ok (.iconst 1, 1) := by decide +kernel
theorem dL_areLoans_103 : decode cL_areLoans 103 = .ok (.goto 4, 3) := by decide +kernel
theorem dL_areLoans_106 : decode cL_areLoans 106 = .ok (.iconst 0, 1) := by decide +kernel
theorem dL_areLoans_107 : decode cL_areLoans 107 = .ok (.if_icmp .ne 7, 3) := by decide +kernel
theorem dL_areLoans_110 : decode cL_areLoans 110 = .ok (.iconst 1, 1) := by decide +kernel
theorem dL_areLoans_111 : decode cL_areLoans 111 = .ok (.goto 4, 3) := by decide +kernel
theorem dL_areLoans_114 : decode cL_areLoans 114 = .ok (.iconst 0, 1) := by decide +kernel
theorem dL_areLoans_115 : decode cL_areLoans 115 = .ok (.istore 8, 2) := by decide +kernel
theorem dL_areLoans_117 : decode cL_areLoans 117 = .ok (.iinc 9 1, 3) := by decide +kernel
theorem dL_areLoans_120 : decode cL_areLoans 120 = .ok (.goto (-77), 3) := by decide +kernel
theorem dL_areLoans_123 : decode cL_areLoans 123 = .ok (.iconst 0, 1) := by decide +kernel
theorem dL_areLoans_124 : decode cL_areLoans 124 = .ok (.istore 9, 2) := by decide +kernel
theorem dL_areLoans_126 : decode cL_areLoans 126 = .ok (.iload 9, 2) := by decide +kernel
theorem dL_areLoans_128 : decode cL_areLoans 128 = .ok (.aload 6, 2) := by decide +kernel
theorem dL_areLoans_130 : decode cL_areLoans 130 = .ok (.iconst 4, 1) := by decide +kernel
theorem dL_areLoans_131 : decode cL_areLoans 131 = .ok (.iaload, 1) := by decide +kernel
theorem dL_areLoans_132 : decode cL_areLoans 132 = .ok (.if_icmp .ge 65, 3) := by decide +kernel
theorem dL_areLoans_135 : decode cL_areLoans 135 = .ok (.iload 8, 2) := by decide +kernel
theorem dL_areLoans_137 : decode cL_areLoans 137 = .ok (.ifCond .eq 60, 3) := by decide +kernel
theorem dL_areLoans_140 : decode cL_areLoans 140 = .ok (.aload_n 0, 1) := by decide +kernel
theorem dL_areLoans_141 : decode cL_areLoans 141 = .ok (.iload 9, 2) := by decide +kernel
theorem dL_areLoans_143 : decode cL_areLoans 143 = .ok (.invokevirtual 100, 3) := by decide +kernel
theorem dL_areLoans_146 : decode cL_areLoans 146 = .ok (.aload_n 3, 1) := by decide +kernel
theorem dL_areLoans_147 : decode cL_areLoans 147 = .ok (.bipush 6, 2) := by decide +kernel
theorem dL_areLoans_149 : decode cL_areLoans 149 = .ok (.iload 9, 2) := by decide +kernel
theorem dL_areLoans_151 : decode cL_areLoans 151 = .ok (.imul, 1) := by decide +kernel
theorem dL_areLoans_152 : decode cL_areLoans 152 = .ok (.iconst 5, 1) := by decide +kernel
theorem dL_areLoans_153 : decode cL_areLoans 153 = .ok (.iadd, 1) := by decide +kernel
theorem dL_areLoans_154 : decode cL_areLoans 154 = .ok (.iaload, 1) := by decide +kernel
theorem dL_areLoans_155 : decode cL_areLoans 155 = .ok (.iconst 1, 1) := by decide +kernel
theorem dL_areLoans_156 : decode cL_areLoans 156 = .ok (.if_icmp .ne 7, 3) := by decide +kernel
theorem dL_areLoans_159 : decode cL_areLoans 159 = .ok (.iconst 1, 1) := by decide +kernel
theorem dL_areLoans_160 : decode cL_areLoans 160 = .ok (.goto 4, 3) := by decide +kernel
theorem dL_areLoans_163 : decode cL_areLoans 163 = .ok (.iconst 0, 1) := by decide +kernel
theorem dL_areLoans_164 : decode cL_areLoans 164 = .ok (.if_icmp .ne 24, 3) := by decide +kernel
theorem dL_areLoans_167 : decode cL_areLoans 167 = .ok (.aload_n 0, 1) := by decide +kernel
theorem dL_areLoans_168 : decode cL_areLoans 168 = .ok (.iload 9, 2) := by decide +kernel
theorem dL_areLoans_170 : decode cL_areLoans 170 = .ok (.invokevirtual 104, 3) := by decide +kernel
theorem dL_areLoans_173 : decode cL_areLoans 173 = .ok (.aload_n 3, 1) := by decide +kernel
theorem dL_areLoans_174 : decode cL_areLoans 174 = .ok (.aload 6, 2) := by decide +kernel
theorem dL_areLoans_176 : decode cL_areLoans 176 = .ok (.iload 9, 2) := by decide +kernel
theorem dL_areLoans_178 : decode cL_areLoans 178 = .ok (.invokestatic 107, 3) := by decide +kernel
theorem dL_areLoans_181 : decode cL_areLoans 181 = .ok (.if_icmp .ne 7, 3) := by decide +kernel
theorem dL_areLoans_184 : decode cL_areLoans 184 = .ok (.iconst 1, 1) := by decide +kernel
theorem dL_areLoans_185 : decode cL_areLoans 185 = .ok (.goto 4, 3) := by decide +kernel
theorem dL_areLoans_188 : decode cL_areLoans 188 = .ok (.iconst 0, 1) := by decide +kernel
theorem dL_areLoans_189 : decode cL_areLoans 189 = .ok (.istore 8, 2) := by decide +kernel
theorem dL_areLoans_191 : decode cL_areLoans 191 = .ok (.iinc 9 1, 3) := by decide +kernel
theorem dL_areLoans_194 : decode cL_areLoans 194 = .ok (.goto (-68), 3) := by decide +kernel
theorem dL_areLoans_197 : decode cL_areLoans 197 = .ok (.iconst 0, 1) := by decide +kernel
theorem dL_areLoans_198 : decode cL_areLoans 198 = .ok (.istore 9, 2) := by decide +kernel
theorem dL_areLoans_200 : decode cL_areLoans 200 = .ok (.iload 9, 2) := by decide +kernel
theorem dL_areLoans_202 : decode cL_areLoans 202 = .ok (.bipush 6, 2) := by decide +kernel
theorem dL_areLoans_204 : decode cL_areLoans 204 = .ok (.if_icmp .ge 71, 3) := by decide +kernel
theorem dL_areLoans_207 : decode cL_areLoans 207 = .ok (.iload 8, 2) := by decide +kernel
theorem dL_areLoans_209 : decode cL_areLoans 209 = .ok (.ifCond .eq 66, 3) := by decide +kernel
theorem dL_areLoans_212 : decode cL_areLoans 212 = .ok (.aload_n 0, 1) := by decide +kernel
theorem dL_areLoans_213 : decode cL_areLoans 213 = .ok (.iload 9, 2) := by decide +kernel
theorem dL_areLoans_215 : decode cL_areLoans 215 = .ok (.invokevirtual 110, 3) := by decide +kernel
theorem dL_areLoans_218 : decode cL_areLoans 218 = .ok (.aload 5, 2) := by decide +kernel
theorem dL_areLoans_220 : decode cL_areLoans 220 = .ok (.iload 9, 2) := by decide +kernel
theorem dL_areLoans_222 : decode cL_areLoans 222 = .ok (.iaload, 1) := by decide +kernel
theorem dL_areLoans_223 : decode cL_areLoans 223 = .ok (.if_icmp .ne 43, 3) := by decide +kernel
theorem dL_areLoans_226 : decode cL_areLoans 226 = .ok (.iload 9, 2) := by decide +kernel
theorem dL_areLoans_228 : decode cL_areLoans 228 = .ok (.iconst 5, 1) := by decide +kernel
theorem dL_areLoans_229 : decode cL_areLoans 229 = .ok (.if_icmp .eq 33, 3) := by decide +kernel
theorem dL_areLoans_232 : decode cL_areLoans 232 = .ok (.aload_n 0, 1) := by decide +kernel
theorem dL_areLoans_233 : decode cL_areLoans 233 = .ok (.iload 9, 2) := by decide +kernel
theorem dL_areLoans_235 : decode cL_areLoans 235 = .ok (.invokevirtual 113, 3) := by decide +kernel
theorem dL_areLoans_238 : decode cL_areLoans 238 = .ok (.aload 4, 2) := by decide +kernel
theorem dL_areLoans_240 : decode cL_areLoans 240 = .ok (.iload 9, 2) := by decide +kernel
theorem dL_areLoans_242 : decode cL_areLoans 242 = .ok (.iaload, 1) := by decide +kernel
theorem dL_areLoans_243 : decode cL_areLoans 243 = .ok (.if_icmp .ne 23, 3) := by decide +kernel
theorem dL_areLoans_246 : decode cL_areLoans 246 = .ok (.aload_n 0, 1) := by decide +kernel
theorem dL_areLoans_247 : decode cL_areLoans 247 = .ok (.iload 9, 2) := by decide +kernel
theorem dL_areLoans_249 : decode cL_areLoans 249 = .ok (.invokevirtual 116, 3) := by decide +kernel
theorem dL_areLoans_252 : decode cL_areLoans 252 = .ok (.aload 4, 2) := by decide +kernel
theorem dL_areLoans_254 : decode cL_areLoans 254 = .ok (.iconst 5, 1) := by decide +kernel
theorem dL_areLoans_255 : decode cL_areLoans 255 = .ok (.iload 9, 2) := by decide +kernel
theorem dL_areLoans_257 : decode cL_areLoans 257 = .ok (.iadd, 1) := by decide +kernel
theorem dL_areLoans_258 : decode cL_areLoans 258 = .ok (.iaload, 1) := by decide +kernel
theorem dL_areLoans_259 : decode cL_areLoans 259 = .ok (.if_icmp .ne 7, 3) := by decide +kernel
theorem dL_areLoans_262 : decode cL_areLoans 262 = .ok (.iconst 1, 1) := by decide +kernel
theorem dL_areLoans_263 : decode cL_areLoans 263 = .ok (.goto 4, 3) := by decide +kernel
theorem dL_areLoans_266 : decode cL_areLoans 266 = .ok (.iconst 0, 1) := by decide +kernel
theorem dL_areLoans_267 : decode cL_areLoans 267 = .ok (.istore 8, 2) := by decide +kernel
theorem dL_areLoans_269 : decode cL_areLoans 269 = .ok (.iinc 9 1, 3) := by decide +kernel
theorem dL_areLoans_272 : decode cL_areLoans 272 = .ok (.goto (-72), 3) := by decide +kernel
theorem dL_areLoans_275 : decode cL_areLoans 275 = .ok (.iload 8, 2) := by decide +kernel
theorem dL_areLoans_277 : decode cL_areLoans 277 = .ok (.ireturn, 1) := by decide +kernel
set_option maxRecDepth 20000 in
theorem ggL_slipped_X5_slip : GoodIn wsL_slipped wsX5_slip := goodIn_ca (goodIn_ca (goodIn_ca (goodIn_r _ [6, 7, 8, 9, 10, 11, 12, 13, 14, 5, 15, 16, 17, 18, 19, 20, 21, 22, 23, 24, 25, 26, 27, 28, 29, 30, 31, 32, 33, 34, 35, 36, 37, 38, 39, 40, 41] (by decide +kernel) (by decide +kernel)) (goodIn_sub (fun _ h => List.mem_cons_of_mem _ (List.mem_append_left _ (List.mem_append_left _ (List.mem_append_right _ h)))) (by decide +kernel))) (goodIn_sub (fun _ h => List.mem_cons_of_mem _ (List.mem_append_left _ (List.mem_append_right _ h))) (by decide +kernel))) (goodIn_sub (fun _ h => List.mem_cons_of_mem _ (List.mem_append_right _ h)) (by decide +kernel))
set_option maxRecDepth 20000 in
theorem gL_slipped_X5_slip : GoodIn wsL_slipped (wsV RL 119 RX5 yX5_slip wsX5_slip) := goodIn_app (goodIn_of _ (by decide +kernel)) ggL_slipped_X5_slip
theorem dL_slipped_0 : decode cL_slipped 0 = .ok (.aload_n 0, 1) := by decide +kernel
theorem dL_slipped_1 : decode cL_slipped 1 = .ok (.iload_n 1, 1) := by decide +kernel
theorem dL_slipped_2 : decode cL_slipped 2 = .ok (.iload_n 2, 1) := by decide +kernel
theorem dL_slipped_3 : decode cL_slipped 3 = .ok (.invokevirtual 119, 3) := by decide +kernel
theorem dL_slipped_6 : decode cL_slipped 6 = .ok (.ireturn, 1) := by decide +kernel
theorem dL_slipped_7 : decode cL_slipped 7 = .ok (.astore_n 3, 1) := by decide +kernel
theorem dL_slipped_8 : decode cL_slipped 8 = .ok (.bipush (-7), 2) := by decide +kernel
theorem dL_slipped_10 : decode cL_slipped 10 = .ok (.ireturn, 1) := by decide +kernel
set_option maxRecDepth 20000 in
theorem ggL_copied_X5_copy : GoodIn wsL_copied wsX5_copy := goodIn_ca (goodIn_ca (goodIn_r _ [6, 7, 8, 9, 10, 11, 12, 13, 14, 15, 16, 17, 18, 19, 20, 5, 21, 22, 23, 24, 25, 26, 27, 28, 29, 30, 31, 32, 33, 34, 35, 36, 37, 38, 39, 40, 41, 42, 43, 44, 45, 46, 47, 48, 49, 50, 51, 52, 53, 54, 55, 56, 57, 58, 59, 60, 61, 62, 63, 64, 65, 66, 67, 68, 69, 70, 71, 72, 73, 74, 75, 76, 77, 78, 79, 80, 81, 82, 83, 84, 85, 86, 87, 88, 89, 90, 91, 92, 93, 94, 95, 96, 97, 98, 99, 100, 101, 102, 103, 104, 105, 106, 107, 108, 109, 110, 111, 112, 113, 114, 115, 116, 117, 118, 119, 120, 121, 122, 123, 124, 125, 126, 127, 128, 129, 130, 131, 132, 133, 134, 135, 136, 137, 138, 139, 140, 141, 142, 143, 144, 145, 146, 147, 148, 149, 150, 151, 152, 153, 154, 155, 156, 157, 158, 159, 160, 161, 162, 163, 164, 165, 166, 167, 168, 169, 170, 171, 172, 173, 174, 175, 176, 177, 178, 179, 180, 181, 182, 183, 184, 185] (by decide +kernel) (by decide +kernel)) (goodIn_sub (fun _ h => List.mem_cons_of_mem _ (List.mem_append_left _ (List.mem_append_right _ h))) (by decide +kernel))) (goodIn_sub (fun _ h => List.mem_cons_of_mem _ (List.mem_append_right _ h)) (by decide +kernel))
set_option maxRecDepth 20000 in
theorem gL_copied_X5_copy : GoodIn wsL_copied (wsV RL 124 RX5 yX5_copy wsX5_copy) := goodIn_app (goodIn_of _ (by decide +kernel)) ggL_copied_X5_copy
theorem dL_copied_0 : decode cL_copied 0 = .ok (.aload_n 0, 1) := by decide +kernel
theorem dL_copied_1 : decode cL_copied 1 = .ok (.iload_n 1, 1) := by decide +kernel
theorem dL_copied_2 : decode cL_copied 2 = .ok (.iload_n 2, 1) := by decide +kernel
theorem dL_copied_3 : decode cL_copied 3 = .ok (.iload_n 3, 1) := by decide +kernel
theorem dL_copied_4 : decode cL_copied 4 = .ok (.iload 4, 2) := by decide +kernel
theorem dL_copied_6 : decode cL_copied 6 = .ok (.invokevirtual 124, 3) := by decide +kernel
theorem dL_copied_9 : decode cL_copied 9 = .ok (.ireturn, 1) := by decide +kernel
theorem dL_copied_10 : decode cL_copied 10 = .ok (.astore 5, 2) := by decide +kernel
theorem dL_copied_12 : decode cL_copied 12 = .ok (.bipush (-7), 2) := by decide +kernel
theorem dL_copied_14 : decode cL_copied 14 = .ok (.ireturn, 1) := by decide +kernel
set_option maxRecDepth 20000 in
theorem ggL_told_X5_tellModel : GoodIn wsL_told wsX5_tellModel := goodIn_ca (goodIn_ca (goodIn_r _ [6, 7, 8, 9, 10, 11, 12, 13, 14, 5, 15, 16, 17, 18, 19, 20, 21, 22, 23, 24, 25, 26, 27, 28, 29, 30, 31, 32, 33, 34, 35, 36, 37, 38, 39, 40, 41, 42, 43, 44, 45, 46, 47, 48, 49, 50, 51, 52, 53, 54, 55, 56, 57, 58, 59, 60, 61, 62, 63, 64, 65, 66, 67, 68, 69, 70] (by decide +kernel) (by decide +kernel)) (goodIn_sub (fun _ h => List.mem_cons_of_mem _ (List.mem_append_left _ (List.mem_append_right _ h))) (by decide +kernel))) (goodIn_sub (fun _ h => List.mem_cons_of_mem _ (List.mem_append_right _ h)) (by decide +kernel))
set_option maxRecDepth 20000 in
theorem gL_told_X5_tellModel : GoodIn wsL_told (wsV RL 128 RX5 yX5_tellModel wsX5_tellModel) := goodIn_app (goodIn_of _ (by decide +kernel)) ggL_told_X5_tellModel
theorem dL_told_0 : decode cL_told 0 = .ok (.aload_n 0, 1) := by decide +kernel
theorem dL_told_1 : decode cL_told 1 = .ok (.iload_n 1, 1) := by decide +kernel
theorem dL_told_2 : decode cL_told 2 = .ok (.invokevirtual 128, 3) := by decide +kernel
theorem dL_told_5 : decode cL_told 5 = .ok (.ireturn, 1) := by decide +kernel
theorem dL_told_6 : decode cL_told 6 = .ok (.astore_n 2, 1) := by decide +kernel
theorem dL_told_7 : decode cL_told 7 = .ok (.bipush (-7), 2) := by decide +kernel
theorem dL_told_9 : decode cL_told 9 = .ok (.ireturn, 1) := by decide +kernel
set_option maxRecDepth 20000 in
theorem ggL_corrected_X5_correct : GoodIn wsL_corrected wsX5_correct := goodIn_ca (goodIn_ca (goodIn_r _ [6, 7, 8, 9, 10, 11, 12, 13, 14, 15, 16, 17, 5, 18, 19, 20, 21, 22, 23, 24, 25, 26, 27, 28, 29, 30, 31, 32, 33, 34, 35, 36, 37, 38, 39, 40, 41, 42, 43, 44, 45, 46, 47, 48, 49, 50, 51, 52, 53, 54, 55, 56, 57, 58, 59, 60, 61, 62, 63, 64, 65, 66, 67, 68, 69, 70, 71, 72, 73, 74, 75, 76, 77, 78, 79, 80, 81, 82, 83, 84, 85, 86, 87, 88, 89, 90, 91, 92, 93, 94, 95, 96, 97, 98, 99, 100, 101, 102, 103, 104, 105, 106, 107, 108, 109, 110, 111, 112, 113, 114, 115, 116, 117, 118, 119, 120, 121, 122, 123, 124, 125, 126, 127, 128, 129, 130, 131, 132, 133, 134, 135, 136, 137, 138, 139, 140, 141, 142, 143, 144, 145, 146, 147, 148, 149, 150, 151, 152, 153, 154, 155, 156, 157, 158, 159, 160, 161, 162, 163, 164, 165, 166, 167, 168, 169, 170, 171, 172, 173, 174, 175, 176, 177, 178] (by decide +kernel) (by decide +kernel)) (goodIn_sub (fun _ h => List.mem_cons_of_mem _ (List.mem_append_left _ (List.mem_append_right _ h))) (by decide +kernel))) (goodIn_sub (fun _ h => List.mem_cons_of_mem _ (List.mem_append_right _ h)) (by decide +kernel))
set_option maxRecDepth 20000 in
theorem gL_corrected_X5_correct : GoodIn wsL_corrected (wsV RL 131 RX5 yX5_correct wsX5_correct) := goodIn_app (goodIn_of _ (by decide +kernel)) ggL_corrected_X5_correct
theorem dL_corrected_0 : decode cL_corrected 0 = .ok (.aload_n 0, 1) := by decide +kernel
theorem dL_corrected_1 : decode cL_corrected 1 = .ok (.iload_n 1, 1) := by decide +kernel
theorem dL_corrected_2 : decode cL_corrected 2 = .ok (.iload_n 2, 1) := by decide +kernel
theorem dL_corrected_3 : decode cL_corrected 3 = .ok (.iload_n 3, 1) := by decide +kernel
theorem dL_corrected_4 : decode cL_corrected 4 = .ok (.iload 4, 2) := by decide +kernel
theorem dL_corrected_6 : decode cL_corrected 6 = .ok (.invokevirtual 131, 3) := by decide +kernel
theorem dL_corrected_9 : decode cL_corrected 9 = .ok (.ireturn, 1) := by decide +kernel
theorem dL_corrected_10 : decode cL_corrected 10 = .ok (.astore 5, 2) := by decide +kernel
theorem dL_corrected_12 : decode cL_corrected 12 = .ok (.bipush (-7), 2) := by decide +kernel
theorem dL_corrected_14 : decode cL_corrected 14 = .ok (.ireturn, 1) := by decide +kernel
set_option maxRecDepth 20000 in
theorem ggL_worked_X5_workIn : GoodIn wsL_worked wsX5_workIn := goodIn_ca (goodIn_ca (goodIn_r _ [6, 7, 8, 9, 10, 11, 12, 13, 14, 5, 15, 16, 17, 18, 19, 20, 21, 22, 23, 24, 25, 26, 27, 28, 29, 30, 31, 32, 33, 34, 35, 36, 37, 38, 39, 40, 41, 42, 43, 44, 45, 46, 47, 48, 49, 50, 51, 52, 53, 54, 55, 56, 57, 58, 59, 60, 61, 62, 63, 64, 65, 66, 67, 68, 69, 70, 71, 72, 73, 74, 75, 76, 77, 78, 79, 80, 81, 82, 83, 84, 85, 86, 87, 88, 89, 90, 91, 92, 93, 94, 95, 96, 97, 98, 99, 100, 101, 102, 103, 104, 105, 106, 107, 108, 109, 110, 111, 112, 113, 114, 115, 116, 117, 118, 119, 120, 121, 122, 123, 124] (by decide +kernel) (by decide +kernel)) (goodIn_sub (fun _ h => List.mem_cons_of_mem _ (List.mem_append_left _ (List.mem_append_right _ h))) (by decide +kernel))) (goodIn_sub (fun _ h => List.mem_cons_of_mem _ (List.mem_append_right _ h)) (by decide +kernel))
set_option maxRecDepth 20000 in
theorem gL_worked_X5_workIn : GoodIn wsL_worked (wsV RL 135 RX5 yX5_workIn wsX5_workIn) := goodIn_app (goodIn_of _ (by decide +kernel)) ggL_worked_X5_workIn
theorem dL_worked_0 : decode cL_worked 0 = .ok (.aload_n 0, 1) := by decide +kernel
theorem dL_worked_1 : decode cL_worked 1 = .ok (.iload_n 1, 1) := by decide +kernel
theorem dL_worked_2 : decode cL_worked 2 = .ok (.iload_n 2, 1) := by decide +kernel
theorem dL_worked_3 : decode cL_worked 3 = .ok (.invokevirtual 135, 3) := by decide +kernel
theorem dL_worked_6 : decode cL_worked 6 = .ok (.ireturn, 1) := by decide +kernel
theorem dL_worked_7 : decode cL_worked 7 = .ok (.astore_n 3, 1) := by decide +kernel
theorem dL_worked_8 : decode cL_worked 8 = .ok (.bipush (-7), 2) := by decide +kernel
theorem dL_worked_10 : decode cL_worked 10 = .ok (.ireturn, 1) := by decide +kernel
set_option maxRecDepth 20000 in
theorem ggL_lent_X5_lend : GoodIn wsL_lent wsX5_lend := goodIn_ca (goodIn_ca (goodIn_ca (goodIn_r _ [6, 7, 8, 9, 10, 11, 12, 13, 14, 15, 16, 17, 18, 19, 20, 21, 22, 5, 23, 24, 25, 26, 27, 28, 29, 30, 31, 32, 33, 34, 35, 36, 37, 38, 39, 40, 41, 42, 43, 44, 45, 46, 47, 48, 49, 50, 51, 52, 53, 54, 55, 56, 57, 58, 59, 60, 61, 62, 63, 64, 65, 66, 67, 68, 69, 70, 71, 72, 73, 74, 75, 76, 77, 78, 79, 80, 81, 82, 83, 84, 85, 86, 87, 88, 89, 90, 91, 92, 93, 94, 95, 96, 97, 98, 99, 100, 101, 102, 103, 104, 105, 106, 107, 108, 109, 110, 111, 112, 113, 114, 115, 116, 117, 118, 119, 120, 121, 122, 123, 124, 125, 126, 127, 128, 129, 130, 131, 132, 133, 134, 135, 136, 137, 138, 139, 140, 141, 142, 143, 144, 145, 146, 147, 148, 149, 150, 151, 152, 153, 154, 155, 156, 157, 158, 159, 160, 161, 162] (by decide +kernel) (by decide +kernel)) (goodIn_sub (fun _ h => List.mem_cons_of_mem _ (List.mem_append_left _ (List.mem_append_left _ (List.mem_append_right _ h)))) (by decide +kernel))) (goodIn_sub (fun _ h => List.mem_cons_of_mem _ (List.mem_append_left _ (List.mem_append_right _ h))) (by decide +kernel))) (goodIn_sub (fun _ h => List.mem_cons_of_mem _ (List.mem_append_right _ h)) (by decide +kernel))
set_option maxRecDepth 20000 in
theorem gL_lent_X5_lend : GoodIn wsL_lent (wsV RL 138 RX5 yX5_lend wsX5_lend) := goodIn_app (goodIn_of _ (by decide +kernel)) ggL_lent_X5_lend
theorem dL_lent_0 : decode cL_lent 0 = .ok (.aload_n 0, 1) := by decide +kernel
theorem dL_lent_1 : decode cL_lent 1 = .ok (.iload_n 1, 1) := by decide +kernel
theorem dL_lent_2 : decode cL_lent 2 = .ok (.iload_n 2, 1) := by decide +kernel
theorem dL_lent_3 : decode cL_lent 3 = .ok (.iload_n 3, 1) := by decide +kernel
theorem dL_lent_4 : decode cL_lent 4 = .ok (.iload 4, 2) := by decide +kernel
theorem dL_lent_6 : decode cL_lent 6 = .ok (.invokevirtual 138, 3) := by decide +kernel
theorem dL_lent_9 : decode cL_lent 9 = .ok (.ireturn, 1) := by decide +kernel
theorem dL_lent_10 : decode cL_lent 10 = .ok (.astore 5, 2) := by decide +kernel
theorem dL_lent_12 : decode cL_lent 12 = .ok (.bipush (-7), 2) := by decide +kernel
theorem dL_lent_14 : decode cL_lent 14 = .ok (.ireturn, 1) := by decide +kernel
set_option maxRecDepth 20000 in
theorem ggL_given_X5_giveBack : GoodIn wsL_given wsX5_giveBack := goodIn_ca (goodIn_ca (goodIn_r _ [6, 7, 8, 9, 10, 11, 12, 13, 14, 15, 16, 17, 18, 19, 20, 21, 5, 22, 23, 24, 25, 26, 27, 28, 29, 30, 31, 32, 33, 34, 35, 36, 37, 38, 39, 40, 41, 42, 43, 44, 45, 46, 47, 48, 49, 50, 51, 52, 53, 54, 55, 56, 57, 58, 59, 60, 61, 62, 63, 64, 65, 66, 67, 68, 69, 70, 71, 72, 73, 74, 75, 76, 77, 78, 79, 80, 81, 82, 83, 84, 85, 86, 87, 88, 89, 90, 91, 92, 93, 94, 95, 96, 97, 98, 99, 100, 101, 102, 103, 104, 105, 106] (by decide +kernel) (by decide +kernel)) (goodIn_sub (fun _ h => List.mem_cons_of_mem _ (List.mem_append_left _ (List.mem_append_right _ h))) (by decide +kernel))) (goodIn_sub (fun _ h => List.mem_cons_of_mem _ (List.mem_append_right _ h)) (by decide +kernel))
set_option maxRecDepth 20000 in
theorem gL_given_X5_giveBack : GoodIn wsL_given (wsV RL 141 RX5 yX5_giveBack wsX5_giveBack) := goodIn_app (goodIn_of _ (by decide +kernel)) ggL_given_X5_giveBack
theorem dL_given_0 : decode cL_given 0 = .ok (.aload_n 0, 1) := by decide +kernel
theorem dL_given_1 : decode cL_given 1 = .ok (.iload_n 1, 1) := by decide +kernel
theorem dL_given_2 : decode cL_given 2 = .ok (.invokevirtual 141, 3) := by decide +kernel
theorem dL_given_5 : decode cL_given 5 = .ok (.ireturn, 1) := by decide +kernel
theorem dL_given_6 : decode cL_given 6 = .ok (.astore_n 2, 1) := by decide +kernel
theorem dL_given_7 : decode cL_given 7 = .ok (.bipush (-7), 2) := by decide +kernel
theorem dL_given_9 : decode cL_given 9 = .ok (.ireturn, 1) := by decide +kernel
set_option maxRecDepth 20000 in
theorem ggL_isCopied_L_place : GoodIn wsL_isCopied wsL_place := goodIn_r _ [4] (by decide +kernel) (by decide +kernel)
set_option maxRecDepth 20000 in
theorem gL_isCopied_L_place : GoodIn wsL_isCopied (va_wsS RL 45 yL_place wsL_place) := goodIn_app (goodIn_of _ (by decide +kernel)) ggL_isCopied_L_place
set_option maxRecDepth 20000 in
theorem ggL_isCopied_L_slipped : GoodIn wsL_isCopied wsL_slipped := goodIn_ca (goodIn_ca (goodIn_ca (goodIn_r _ [7, 8, 9, 10, 11, 12, 13, 14, 15, 16, 17, 18, 19, 20, 21, 22, 23, 24, 25, 26, 27, 28, 29, 30, 31, 32, 33, 34, 35, 36, 37, 38, 39, 220, 221, 222, 223, 224, 225, 226, 227, 228] (by decide +kernel) (by decide +kernel)) (goodIn_sub (fun _ h => List.mem_cons_of_mem _ (List.mem_append_left _ (List.mem_append_left _ (List.mem_append_right _ h)))) (by decide +kernel))) (goodIn_sub (fun _ h => List.mem_cons_of_mem _ (List.mem_append_left _ (List.mem_append_right _ h))) (by decide +kernel))) (goodIn_sub (fun _ h => List.mem_cons_of_mem _ (List.mem_append_right _ h)) (by decide +kernel))
set_option maxRecDepth 20000 in
theorem gL_isCopied_L_slipped : GoodIn wsL_isCopied (va_wsS RL 144 yL_slipped wsL_slipped) := goodIn_app (goodIn_of _ (by decide +kernel)) ggL_isCopied_L_slipped
set_option maxRecDepth 20000 in
theorem ggL_isCopied_L_told : GoodIn wsL_isCopied wsL_told := goodIn_ca (goodIn_ca (goodIn_r _ [42, 8, 43, 44, 45, 12, 46, 16, 17, 47, 48, 49, 50, 51, 52, 53, 23, 24, 54, 55, 56, 57, 58, 59, 60, 61, 62, 63, 64, 65, 66, 67, 68, 69, 70, 71, 72, 73, 74, 75, 76, 77, 78, 79, 80, 81, 82, 83, 84, 85, 86, 87, 88, 89, 229, 230, 231, 232, 233, 234, 235, 220, 221, 222, 223, 224, 225, 226, 236, 237, 238] (by decide +kernel) (by decide +kernel)) (goodIn_sub (fun _ h => List.mem_cons_of_mem _ (List.mem_append_left _ (List.mem_append_right _ h))) (by decide +kernel))) (goodIn_sub (fun _ h => List.mem_cons_of_mem _ (List.mem_append_right _ h)) (by decide +kernel))
set_option maxRecDepth 20000 in
theorem gL_isCopied_L_told : GoodIn wsL_isCopied (va_wsS RL 148 yL_told wsL_told) := goodIn_app (goodIn_of _ (by decide +kernel)) ggL_isCopied_L_told
set_option maxRecDepth 20000 in
theorem ggL_isCopied_L_family : GoodIn wsL_isCopied wsL_family := goodIn_r _ [92, 93, 94, 3, 95, 96, 97, 98, 99] (by decide +kernel) (by decide +kernel)
set_option maxRecDepth 20000 in
theorem gL_isCopied_L_family : GoodIn wsL_isCopied (va_wsS RL 33 yL_family wsL_family) := goodIn_app (goodIn_of _ (by decide +kernel)) ggL_isCopied_L_family
set_option maxRecDepth 20000 in
theorem ggL_isCopied_L_lowest : GoodIn wsL_isCopied wsL_lowest := goodIn_r _ [102] (by decide +kernel) (by decide +kernel)
set_option maxRecDepth 20000 in
theorem gL_isCopied_L_lowest : GoodIn wsL_isCopied (va_wsS RL 37 yL_lowest wsL_lowest) := goodIn_app (goodIn_of _ (by decide +kernel)) ggL_isCopied_L_lowest
set_option maxRecDepth 20000 in
theorem ggL_isCopied_L_copied : GoodIn wsL_isCopied wsL_copied := goodIn_ca (goodIn_ca (goodIn_r _ [105, 8, 106, 107, 108, 12, 109, 16, 17, 110, 54, 111, 112, 113, 48, 114, 18, 115, 50, 51, 52, 53, 23, 24, 55, 56, 57, 58, 59, 60, 61, 62, 63, 64, 65, 66, 67, 68, 69, 70, 71, 72, 73, 74, 75, 76, 77, 78, 116, 117, 118, 119, 120, 121, 122, 123, 124, 125, 126, 127, 128, 129, 130, 131, 132, 133, 134, 135, 136, 137, 138, 139, 140, 141, 142, 143, 144, 145, 28, 146, 147, 35, 31, 32, 33, 34, 148, 149, 150, 151, 30, 152, 153, 154, 155, 156, 157, 158, 159, 160, 161, 162, 163, 164, 165, 166, 167, 168, 169, 170, 171, 172, 173, 174, 175, 88, 85, 89, 176, 177, 178, 179, 180, 181, 182, 183, 184, 185, 186, 187, 188, 189, 190, 191, 192, 193, 194, 195, 196, 197, 198, 84, 86, 199, 200, 201, 202, 203, 49, 204, 205, 206, 207, 208, 209, 210, 211, 212, 213, 214, 215, 79, 80, 81, 82, 83, 87, 229, 230, 231, 232, 233, 234, 235, 220, 221, 222, 223, 224, 225, 226, 236, 237, 238, 227, 228] (by decide +kernel) (by decide +kernel)) (goodIn_sub (fun _ h => List.mem_cons_of_mem _ (List.mem_append_left _ (List.mem_append_right _ h))) (by decide +kernel))) (goodIn_sub (fun _ h => List.mem_cons_of_mem _ (List.mem_append_right _ h)) (by decide +kernel))
set_option maxRecDepth 20000 in
theorem gL_isCopied_L_copied : GoodIn wsL_isCopied (va_wsS RL 152 yL_copied wsL_copied) := goodIn_app (goodIn_of _ (by decide +kernel)) ggL_isCopied_L_copied
set_option maxRecDepth 20000 in
theorem ggL_isCopied_L_get : GoodIn wsL_isCopied wsL_get := goodIn_r _ [98, 99] (by decide +kernel) (by decide +kernel)
set_option maxRecDepth 20000 in
theorem gL_isCopied_L_get : GoodIn wsL_isCopied (va_wsS RL 13 yL_get wsL_get) := goodIn_app (goodIn_of _ (by decide +kernel)) ggL_isCopied_L_get
set_option maxRecDepth 20000 in
theorem ggL_isCopied_L_put : GoodIn wsL_isCopied wsL_put := goodIn_r _ [218, 99, 219] (by decide +kernel) (by decide +kernel)
set_option maxRecDepth 20000 in
theorem gL_isCopied_L_put : GoodIn wsL_isCopied (va_wsS RL 156 yL_put wsL_put) := goodIn_app (goodIn_of _ (by decide +kernel)) ggL_isCopied_L_put
theorem dL_isCopied_0 : decode cL_isCopied 0 = .ok (.iload 6, 2) := by decide +kernel
theorem dL_isCopied_2 : decode cL_isCopied 2 = .ok (.iconst 4, 1) := by decide +kernel
theorem dL_isCopied_3 : decode cL_isCopied 3 = .ok (.if_icmp .ge 156, 3) := by decide +kernel
theorem dL_isCopied_6 : decode cL_isCopied 6 = .ok (.iload 7, 2) := by decide +kernel
theorem dL_isCopied_8 : decode cL_isCopied 8 = .ok (.bipush 12, 2) := by decide +kernel
theorem dL_isCopied_10 : decode cL_isCopied 10 = .ok (.irem, 1) := by decide +kernel
theorem dL_isCopied_11 : decode cL_isCopied 11 = .ok (.istore 8, 2) := by decide +kernel
theorem dL_isCopied_13 : decode cL_isCopied 13 = .ok (.iload 7, 2) := by decide +kernel
theorem dL_isCopied_15 : decode cL_isCopied 15 = .ok (.bipush 12, 2) := by decide +kernel
theorem dL_isCopied_17 : decode cL_isCopied 17 = .ok (.idiv, 1) := by decide +kernel
theorem dL_isCopied_18 : decode cL_isCopied 18 = .ok (.bipush 6, 2) := by decide +kernel
theorem dL_isCopied_20 : decode cL_isCopied 20 = .ok (.irem, 1) := by decide +kernel
theorem dL_isCopied_21 : decode cL_isCopied 21 = .ok (.iconst 5, 1) := by decide +kernel
theorem dL_isCopied_22 : decode cL_isCopied 22 = .ok (.if_icmp .ne 7, 3) := by decide +kernel
theorem dL_isCopied_25 : decode cL_isCopied 25 = .ok (.iconst (-1), 1) := by decide +kernel
theorem dL_isCopied_26 : decode cL_isCopied 26 = .ok (.goto 28, 3) := by decide +kernel
theorem dL_isCopied_29 : decode cL_isCopied 29 = .ok (.iload 7, 2) := by decide +kernel
theorem dL_isCopied_31 : decode cL_isCopied 31 = .ok (.bipush 12, 2) := by decide +kernel
theorem dL_isCopied_33 : decode cL_isCopied 33 = .ok (.idiv, 1) := by decide +kernel
theorem dL_isCopied_34 : decode cL_isCopied 34 = .ok (.bipush 6, 2) := by decide +kernel
theorem dL_isCopied_36 : decode cL_isCopied 36 = .ok (.irem, 1) := by decide +kernel
theorem dL_isCopied_37 : decode cL_isCopied 37 = .ok (.iconst 4, 1) := by decide +kernel
theorem dL_isCopied_38 : decode cL_isCopied 38 = .ok (.if_icmp .ne 8, 3) := by decide +kernel
theorem dL_isCopied_41 : decode cL_isCopied 41 = .ok (.bipush 9, 2) := by decide +kernel
theorem dL_isCopied_43 : decode cL_isCopied 43 = .ok (.goto 11, 3) := by decide +kernel
theorem dL_isCopied_46 : decode cL_isCopied 46 = .ok (.iload 7, 2) := by decide +kernel
theorem dL_isCopied_48 : decode cL_isCopied 48 = .ok (.bipush 12, 2) := by decide +kernel
theorem dL_isCopied_50 : decode cL_isCopied 50 = .ok (.idiv, 1) := by decide +kernel
theorem dL_isCopied_51 : decode cL_isCopied 51 = .ok (.bipush 6, 2) := by decide +kernel
theorem dL_isCopied_53 : decode cL_isCopied 53 = .ok (.irem, 1) := by decide +kernel
theorem dL_isCopied_54 : decode cL_isCopied 54 = .ok (.istore 9, 2) := by decide +kernel
theorem dL_isCopied_56 : decode cL_isCopied 56 = .ok (.iload 9, 2) := by decide +kernel
theorem dL_isCopied_58 : decode cL_isCopied 58 = .ok (.ifCond .lt 19, 3) := by decide +kernel
theorem dL_isCopied_61 : decode cL_isCopied 61 = .ok (.aload_n 3, 1) := by decide +kernel
theorem dL_isCopied_62 : decode cL_isCopied 62 = .ok (.iload 8, 2) := by decide +kernel
theorem dL_isCopied_64 : decode cL_isCopied 64 = .ok (.iaload, 1) := by decide +kernel
theorem dL_isCopied_65 : decode cL_isCopied 65 = .ok (.ifCond .ge 12, 3) := by decide +kernel
theorem dL_isCopied_68 : decode cL_isCopied 68 = .ok (.aload 5, 2) := by decide +kernel
theorem dL_isCopied_70 : decode cL_isCopied 70 = .ok (.iconst 1, 1) := by decide +kernel
theorem dL_isCopied_71 : decode cL_isCopied 71 = .ok (.iaload, 1) := by decide +kernel
theorem dL_isCopied_72 : decode cL_isCopied 72 = .ok (.bipush 6, 2) := by decide +kernel
theorem dL_isCopied_74 : decode cL_isCopied 74 = .ok (.if_icmp .ge 7, 3) := by decide +kernel
theorem dL_isCopied_77 : decode cL_isCopied 77 = .ok (.iconst 1, 1) := by decide +kernel
theorem dL_isCopied_78 : decode cL_isCopied 78 = .ok (.goto 4, 3) := by decide +kernel
theorem dL_isCopied_81 : decode cL_isCopied 81 = .ok (.iconst 0, 1) := by decide +kernel
theorem dL_isCopied_82 : decode cL_isCopied 82 = .ok (.istore 10, 2) := by decide +kernel
theorem dL_isCopied_84 : decode cL_isCopied 84 = .ok (.iload 10, 2) := by decide +kernel
theorem dL_isCopied_86 : decode cL_isCopied 86 = .ok (.ifCond .eq 39, 3) := by decide +kernel
theorem dL_isCopied_89 : decode cL_isCopied 89 = .ok (.aload 5, 2) := by decide +kernel
theorem dL_isCopied_91 : decode cL_isCopied 91 = .ok (.iconst 1, 1) := by decide +kernel
theorem dL_isCopied_92 : decode cL_isCopied 92 = .ok (.dup2, 1) := by decide +kernel
theorem dL_isCopied_93 : decode cL_isCopied 93 = .ok (.iaload, 1) := by decide +kernel
theorem dL_isCopied_94 : decode cL_isCopied 94 = .ok (.iload 9, 2) := by decide +kernel
theorem dL_isCopied_96 : decode cL_isCopied 96 = .ok (.ifCond .ge 7, 3) := by decide +kernel
theorem dL_isCopied_99 : decode cL_isCopied 99 = .ok (.iconst 0, 1) := by decide +kernel
theorem dL_isCopied_100 : decode cL_isCopied 100 = .ok (.goto 4, 3) := by decide +kernel
theorem dL_isCopied_103 : decode cL_isCopied 103 = .ok (.iconst 1, 1) := by decide +kernel
theorem dL_isCopied_104 : decode cL_isCopied 104 = .ok (.aload_n 3, 1) := by decide +kernel
theorem dL_isCopied_105 : decode cL_isCopied 105 = .ok (.iload 8, 2) := by decide +kernel
theorem dL_isCopied_107 : decode cL_isCopied 107 = .ok (.iaload, 1) := by decide +kernel
theorem dL_isCopied_108 : decode cL_isCopied 108 = .ok (.ifCond .ge 7, 3) := by decide +kernel
theorem dL_isCopied_111 : decode cL_isCopied 111 = .ok (.iconst 0, 1) := by decide +kernel
theorem dL_isCopied_112 : decode cL_isCopied 112 = .ok (.goto 4, 3) := by decide +kernel
theorem dL_isCopied_115 : decode cL_isCopied 115 = .ok (.iconst 1, 1) := by decide +kernel
theorem dL_isCopied_116 : decode cL_isCopied 116 = .ok (.isub, 1) := by decide +kernel
theorem dL_isCopied_117 : decode cL_isCopied 117 = .ok (.iadd, 1) := by decide +kernel
theorem dL_isCopied_118 : decode cL_isCopied 118 = .ok (.iastore, 1) := by decide +kernel
theorem dL_isCopied_119 : decode cL_isCopied 119 = .ok (.aload_n 3, 1) := by decide +kernel
theorem dL_isCopied_120 : decode cL_isCopied 120 = .ok (.iload 8, 2) := by decide +kernel
theorem dL_isCopied_122 : decode cL_isCopied 122 = .ok (.iload 9, 2) := by decide +kernel
theorem dL_isCopied_124 : decode cL_isCopied 124 = .ok (.iastore, 1) := by decide +kernel
theorem dL_isCopied_125 : decode cL_isCopied 125 = .ok (.aload_n 0, 1) := by decide +kernel
theorem dL_isCopied_126 : decode cL_isCopied 126 = .ok (.iload 8, 2) := by decide +kernel
theorem dL_isCopied_128 : decode cL_isCopied 128 = .ok (.invokestatic 45, 3) := by decide +kernel
theorem dL_isCopied_131 : decode cL_isCopied 131 = .ok (.iload 9, 2) := by decide +kernel
theorem dL_isCopied_133 : decode cL_isCopied 133 = .ok (.invokestatic 144, 3) := by decide +kernel
theorem dL_isCopied_136 : decode cL_isCopied 136 = .ok (.iload 10, 2) := by decide +kernel
theorem dL_isCopied_138 : decode cL_isCopied 138 = .ok (.ifCond .eq 10, 3) := by decide +kernel
theorem dL_isCopied_141 : decode cL_isCopied 141 = .ok (.aload 5, 2) := by decide +kernel
theorem dL_isCopied_143 : decode cL_isCopied 143 = .ok (.iconst 1, 1) := by decide +kernel
theorem dL_isCopied_144 : decode cL_isCopied 144 = .ok (.iaload, 1) := by decide +kernel
theorem dL_isCopied_145 : decode cL_isCopied 145 = .ok (.goto 5, 3) := by decide +kernel
theorem dL_isCopied_148 : decode cL_isCopied 148 = .ok (.bipush (-7), 2) := by decide +kernel
theorem dL_isCopied_150 : decode cL_isCopied 150 = .ok (.if_icmp .ne 7, 3) := by decide +kernel
theorem dL_isCopied_153 : decode cL_isCopied 153 = .ok (.iconst 1, 1) := by decide +kernel
theorem dL_isCopied_154 : decode cL_isCopied 154 = .ok (.goto 4, 3) := by decide +kernel
theorem dL_isCopied_157 : decode cL_isCopied 157 = .ok (.iconst 0, 1) := by decide +kernel
theorem dL_isCopied_158 : decode cL_isCopied 158 = .ok (.ireturn, 1) := by decide +kernel
theorem dL_isCopied_159 : decode cL_isCopied 159 = .ok (.iload 7, 2) := by decide +kernel
theorem dL_isCopied_161 : decode cL_isCopied 161 = .ok (.bipush 7, 2) := by decide +kernel
theorem dL_isCopied_163 : decode cL_isCopied 163 = .ok (.idiv, 1) := by decide +kernel
theorem dL_isCopied_164 : decode cL_isCopied 164 = .ok (.iconst 3, 1) := by decide +kernel
theorem dL_isCopied_165 : decode cL_isCopied 165 = .ok (.irem, 1) := by decide +kernel
theorem dL_isCopied_166 : decode cL_isCopied 166 = .ok (.ifCond .le 35, 3) := by decide +kernel
theorem dL_isCopied_169 : decode cL_isCopied 169 = .ok (.aload 5, 2) := by decide +kernel
theorem dL_isCopied_171 : decode cL_isCopied 171 = .ok (.iconst 0, 1) := by decide +kernel
theorem dL_isCopied_172 : decode cL_isCopied 172 = .ok (.iaload, 1) := by decide +kernel
theorem dL_isCopied_173 : decode cL_isCopied 173 = .ok (.iconst 1, 1) := by decide +kernel
theorem dL_isCopied_174 : decode cL_isCopied 174 = .ok (.isub, 1) := by decide +kernel
theorem dL_isCopied_175 : decode cL_isCopied 175 = .ok (.iload 7, 2) := by decide +kernel
theorem dL_isCopied_177 : decode cL_isCopied 177 = .ok (.bipush 21, 2) := by decide +kernel
theorem dL_isCopied_179 : decode cL_isCopied 179 = .ok (.idiv, 1) := by decide +kernel
theorem dL_isCopied_180 : decode cL_isCopied 180 = .ok (.aload 5, 2) := by decide +kernel
theorem dL_isCopied_182 : decode cL_isCopied 182 = .ok (.iconst 0, 1) := by decide +kernel
theorem dL_isCopied_183 : decode cL_isCopied 183 = .ok (.iaload, 1) := by decide +kernel
theorem dL_isCopied_184 : decode cL_isCopied 184 = .ok (.iconst 3, 1) := by decide +kernel
theorem dL_isCopied_185 : decode cL_isCopied 185 = .ok (.if_icmp .le 7, 3) := by decide +kernel
theorem dL_isCopied_188 : decode cL_isCopied 188 = .ok (.iconst 3, 1) := by decide +kernel
theorem dL_isCopied_189 : decode cL_isCopied 189 = .ok (.goto 7, 3) := by decide +kernel
theorem dL_isCopied_192 : decode cL_isCopied 192 = .ok (.aload 5, 2) := by decide +kernel
theorem dL_isCopied_194 : decode cL_isCopied 194 = .ok (.iconst 0, 1) := by decide +kernel
theorem dL_isCopied_195 : decode cL_isCopied 195 = .ok (.iaload, 1) := by decide +kernel
theorem dL_isCopied_196 : decode cL_isCopied 196 = .ok (.irem, 1) := by decide +kernel
theorem dL_isCopied_197 : decode cL_isCopied 197 = .ok (.isub, 1) := by decide +kernel
theorem dL_isCopied_198 : decode cL_isCopied 198 = .ok (.goto 13, 3) := by decide +kernel
theorem dL_isCopied_201 : decode cL_isCopied 201 = .ok (.iload 7, 2) := by decide +kernel
theorem dL_isCopied_203 : decode cL_isCopied 203 = .ok (.bipush 21, 2) := by decide +kernel
theorem dL_isCopied_205 : decode cL_isCopied 205 = .ok (.idiv, 1) := by decide +kernel
theorem dL_isCopied_206 : decode cL_isCopied 206 = .ok (.aload 5, 2) := by decide +kernel
theorem dL_isCopied_208 : decode cL_isCopied 208 = .ok (.iconst 0, 1) := by decide +kernel
theorem dL_isCopied_209 : decode cL_isCopied 209 = .ok (.iaload, 1) := by decide +kernel
theorem dL_isCopied_210 : decode cL_isCopied 210 = .ok (.irem, 1) := by decide +kernel
theorem dL_isCopied_211 : decode cL_isCopied 211 = .ok (.istore 8, 2) := by decide +kernel
theorem dL_isCopied_213 : decode cL_isCopied 213 = .ok (.iload 6, 2) := by decide +kernel
theorem dL_isCopied_215 : decode cL_isCopied 215 = .ok (.iconst 4, 1) := by decide +kernel
theorem dL_isCopied_216 : decode cL_isCopied 216 = .ok (.if_icmp .ne 88, 3) := by decide +kernel
theorem dL_isCopied_219 : decode cL_isCopied 219 = .ok (.iload 8, 2) := by decide +kernel
theorem dL_isCopied_221 : decode cL_isCopied 221 = .ok (.ifCond .le 18, 3) := by decide +kernel
theorem dL_isCopied_224 : decode cL_isCopied 224 = .ok (.aload_n 2, 1) := by decide +kernel
theorem dL_isCopied_225 : decode cL_isCopied 225 = .ok (.iconst 4, 1) := by decide +kernel
theorem dL_isCopied_226 : decode cL_isCopied 226 = .ok (.iload 8, 2) := by decide +kernel
theorem dL_isCopied_228 : decode cL_isCopied 228 = .ok (.imul, 1) := by decide +kernel
theorem dL_isCopied_229 : decode cL_isCopied 229 = .ok (.iconst 1, 1) := by decide +kernel
theorem dL_isCopied_230 : decode cL_isCopied 230 = .ok (.iadd, 1) := by decide +kernel
theorem dL_isCopied_231 : decode cL_isCopied 231 = .ok (.iaload, 1) := by decide +kernel
theorem dL_isCopied_232 : decode cL_isCopied 232 = .ok (.ifCond .ne 7, 3) := by decide +kernel
theorem dL_isCopied_235 : decode cL_isCopied 235 = .ok (.iconst 1, 1) := by decide +kernel
theorem dL_isCopied_236 : decode cL_isCopied 236 = .ok (.goto 4, 3) := by decide +kernel
theorem dL_isCopied_239 : decode cL_isCopied 239 = .ok (.iconst 0, 1) := by decide +kernel
theorem dL_isCopied_240 : decode cL_isCopied 240 = .ok (.istore 9, 2) := by decide +kernel
theorem dL_isCopied_242 : decode cL_isCopied 242 = .ok (.aload_n 2, 1) := by decide +kernel
theorem dL_isCopied_243 : decode cL_isCopied 243 = .ok (.iconst 4, 1) := by decide +kernel
theorem dL_isCopied_244 : decode cL_isCopied 244 = .ok (.iload 8, 2) := by decide +kernel
theorem dL_isCopied_246 : decode cL_isCopied 246 = .ok (.imul, 1) := by decide +kernel
theorem dL_isCopied_247 : decode cL_isCopied 247 = .ok (.iconst 1, 1) := by decide +kernel
theorem dL_isCopied_248 : decode cL_isCopied 248 = .ok (.iadd, 1) := by decide +kernel
theorem dL_isCopied_249 : decode cL_isCopied 249 = .ok (.iload 9, 2) := by decide +kernel
theorem dL_isCopied_251 : decode cL_isCopied 251 = .ok (.ifCond .eq 7, 3) := by decide +kernel
theorem dL_isCopied_254 : decode cL_isCopied 254 = .ok (.iconst 1, 1) := by decide +kernel
theorem dL_isCopied_255 : decode cL_isCopied 255 = .ok (.goto 11, 3) := by decide +kernel
theorem dL_isCopied_258 : decode cL_isCopied 258 = .ok (.aload_n 2, 1) := by decide +kernel
theorem dL_isCopied_259 : decode cL_isCopied 259 = .ok (.iconst 4, 1) := by decide +kernel
theorem dL_isCopied_260 : decode cL_isCopied 260 = .ok (.iload 8, 2) := by decide +kernel
theorem dL_isCopied_262 : decode cL_isCopied 262 = .ok (.imul, 1) := by decide +kernel
theorem dL_isCopied_263 : decode cL_isCopied 263 = .ok (.iconst 1, 1) := by decide +kernel
theorem dL_isCopied_264 : decode cL_isCopied 264 = .ok (.iadd, 1) := by decide +kernel
theorem dL_isCopied_265 : decode cL_isCopied 265 = .ok (.iaload, 1) := by decide +kernel
theorem dL_isCopied_266 : decode cL_isCopied 266 = .ok (.iastore, 1) := by decide +kernel
theorem dL_isCopied_267 : decode cL_isCopied 267 = .ok (.aload_n 0, 1) := by decide +kernel
theorem dL_isCopied_268 : decode cL_isCopied 268 = .ok (.iload 8, 2) := by decide +kernel
theorem dL_isCopied_270 : decode cL_isCopied 270 = .ok (.invokestatic 148, 3) := by decide +kernel
theorem dL_isCopied_273 : decode cL_isCopied 273 = .ok (.iload 9, 2) := by decide +kernel
theorem dL_isCopied_275 : decode cL_isCopied 275 = .ok (.ifCond .eq 18, 3) := by decide +kernel
theorem dL_isCopied_278 : decode cL_isCopied 278 = .ok (.aload_n 1, 1) := by decide +kernel
theorem dL_isCopied_279 : decode cL_isCopied 279 = .ok (.aload_n 2, 1) := by decide +kernel
theorem dL_isCopied_280 : decode cL_isCopied 280 = .ok (.aload 5, 2) := by decide +kernel
theorem dL_isCopied_282 : decode cL_isCopied 282 = .ok (.iload 8, 2) := by decide +kernel
theorem dL_isCopied_284 : decode cL_isCopied 284 = .ok (.invokestatic 33, 3) := by decide +kernel
theorem dL_isCopied_287 : decode cL_isCopied 287 = .ok (.invokestatic 37, 3) := by decide +kernel
theorem dL_isCopied_290 : decode cL_isCopied 290 = .ok (.goto 5, 3) := by decide +kernel
theorem dL_isCopied_293 : decode cL_isCopied 293 = .ok (.bipush (-7), 2) := by decide +kernel
theorem dL_isCopied_295 : decode cL_isCopied 295 = .ok (.if_icmp .ne 7, 3) := by decide +kernel
theorem dL_isCopied_298 : decode cL_isCopied 298 = .ok (.iconst 1, 1) := by decide +kernel
theorem dL_isCopied_299 : decode cL_isCopied 299 = .ok (.goto 4, 3) := by decide +kernel
theorem dL_isCopied_302 : decode cL_isCopied 302 = .ok (.iconst 0, 1) := by decide +kernel
theorem dL_isCopied_303 : decode cL_isCopied 303 = .ok (.ireturn, 1) := by decide +kernel
theorem dL_isCopied_304 : decode cL_isCopied 304 = .ok (.iload 7, 2) := by decide +kernel
theorem dL_isCopied_306 : decode cL_isCopied 306 = .ok (.iconst 5, 1) := by decide +kernel
theorem dL_isCopied_307 : decode cL_isCopied 307 = .ok (.idiv, 1) := by decide +kernel
theorem dL_isCopied_308 : decode cL_isCopied 308 = .ok (.iconst 4, 1) := by decide +kernel
theorem dL_isCopied_309 : decode cL_isCopied 309 = .ok (.irem, 1) := by decide +kernel
theorem dL_isCopied_310 : decode cL_isCopied 310 = .ok (.ifCond .le 14, 3) := by decide +kernel
theorem dL_isCopied_313 : decode cL_isCopied 313 = .ok (.aload_n 2, 1) := by decide +kernel
theorem dL_isCopied_314 : decode cL_isCopied 314 = .ok (.iconst 4, 1) := by decide +kernel
theorem dL_isCopied_315 : decode cL_isCopied 315 = .ok (.iload 8, 2) := by decide +kernel
theorem dL_isCopied_317 : decode cL_isCopied 317 = .ok (.imul, 1) := by decide +kernel
theorem dL_isCopied_318 : decode cL_isCopied 318 = .ok (.iconst 3, 1) := by decide +kernel
theorem dL_isCopied_319 : decode cL_isCopied 319 = .ok (.iadd, 1) := by decide +kernel
theorem dL_isCopied_320 : decode cL_isCopied 320 = .ok (.iaload, 1) := by decide +kernel
theorem dL_isCopied_321 : decode cL_isCopied 321 = .ok (.goto 7, 3) := by decide +kernel
theorem dL_isCopied_324 : decode cL_isCopied 324 = .ok (.iload 7, 2) := by decide +kernel
theorem dL_isCopied_326 : decode cL_isCopied 326 = .ok (.iconst 5, 1) := by decide +kernel
theorem dL_isCopied_327 : decode cL_isCopied 327 = .ok (.irem, 1) := by decide +kernel
theorem dL_isCopied_328 : decode cL_isCopied 328 = .ok (.istore 9, 2) := by decide +kernel
theorem dL_isCopied_330 : decode cL_isCopied 330 = .ok (.iload 7, 2) := by decide +kernel
theorem dL_isCopied_332 : decode cL_isCopied 332 = .ok (.iconst 3, 1) := by decide +kernel
theorem dL_isCopied_333 : decode cL_isCopied 333 = .ok (.idiv, 1) := by decide +kernel
theorem dL_isCopied_334 : decode cL_isCopied 334 = .ok (.bipush 6, 2) := by decide +kernel
theorem dL_isCopied_336 : decode cL_isCopied 336 = .ok (.irem, 1) := by decide +kernel
theorem dL_isCopied_337 : decode cL_isCopied 337 = .ok (.istore 10, 2) := by decide +kernel
theorem dL_isCopied_339 : decode cL_isCopied 339 = .ok (.iload 7, 2) := by decide +kernel
theorem dL_isCopied_341 : decode cL_isCopied 341 = .ok (.iconst 3, 1) := by decide +kernel
theorem dL_isCopied_342 : decode cL_isCopied 342 = .ok (.irem, 1) := by decide +kernel
theorem dL_isCopied_343 : decode cL_isCopied 343 = .ok (.ifCond .ne 7, 3) := by decide +kernel
theorem dL_isCopied_346 : decode cL_isCopied 346 = .ok (.iconst 1, 1) := by decide +kernel
theorem dL_isCopied_347 : decode cL_isCopied 347 = .ok (.goto 4, 3) := by decide +kernel
theorem dL_isCopied_350 : decode cL_isCopied 350 = .ok (.iconst 0, 1) := by decide +kernel
theorem dL_isCopied_351 : decode cL_isCopied 351 = .ok (.istore 11, 2) := by decide +kernel
theorem dL_isCopied_353 : decode cL_isCopied 353 = .ok (.aload 5, 2) := by decide +kernel
theorem dL_isCopied_355 : decode cL_isCopied 355 = .ok (.iconst 0, 1) := by decide +kernel
theorem dL_isCopied_356 : decode cL_isCopied 356 = .ok (.iaload, 1) := by decide +kernel
theorem dL_isCopied_357 : decode cL_isCopied 357 = .ok (.bipush 16, 2) := by decide +kernel
theorem dL_isCopied_359 : decode cL_isCopied 359 = .ok (.if_icmp .ne 5, 3) := by decide +kernel
theorem dL_isCopied_362 : decode cL_isCopied 362 = .ok (.iconst 1, 1) := by decide +kernel
theorem dL_isCopied_363 : decode cL_isCopied 363 = .ok (.ireturn, 1) := by decide +kernel
theorem dL_isCopied_364 : decode cL_isCopied 364 = .ok (.aload_n 2, 1) := by decide +kernel
theorem dL_isCopied_365 : decode cL_isCopied 365 = .ok (.iconst 4, 1) := by decide +kernel
theorem dL_isCopied_366 : decode cL_isCopied 366 = .ok (.iload 8, 2) := by decide +kernel
theorem dL_isCopied_368 : decode cL_isCopied 368 = .ok (.imul, 1) := by decide +kernel
theorem dL_isCopied_369 : decode cL_isCopied 369 = .ok (.iconst 3, 1) := by decide +kernel
theorem dL_isCopied_370 : decode cL_isCopied 370 = .ok (.iadd, 1) := by decide +kernel
theorem dL_isCopied_371 : decode cL_isCopied 371 = .ok (.iaload, 1) := by decide +kernel
theorem dL_isCopied_372 : decode cL_isCopied 372 = .ok (.iload 9, 2) := by decide +kernel
theorem dL_isCopied_374 : decode cL_isCopied 374 = .ok (.if_icmp .eq 26, 3) := by decide +kernel
theorem dL_isCopied_377 : decode cL_isCopied 377 = .ok (.aload_n 0, 1) := by decide +kernel
theorem dL_isCopied_378 : decode cL_isCopied 378 = .ok (.iload 8, 2) := by decide +kernel
theorem dL_isCopied_380 : decode cL_isCopied 380 = .ok (.iload 10, 2) := by decide +kernel
theorem dL_isCopied_382 : decode cL_isCopied 382 = .ok (.iload 9, 2) := by decide +kernel
theorem dL_isCopied_384 : decode cL_isCopied 384 = .ok (.iload 11, 2) := by decide +kernel
theorem dL_isCopied_386 : decode cL_isCopied 386 = .ok (.invokestatic 152, 3) := by decide +kernel
theorem dL_isCopied_389 : decode cL_isCopied 389 = .ok (.bipush (-7), 2) := by decide +kernel
theorem dL_isCopied_391 : decode cL_isCopied 391 = .ok (.if_icmp .ne 7, 3) := by decide +kernel
theorem dL_isCopied_394 : decode cL_isCopied 394 = .ok (.iconst 1, 1) := by decide +kernel
theorem dL_isCopied_395 : decode cL_isCopied 395 = .ok (.goto 4, 3) := by decide +kernel
theorem dL_isCopied_398 : decode cL_isCopied 398 = .ok (.iconst 0, 1) := by decide +kernel
theorem dL_isCopied_399 : decode cL_isCopied 399 = .ok (.ireturn, 1) := by decide +kernel
theorem dL_isCopied_400 : decode cL_isCopied 400 = .ok (.aload_n 1, 1) := by decide +kernel
theorem dL_isCopied_401 : decode cL_isCopied 401 = .ok (.aload 5, 2) := by decide +kernel
theorem dL_isCopied_403 : decode cL_isCopied 403 = .ok (.iconst 0, 1) := by decide +kernel
theorem dL_isCopied_404 : decode cL_isCopied 404 = .ok (.iaload, 1) := by decide +kernel
theorem dL_isCopied_405 : decode cL_isCopied 405 = .ok (.aload_n 1, 1) := by decide +kernel
theorem dL_isCopied_406 : decode cL_isCopied 406 = .ok (.iload 8, 2) := by decide +kernel
theorem dL_isCopied_408 : decode cL_isCopied 408 = .ok (.laload, 1) := by decide +kernel
theorem dL_isCopied_409 : decode cL_isCopied 409 = .ok (.lastore, 1) := by decide +kernel
theorem dL_isCopied_410 : decode cL_isCopied 410 = .ok (.iconst 0, 1) := by decide +kernel
theorem dL_isCopied_411 : decode cL_isCopied 411 = .ok (.istore 12, 2) := by decide +kernel
theorem dL_isCopied_413 : decode cL_isCopied 413 = .ok (.iload 12, 2) := by decide +kernel
theorem dL_isCopied_415 : decode cL_isCopied 415 = .ok (.bipush 12, 2) := by decide +kernel
theorem dL_isCopied_417 : decode cL_isCopied 417 = .ok (.if_icmp .ge 71, 3) := by decide +kernel
theorem dL_isCopied_420 : decode cL_isCopied 420 = .ok (.aload_n 3, 1) := by decide +kernel
theorem dL_isCopied_421 : decode cL_isCopied 421 = .ok (.iload 12, 2) := by decide +kernel
theorem dL_isCopied_423 : decode cL_isCopied 423 = .ok (.iaload, 1) := by decide +kernel
theorem dL_isCopied_424 : decode cL_isCopied 424 = .ok (.ifCond .lt 58, 3) := by decide +kernel
theorem dL_isCopied_427 : decode cL_isCopied 427 = .ok (.aload 4, 2) := by decide +kernel
theorem dL_isCopied_429 : decode cL_isCopied 429 = .ok (.iload 10, 2) := by decide +kernel
theorem dL_isCopied_431 : decode cL_isCopied 431 = .ok (.dup2, 1) := by decide +kernel
theorem dL_isCopied_432 : decode cL_isCopied 432 = .ok (.iaload, 1) := by decide +kernel
theorem dL_isCopied_433 : decode cL_isCopied 433 = .ok (.aload_n 1, 1) := by decide +kernel
theorem dL_isCopied_434 : decode cL_isCopied 434 = .ok (.iload 8, 2) := by decide +kernel
theorem dL_isCopied_436 : decode cL_isCopied 436 = .ok (.laload, 1) := by decide +kernel
theorem dL_isCopied_437 : decode cL_isCopied 437 = .ok (.iload 12, 2) := by decide +kernel
theorem dL_isCopied_439 : decode cL_isCopied 439 = .ok (.invokestatic 13, 3) := by decide +kernel
theorem dL_isCopied_442 : decode cL_isCopied 442 = .ok (.aload_n 3, 1) := by decide +kernel
theorem dL_isCopied_443 : decode cL_isCopied 443 = .ok (.iload 12, 2) := by decide +kernel
theorem dL_isCopied_445 : decode cL_isCopied 445 = .ok (.iaload, 1) := by decide +kernel
theorem dL_isCopied_446 : decode cL_isCopied 446 = .ok (.if_icmp .ne 7, 3) := by decide +kernel
theorem dL_isCopied_449 : decode cL_isCopied 449 = .ok (.iconst 0, 1) := by decide +kernel
theorem dL_isCopied_450 : decode cL_isCopied 450 = .ok (.goto 4, 3) := by decide +kernel
theorem dL_isCopied_453 : decode cL_isCopied 453 = .ok (.iconst 1, 1) := by decide +kernel
theorem dL_isCopied_454 : decode cL_isCopied 454 = .ok (.iadd, 1) := by decide +kernel
theorem dL_isCopied_455 : decode cL_isCopied 455 = .ok (.iastore, 1) := by decide +kernel
theorem dL_isCopied_456 : decode cL_isCopied 456 = .ok (.aload_n 1, 1) := by decide +kernel
theorem dL_isCopied_457 : decode cL_isCopied 457 = .ok (.aload 5, 2) := by decide +kernel
theorem dL_isCopied_459 : decode cL_isCopied 459 = .ok (.iconst 0, 1) := by decide +kernel
theorem dL_isCopied_460 : decode cL_isCopied 460 = .ok (.iaload, 1) := by decide +kernel
theorem dL_isCopied_461 : decode cL_isCopied 461 = .ok (.aload_n 1, 1) := by decide +kernel
theorem dL_isCopied_462 : decode cL_isCopied 462 = .ok (.aload 5, 2) := by decide +kernel
theorem dL_isCopied_464 : decode cL_isCopied 464 = .ok (.iconst 0, 1) := by decide +kernel
theorem dL_isCopied_465 : decode cL_isCopied 465 = .ok (.iaload, 1) := by decide +kernel
theorem dL_isCopied_466 : decode cL_isCopied 466 = .ok (.laload, 1) := by decide +kernel
theorem dL_isCopied_467 : decode cL_isCopied 467 = .ok (.iload 12, 2) := by decide +kernel
theorem dL_isCopied_469 : decode cL_isCopied 469 = .ok (.aload_n 3, 1) := by decide +kernel
theorem dL_isCopied_470 : decode cL_isCopied 470 = .ok (.iload 12, 2) := by decide +kernel
theorem dL_isCopied_472 : decode cL_isCopied 472 = .ok (.iaload, 1) := by decide +kernel
theorem dL_isCopied_473 : decode cL_isCopied 473 = .ok (.invokestatic 156, 3) := by decide +kernel
theorem dL_isCopied_476 : decode cL_isCopied 476 = .ok (.lastore, 1) := by decide +kernel
theorem dL_isCopied_477 : decode cL_isCopied 477 = .ok (.aload_n 3, 1) := by decide +kernel
theorem dL_isCopied_478 : decode cL_isCopied 478 = .ok (.iload 12, 2) := by decide +kernel
theorem dL_isCopied_480 : decode cL_isCopied 480 = .ok (.iconst (-1), 1) := by decide +kernel
theorem dL_isCopied_481 : decode cL_isCopied 481 = .ok (.iastore, 1) := by decide +kernel
theorem dL_isCopied_482 : decode cL_isCopied 482 = .ok (.iinc 12 1, 3) := by decide +kernel
theorem dL_isCopied_485 : decode cL_isCopied 485 = .ok (.goto (-72), 3) := by decide +kernel
theorem dL_isCopied_488 : decode cL_isCopied 488 = .ok (.aload_n 2, 1) := by decide +kernel
theorem dL_isCopied_489 : decode cL_isCopied 489 = .ok (.iconst 4, 1) := by decide +kernel
theorem dL_isCopied_490 : decode cL_isCopied 490 = .ok (.aload 5, 2) := by decide +kernel
theorem dL_isCopied_492 : decode cL_isCopied 492 = .ok (.iconst 0, 1) := by decide +kernel
theorem dL_isCopied_493 : decode cL_isCopied 493 = .ok (.iaload, 1) := by decide +kernel
theorem dL_isCopied_494 : decode cL_isCopied 494 = .ok (.imul, 1) := by decide +kernel
theorem dL_isCopied_495 : decode cL_isCopied 495 = .ok (.iload 8, 2) := by decide +kernel
theorem dL_isCopied_497 : decode cL_isCopied 497 = .ok (.iastore, 1) := by decide +kernel
theorem dL_isCopied_498 : decode cL_isCopied 498 = .ok (.aload_n 2, 1) := by decide +kernel
theorem dL_isCopied_499 : decode cL_isCopied 499 = .ok (.iconst 4, 1) := by decide +kernel
theorem dL_isCopied_500 : decode cL_isCopied 500 = .ok (.aload 5, 2) := by decide +kernel
theorem dL_isCopied_502 : decode cL_isCopied 502 = .ok (.iconst 0, 1) := by decide +kernel
theorem dL_isCopied_503 : decode cL_isCopied 503 = .ok (.iaload, 1) := by decide +kernel
theorem dL_isCopied_504 : decode cL_isCopied 504 = .ok (.imul, 1) := by decide +kernel
theorem dL_isCopied_505 : decode cL_isCopied 505 = .ok (.iconst 1, 1) := by decide +kernel
theorem dL_isCopied_506 : decode cL_isCopied 506 = .ok (.iadd, 1) := by decide +kernel
theorem dL_isCopied_507 : decode cL_isCopied 507 = .ok (.iload 11, 2) := by decide +kernel
theorem dL_isCopied_509 : decode cL_isCopied 509 = .ok (.ifCond .eq 7, 3) := by decide +kernel
theorem dL_isCopied_512 : decode cL_isCopied 512 = .ok (.iconst 1, 1) := by decide +kernel
theorem dL_isCopied_513 : decode cL_isCopied 513 = .ok (.goto 4, 3) := by decide +kernel
theorem dL_isCopied_516 : decode cL_isCopied 516 = .ok (.iconst 0, 1) := by decide +kernel
theorem dL_isCopied_517 : decode cL_isCopied 517 = .ok (.iastore, 1) := by decide +kernel
theorem dL_isCopied_518 : decode cL_isCopied 518 = .ok (.aload_n 2, 1) := by decide +kernel
theorem dL_isCopied_519 : decode cL_isCopied 519 = .ok (.iconst 4, 1) := by decide +kernel
theorem dL_isCopied_520 : decode cL_isCopied 520 = .ok (.aload 5, 2) := by decide +kernel
theorem dL_isCopied_522 : decode cL_isCopied 522 = .ok (.iconst 0, 1) := by decide +kernel
theorem dL_isCopied_523 : decode cL_isCopied 523 = .ok (.iaload, 1) := by decide +kernel
theorem dL_isCopied_524 : decode cL_isCopied 524 = .ok (.imul, 1) := by decide +kernel
theorem dL_isCopied_525 : decode cL_isCopied 525 = .ok (.iconst 2, 1) := by decide +kernel
theorem dL_isCopied_526 : decode cL_isCopied 526 = .ok (.iadd, 1) := by decide +kernel
theorem dL_isCopied_527 : decode cL_isCopied 527 = .ok (.iload 9, 2) := by decide +kernel
theorem dL_isCopied_529 : decode cL_isCopied 529 = .ok (.iastore, 1) := by decide +kernel
theorem dL_isCopied_530 : decode cL_isCopied 530 = .ok (.aload_n 2, 1) := by decide +kernel
theorem dL_isCopied_531 : decode cL_isCopied 531 = .ok (.iconst 4, 1) := by decide +kernel
theorem dL_isCopied_532 : decode cL_isCopied 532 = .ok (.aload 5, 2) := by decide +kernel
theorem dL_isCopied_534 : decode cL_isCopied 534 = .ok (.iconst 0, 1) := by decide +kernel
theorem dL_isCopied_535 : decode cL_isCopied 535 = .ok (.iaload, 1) := by decide +kernel
theorem dL_isCopied_536 : decode cL_isCopied 536 = .ok (.imul, 1) := by decide +kernel
theorem dL_isCopied_537 : decode cL_isCopied 537 = .ok (.iconst 3, 1) := by decide +kernel
theorem dL_isCopied_538 : decode cL_isCopied 538 = .ok (.iadd, 1) := by decide +kernel
theorem dL_isCopied_539 : decode cL_isCopied 539 = .ok (.iload 9, 2) := by decide +kernel
theorem dL_isCopied_541 : decode cL_isCopied 541 = .ok (.iastore, 1) := by decide +kernel
theorem dL_isCopied_542 : decode cL_isCopied 542 = .ok (.aload 5, 2) := by decide +kernel
theorem dL_isCopied_544 : decode cL_isCopied 544 = .ok (.iconst 1, 1) := by decide +kernel
theorem dL_isCopied_545 : decode cL_isCopied 545 = .ok (.iconst 0, 1) := by decide +kernel
theorem dL_isCopied_546 : decode cL_isCopied 546 = .ok (.iastore, 1) := by decide +kernel
theorem dL_isCopied_547 : decode cL_isCopied 547 = .ok (.aload 5, 2) := by decide +kernel
theorem dL_isCopied_549 : decode cL_isCopied 549 = .ok (.iconst 0, 1) := by decide +kernel
theorem dL_isCopied_550 : decode cL_isCopied 550 = .ok (.dup2, 1) := by decide +kernel
theorem dL_isCopied_551 : decode cL_isCopied 551 = .ok (.iaload, 1) := by decide +kernel
theorem dL_isCopied_552 : decode cL_isCopied 552 = .ok (.iconst 1, 1) := by decide +kernel
theorem dL_isCopied_553 : decode cL_isCopied 553 = .ok (.iadd, 1) := by decide +kernel
theorem dL_isCopied_554 : decode cL_isCopied 554 = .ok (.iastore, 1) := by decide +kernel
theorem dL_isCopied_555 : decode cL_isCopied 555 = .ok (.aload_n 0, 1) := by decide +kernel
theorem dL_isCopied_556 : decode cL_isCopied 556 = .ok (.iload 8, 2) := by decide +kernel
theorem dL_isCopied_558 : decode cL_isCopied 558 = .ok (.iload 10, 2) := by decide +kernel
theorem dL_isCopied_560 : decode cL_isCopied 560 = .ok (.iload 9, 2) := by decide +kernel
theorem dL_isCopied_562 : decode cL_isCopied 562 = .ok (.iload 11, 2) := by decide +kernel
theorem dL_isCopied_564 : decode cL_isCopied 564 = .ok (.invokestatic 152, 3) := by decide +kernel
theorem dL_isCopied_567 : decode cL_isCopied 567 = .ok (.aload 5, 2) := by decide +kernel
theorem dL_isCopied_569 : decode cL_isCopied 569 = .ok (.iconst 0, 1) := by decide +kernel
theorem dL_isCopied_570 : decode cL_isCopied 570 = .ok (.iaload, 1) := by decide +kernel
theorem dL_isCopied_571 : decode cL_isCopied 571 = .ok (.iconst 1, 1) := by decide +kernel
theorem dL_isCopied_572 : decode cL_isCopied 572 = .ok (.isub, 1) := by decide +kernel
theorem dL_isCopied_573 : decode cL_isCopied 573 = .ok (.if_icmp .ne 7, 3) := by decide +kernel
theorem dL_isCopied_576 : decode cL_isCopied 576 = .ok (.iconst 1, 1) := by decide +kernel
theorem dL_isCopied_577 : decode cL_isCopied 577 = .ok (.goto 4, 3) := by decide +kernel
theorem dL_isCopied_580 : decode cL_isCopied 580 = .ok (.iconst 0, 1) := by decide +kernel
theorem dL_isCopied_581 : decode cL_isCopied 581 = .ok (.ireturn, 1) := by decide +kernel
set_option maxRecDepth 20000 in
theorem ggL_isLettered_L_get : GoodIn wsL_isLettered wsL_get := goodIn_r _ [4, 5] (by decide +kernel) (by decide +kernel)
set_option maxRecDepth 20000 in
theorem gL_isLettered_L_get : GoodIn wsL_isLettered (va_wsS RL 13 yL_get wsL_get) := goodIn_app (goodIn_of _ (by decide +kernel)) ggL_isLettered_L_get
set_option maxRecDepth 20000 in
theorem ggL_isLettered_L_put : GoodIn wsL_isLettered wsL_put := goodIn_r _ [8, 5, 9] (by decide +kernel) (by decide +kernel)
set_option maxRecDepth 20000 in
theorem gL_isLettered_L_put : GoodIn wsL_isLettered (va_wsS RL 156 yL_put wsL_put) := goodIn_app (goodIn_of _ (by decide +kernel)) ggL_isLettered_L_put
set_option maxRecDepth 20000 in
theorem ggL_isLettered_L_worked : GoodIn wsL_isLettered wsL_worked := goodIn_ca (goodIn_ca (goodIn_r _ [12, 13, 14, 15, 16, 17, 18, 19, 20, 21, 22, 23, 24, 25, 26, 27, 28, 29, 30, 31, 32, 33, 34, 35, 36, 37, 38, 39, 40, 41, 42, 43, 44, 45, 46, 47, 48, 49, 50, 51, 52, 53, 54, 55, 56, 57, 58, 59, 60, 61, 62, 63, 64, 65, 66, 67, 68, 69, 70, 71, 72, 73, 74, 75, 76, 77, 78, 79, 80, 81, 82, 83, 84, 85, 86, 87, 88, 89, 90, 91, 92, 93, 94, 95, 96, 97, 98, 99, 100, 101, 102, 103, 104, 105, 106, 107, 108, 109, 110, 111, 112, 187, 188, 189, 190, 191, 192, 193, 194, 195, 196, 197, 198, 199, 200, 201, 202, 203, 204, 205, 206, 207, 208, 209, 210] (by decide +kernel) (by decide +kernel)) (goodIn_sub (fun _ h => List.mem_cons_of_mem _ (List.mem_append_left _ (List.mem_append_right _ h))) (by decide +kernel))) (goodIn_sub (fun _ h => List.mem_cons_of_mem _ (List.mem_append_right _ h)) (by decide +kernel))
set_option maxRecDepth 20000 in
theorem gL_isLettered_L_worked : GoodIn wsL_isLettered (va_wsS RL 160 yL_worked wsL_worked) := goodIn_app (goodIn_of _ (by decide +kernel)) ggL_isLettered_L_worked
set_option maxRecDepth 20000 in
theorem ggL_isLettered_L_place : GoodIn wsL_isLettered wsL_place := goodIn_r _ [115] (by decide +kernel) (by decide +kernel)
set_option maxRecDepth 20000 in
theorem gL_isLettered_L_place : GoodIn wsL_isLettered (va_wsS RL 45 yL_place wsL_place) := goodIn_app (goodIn_of _ (by decide +kernel)) ggL_isLettered_L_place
set_option maxRecDepth 20000 in
theorem ggL_isLettered_L_corrected : GoodIn wsL_isLettered wsL_corrected := goodIn_ca (goodIn_ca (goodIn_r _ [118, 13, 119, 120, 121, 17, 122, 19, 20, 21, 123, 22, 124, 125, 70, 24, 25, 26, 27, 28, 29, 30, 31, 32, 33, 34, 35, 36, 37, 38, 39, 40, 41, 42, 43, 44, 45, 46, 47, 48, 49, 50, 51, 52, 53, 54, 55, 56, 57, 58, 59, 60, 126, 127, 128, 129, 130, 131, 132, 133, 134, 72, 74, 75, 135, 136, 137, 138, 139, 140, 141, 142, 143, 144, 145, 146, 147, 148, 149, 150, 151, 152, 153, 154, 111, 108, 112, 155, 156, 157, 158, 159, 160, 161, 162, 163, 164, 165, 166, 167, 168, 169, 170, 171, 172, 173, 174, 175, 176, 177, 178, 107, 109, 179, 180, 181, 182, 183, 184, 185, 64, 186, 66, 76, 77, 78, 79, 80, 81, 82, 83, 84, 85, 86, 87, 88, 89, 90, 91, 92, 93, 94, 95, 96, 97, 98, 99, 100, 101, 102, 103, 104, 105, 106, 110, 187, 188, 189, 190, 191, 192, 193, 194, 195, 196, 197, 198, 199, 200, 208, 209, 210, 201, 202, 203, 204, 205, 206, 207] (by decide +kernel) (by decide +kernel)) (goodIn_sub (fun _ h => List.mem_cons_of_mem _ (List.mem_append_left _ (List.mem_append_right _ h))) (by decide +kernel))) (goodIn_sub (fun _ h => List.mem_cons_of_mem _ (List.mem_append_right _ h)) (by decide +kernel))
set_option maxRecDepth 20000 in
theorem gL_isLettered_L_corrected : GoodIn wsL_isLettered (va_wsS RL 163 yL_corrected wsL_corrected) := goodIn_app (goodIn_of _ (by decide +kernel)) ggL_isLettered_L_corrected
theorem dL_isLettered_0 : decode cL_isLettered 0 = .ok (.iload 7, 2) := by decide +kernel
theorem dL_isLettered_2 : decode cL_isLettered 2 = .ok (.aload 5, 2) := by decide +kernel
theorem dL_isLettered_4 : decode cL_isLettered 4 = .ok (.iconst 0, 1) := by decide +kernel
theorem dL_isLettered_5 : decode cL_isLettered 5 = .ok (.iaload, 1) := by decide +kernel
theorem dL_isLettered_6 : decode cL_isLettered 6 = .ok (.irem, 1) := by decide +kernel
theorem dL_isLettered_7 : decode cL_isLettered 7 = .ok (.istore 8, 2) := by decide +kernel
theorem dL_isLettered_9 : decode cL_isLettered 9 = .ok (.iload 7, 2) := by decide +kernel
theorem dL_isLettered_11 : decode cL_isLettered 11 = .ok (.bipush 16, 2) := by decide +kernel
theorem dL_isLettered_13 : decode cL_isLettered 13 = .ok (.idiv, 1) := by decide +kernel
theorem dL_isLettered_14 : decode cL_isLettered 14 = .ok (.iconst 5, 1) := by decide +kernel
theorem dL_isLettered_15 : decode cL_isLettered 15 = .ok (.irem, 1) := by decide +kernel
theorem dL_isLettered_16 : decode cL_isLettered 16 = .ok (.ifCond .le 14, 3) := by decide +kernel
theorem dL_isLettered_19 : decode cL_isLettered 19 = .ok (.aload_n 2, 1) := by decide +kernel
theorem dL_isLettered_20 : decode cL_isLettered 20 = .ok (.iconst 4, 1) := by decide +kernel
theorem dL_isLettered_21 : decode cL_isLettered 21 = .ok (.iload 8, 2) := by decide +kernel
theorem dL_isLettered_23 : decode cL_isLettered 23 = .ok (.imul, 1) := by decide +kernel
theorem dL_isLettered_24 : decode cL_isLettered 24 = .ok (.iconst 3, 1) := by decide +kernel
theorem dL_isLettered_25 : decode cL_isLettered 25 = .ok (.iadd, 1) := by decide +kernel
theorem dL_isLettered_26 : decode cL_isLettered 26 = .ok (.iaload, 1) := by decide +kernel
theorem dL_isLettered_27 : decode cL_isLettered 27 = .ok (.goto 10, 3) := by decide +kernel
theorem dL_isLettered_30 : decode cL_isLettered 30 = .ok (.iload 7, 2) := by decide +kernel
theorem dL_isLettered_32 : decode cL_isLettered 32 = .ok (.bipush 80, 2) := by decide +kernel
theorem dL_isLettered_34 : decode cL_isLettered 34 = .ok (.idiv, 1) := by decide +kernel
theorem dL_isLettered_35 : decode cL_isLettered 35 = .ok (.iconst 5, 1) := by decide +kernel
theorem dL_isLettered_36 : decode cL_isLettered 36 = .ok (.irem, 1) := by decide +kernel
theorem dL_isLettered_37 : decode cL_isLettered 37 = .ok (.istore 9, 2) := by decide +kernel
theorem dL_isLettered_39 : decode cL_isLettered 39 = .ok (.iload 6, 2) := by decide +kernel
theorem dL_isLettered_41 : decode cL_isLettered 41 = .ok (.ifCond .ne 196, 3) := by decide +kernel
theorem dL_isLettered_44 : decode cL_isLettered 44 = .ok (.iconst 0, 1) := by decide +kernel
theorem dL_isLettered_45 : decode cL_isLettered 45 = .ok (.istore 10, 2) := by decide +kernel
theorem dL_isLettered_47 : decode cL_isLettered 47 = .ok (.aload_n 2, 1) := by decide +kernel
theorem dL_isLettered_48 : decode cL_isLettered 48 = .ok (.iconst 4, 1) := by decide +kernel
theorem dL_isLettered_49 : decode cL_isLettered 49 = .ok (.iload 8, 2) := by decide +kernel
theorem dL_isLettered_51 : decode cL_isLettered 51 = .ok (.imul, 1) := by decide +kernel
theorem dL_isLettered_52 : decode cL_isLettered 52 = .ok (.iconst 3, 1) := by decide +kernel
theorem dL_isLettered_53 : decode cL_isLettered 53 = .ok (.iadd, 1) := by decide +kernel
theorem dL_isLettered_54 : decode cL_isLettered 54 = .ok (.iaload, 1) := by decide +kernel
theorem dL_isLettered_55 : decode cL_isLettered 55 = .ok (.iload 9, 2) := by decide +kernel
theorem dL_isLettered_57 : decode cL_isLettered 57 = .ok (.if_icmp .ne 7, 3) := by decide +kernel
theorem dL_isLettered_60 : decode cL_isLettered 60 = .ok (.iconst 1, 1) := by decide +kernel
theorem dL_isLettered_61 : decode cL_isLettered 61 = .ok (.goto 4, 3) := by decide +kernel
theorem dL_isLettered_64 : decode cL_isLettered 64 = .ok (.iconst 0, 1) := by decide +kernel
theorem dL_isLettered_65 : decode cL_isLettered 65 = .ok (.istore 11, 2) := by decide +kernel
theorem dL_isLettered_67 : decode cL_isLettered 67 = .ok (.iconst 0, 1) := by decide +kernel
theorem dL_isLettered_68 : decode cL_isLettered 68 = .ok (.istore 12, 2) := by decide +kernel
theorem dL_isLettered_70 : decode cL_isLettered 70 = .ok (.iload 12, 2) := by decide +kernel
theorem dL_isLettered_72 : decode cL_isLettered 72 = .ok (.aload 5, 2) := by decide +kernel
theorem dL_isLettered_74 : decode cL_isLettered 74 = .ok (.iconst 3, 1) := by decide +kernel
theorem dL_isLettered_75 : decode cL_isLettered 75 = .ok (.iaload, 1) := by decide +kernel
theorem dL_isLettered_76 : decode cL_isLettered 76 = .ok (.if_icmp .ge 132, 3) := by decide +kernel
theorem dL_isLettered_79 : decode cL_isLettered 79 = .ok (.iload 11, 2) := by decide +kernel
theorem dL_isLettered_81 : decode cL_isLettered 81 = .ok (.ifCond .eq 127, 3) := by decide +kernel
theorem dL_isLettered_84 : decode cL_isLettered 84 = .ok (.aload_n 3, 1) := by decide +kernel
theorem dL_isLettered_85 : decode cL_isLettered 85 = .ok (.iload 12, 2) := by decide +kernel
theorem dL_isLettered_87 : decode cL_isLettered 87 = .ok (.iaload, 1) := by decide +kernel
theorem dL_isLettered_88 : decode cL_isLettered 88 = .ok (.bipush 100, 2) := by decide +kernel
theorem dL_isLettered_90 : decode cL_isLettered 90 = .ok (.idiv, 1) := by decide +kernel
theorem dL_isLettered_91 : decode cL_isLettered 91 = .ok (.bipush 23, 2) := by decide +kernel
theorem dL_isLettered_93 : decode cL_isLettered 93 = .ok (.if_icmp .ne 8, 3) := by decide +kernel
theorem dL_isLettered_96 : decode cL_isLettered 96 = .ok (.bipush 11, 2) := by decide +kernel
theorem dL_isLettered_98 : decode cL_isLettered 98 = .ok (.goto 11, 3) := by decide +kernel
theorem dL_isLettered_101 : decode cL_isLettered 101 = .ok (.aload_n 3, 1) := by decide +kernel
theorem dL_isLettered_102 : decode cL_isLettered 102 = .ok (.iload 12, 2) := by decide +kernel
theorem dL_isLettered_104 : decode cL_isLettered 104 = .ok (.iaload, 1) := by decide +kernel
theorem dL_isLettered_105 : decode cL_isLettered 105 = .ok (.sipush 200, 3) := by decide +kernel
theorem dL_isLettered_108 : decode cL_isLettered 108 = .ok (.idiv, 1) := by decide +kernel
theorem dL_isLettered_109 : decode cL_isLettered 109 = .ok (.istore 13, 2) := by decide +kernel
theorem dL_isLettered_111 : decode cL_isLettered 111 = .ok (.aload 4, 2) := by decide +kernel
theorem dL_isLettered_113 : decode cL_isLettered 113 = .ok (.iload 9, 2) := by decide +kernel
theorem dL_isLettered_115 : decode cL_isLettered 115 = .ok (.laload, 1) := by decide +kernel
theorem dL_isLettered_116 : decode cL_isLettered 116 = .ok (.iload 12, 2) := by decide +kernel
theorem dL_isLettered_118 : decode cL_isLettered 118 = .ok (.lshr, 1) := by decide +kernel
theorem dL_isLettered_119 : decode cL_isLettered 119 = .ok (.lconst 1, 1) := by decide +kernel
theorem dL_isLettered_120 : decode cL_isLettered 120 = .ok (.land, 1) := by decide +kernel
theorem dL_isLettered_121 : decode cL_isLettered 121 = .ok (.lconst 1, 1) := by decide +kernel
theorem dL_isLettered_122 : decode cL_isLettered 122 = .ok (.lcmp, 1) := by decide +kernel
theorem dL_isLettered_123 : decode cL_isLettered 123 = .ok (.ifCond .ne 29, 3) := by decide +kernel
theorem dL_isLettered_126 : decode cL_isLettered 126 = .ok (.aload_n 1, 1) := by decide +kernel
theorem dL_isLettered_127 : decode cL_isLettered 127 = .ok (.iload 8, 2) := by decide +kernel
theorem dL_isLettered_129 : decode cL_isLettered 129 = .ok (.laload, 1) := by decide +kernel
theorem dL_isLettered_130 : decode cL_isLettered 130 = .ok (.iload 13, 2) := by decide +kernel
theorem dL_isLettered_132 : decode cL_isLettered 132 = .ok (.invokestatic 13, 3) := by decide +kernel
theorem dL_isLettered_135 : decode cL_isLettered 135 = .ok (.aload_n 3, 1) := by decide +kernel
theorem dL_isLettered_136 : decode cL_isLettered 136 = .ok (.iload 12, 2) := by decide +kernel
theorem dL_isLettered_138 : decode cL_isLettered 138 = .ok (.iaload, 1) := by decide +kernel
theorem dL_isLettered_139 : decode cL_isLettered 139 = .ok (.bipush 10, 2) := by decide +kernel
theorem dL_isLettered_141 : decode cL_isLettered 141 = .ok (.idiv, 1) := by decide +kernel
theorem dL_isLettered_142 : decode cL_isLettered 142 = .ok (.bipush 10, 2) := by decide +kernel
theorem dL_isLettered_144 : decode cL_isLettered 144 = .ok (.irem, 1) := by decide +kernel
theorem dL_isLettered_145 : decode cL_isLettered 145 = .ok (.if_icmp .ne 7, 3) := by decide +kernel
theorem dL_isLettered_148 : decode cL_isLettered 148 = .ok (.iconst 1, 1) := by decide +kernel
theorem dL_isLettered_149 : decode cL_isLettered 149 = .ok (.goto 4, 3) := by decide +kernel
theorem dL_isLettered_152 : decode cL_isLettered 152 = .ok (.iconst 0, 1) := by decide +kernel
theorem dL_isLettered_153 : decode cL_isLettered 153 = .ok (.istore 14, 2) := by decide +kernel
theorem dL_isLettered_155 : decode cL_isLettered 155 = .ok (.aload_n 1, 1) := by decide +kernel
theorem dL_isLettered_156 : decode cL_isLettered 156 = .ok (.iload 8, 2) := by decide +kernel
theorem dL_isLettered_158 : decode cL_isLettered 158 = .ok (.iload 14, 2) := by decide +kernel
theorem dL_isLettered_160 : decode cL_isLettered 160 = .ok (.ifCond .eq 22, 3) := by decide +kernel
theorem dL_isLettered_163 : decode cL_isLettered 163 = .ok (.aload_n 1, 1) := by decide +kernel
theorem dL_isLettered_164 : decode cL_isLettered 164 = .ok (.iload 8, 2) := by decide +kernel
theorem dL_isLettered_166 : decode cL_isLettered 166 = .ok (.laload, 1) := by decide +kernel
theorem dL_isLettered_167 : decode cL_isLettered 167 = .ok (.iload 13, 2) := by decide +kernel
theorem dL_isLettered_169 : decode cL_isLettered 169 = .ok (.aload_n 3, 1) := by decide +kernel
theorem dL_isLettered_170 : decode cL_isLettered 170 = .ok (.iload 12, 2) := by decide +kernel
theorem dL_isLettered_172 : decode cL_isLettered 172 = .ok (.iaload, 1) := by decide +kernel
theorem dL_isLettered_173 : decode cL_isLettered 173 = .ok (.bipush 10, 2) := by decide +kernel
theorem dL_isLettered_175 : decode cL_isLettered 175 = .ok (.irem, 1) := by decide +kernel
theorem dL_isLettered_176 : decode cL_isLettered 176 = .ok (.invokestatic 156, 3) := by decide +kernel
theorem dL_isLettered_179 : decode cL_isLettered 179 = .ok (.goto 7, 3) := by decide +kernel
theorem dL_isLettered_182 : decode cL_isLettered 182 = .ok (.aload_n 1, 1) := by decide +kernel
theorem dL_isLettered_183 : decode cL_isLettered 183 = .ok (.iload 8, 2) := by decide +kernel
theorem dL_isLettered_185 : decode cL_isLettered 185 = .ok (.laload, 1) := by decide +kernel
theorem dL_isLettered_186 : decode cL_isLettered 186 = .ok (.lastore, 1) := by decide +kernel
theorem dL_isLettered_187 : decode cL_isLettered 187 = .ok (.iload 10, 2) := by decide +kernel
theorem dL_isLettered_189 : decode cL_isLettered 189 = .ok (.iload 14, 2) := by decide +kernel
theorem dL_isLettered_191 : decode cL_isLettered 191 = .ok (.ifCond .eq 7, 3) := by decide +kernel
theorem dL_isLettered_194 : decode cL_isLettered 194 = .ok (.iconst 1, 1) := by decide +kernel
theorem dL_isLettered_195 : decode cL_isLettered 195 = .ok (.goto 4, 3) := by decide +kernel
theorem dL_isLettered_198 : decode cL_isLettered 198 = .ok (.iconst 0, 1) := by decide +kernel
theorem dL_isLettered_199 : decode cL_isLettered 199 = .ok (.iadd, 1) := by decide +kernel
theorem dL_isLettered_200 : decode cL_isLettered 200 = .ok (.istore 10, 2) := by decide +kernel
theorem dL_isLettered_202 : decode cL_isLettered 202 = .ok (.iinc 12 1, 3) := by decide +kernel
theorem dL_isLettered_205 : decode cL_isLettered 205 = .ok (.goto (-135), 3) := by decide +kernel
theorem dL_isLettered_208 : decode cL_isLettered 208 = .ok (.aload_n 0, 1) := by decide +kernel
theorem dL_isLettered_209 : decode cL_isLettered 209 = .ok (.iload 9, 2) := by decide +kernel
theorem dL_isLettered_211 : decode cL_isLettered 211 = .ok (.iload 8, 2) := by decide +kernel
theorem dL_isLettered_213 : decode cL_isLettered 213 = .ok (.invokestatic 160, 3) := by decide +kernel
theorem dL_isLettered_216 : decode cL_isLettered 216 = .ok (.iload 11, 2) := by decide +kernel
theorem dL_isLettered_218 : decode cL_isLettered 218 = .ok (.ifCond .eq 8, 3) := by decide +kernel
theorem dL_isLettered_221 : decode cL_isLettered 221 = .ok (.iload 10, 2) := by decide +kernel
theorem dL_isLettered_223 : decode cL_isLettered 223 = .ok (.goto 5, 3) := by decide +kernel
theorem dL_isLettered_226 : decode cL_isLettered 226 = .ok (.bipush (-7), 2) := by decide +kernel
theorem dL_isLettered_228 : decode cL_isLettered 228 = .ok (.if_icmp .ne 7, 3) := by decide +kernel
theorem dL_isLettered_231 : decode cL_isLettered 231 = .ok (.iconst 1, 1) := by decide +kernel
theorem dL_isLettered_232 : decode cL_isLettered 232 = .ok (.goto 4, 3) := by decide +kernel
theorem dL_isLettered_235 : decode cL_isLettered 235 = .ok (.iconst 0, 1) := by decide +kernel
theorem dL_isLettered_236 : decode cL_isLettered 236 = .ok (.ireturn, 1) := by decide +kernel
theorem dL_isLettered_237 : decode cL_isLettered 237 = .ok (.iload 7, 2) := by decide +kernel
theorem dL_isLettered_239 : decode cL_isLettered 239 = .ok (.sipush 400, 3) := by decide +kernel
theorem dL_isLettered_242 : decode cL_isLettered 242 = .ok (.idiv, 1) := by decide +kernel
theorem dL_isLettered_243 : decode cL_isLettered 243 = .ok (.aload 5, 2) := by decide +kernel
theorem dL_isLettered_245 : decode cL_isLettered 245 = .ok (.iconst 0, 1) := by decide +kernel
theorem dL_isLettered_246 : decode cL_isLettered 246 = .ok (.iaload, 1) := by decide +kernel
theorem dL_isLettered_247 : decode cL_isLettered 247 = .ok (.irem, 1) := by decide +kernel
theorem dL_isLettered_248 : decode cL_isLettered 248 = .ok (.istore 10, 2) := by decide +kernel
theorem dL_isLettered_250 : decode cL_isLettered 250 = .ok (.iload 7, 2) := by decide +kernel
theorem dL_isLettered_252 : decode cL_isLettered 252 = .ok (.sipush 6400, 3) := by decide +kernel
theorem dL_isLettered_255 : decode cL_isLettered 255 = .ok (.idiv, 1) := by decide +kernel
theorem dL_isLettered_256 : decode cL_isLettered 256 = .ok (.bipush 12, 2) := by decide +kernel
theorem dL_isLettered_258 : decode cL_isLettered 258 = .ok (.irem, 1) := by decide +kernel
theorem dL_isLettered_259 : decode cL_isLettered 259 = .ok (.istore 11, 2) := by decide +kernel
theorem dL_isLettered_261 : decode cL_isLettered 261 = .ok (.iconst 0, 1) := by decide +kernel
theorem dL_isLettered_262 : decode cL_isLettered 262 = .ok (.istore 12, 2) := by decide +kernel
theorem dL_isLettered_264 : decode cL_isLettered 264 = .ok (.iload 12, 2) := by decide +kernel
theorem dL_isLettered_266 : decode cL_isLettered 266 = .ok (.bipush 12, 2) := by decide +kernel
theorem dL_isLettered_268 : decode cL_isLettered 268 = .ok (.if_icmp .ge 45, 3) := by decide +kernel
theorem dL_isLettered_271 : decode cL_isLettered 271 = .ok (.iload 6, 2) := by decide +kernel
theorem dL_isLettered_273 : decode cL_isLettered 273 = .ok (.iconst 1, 1) := by decide +kernel
theorem dL_isLettered_274 : decode cL_isLettered 274 = .ok (.if_icmp .ne 39, 3) := by decide +kernel
theorem dL_isLettered_277 : decode cL_isLettered 277 = .ok (.aload_n 1, 1) := by decide +kernel
theorem dL_isLettered_278 : decode cL_isLettered 278 = .ok (.iload 8, 2) := by decide +kernel
theorem dL_isLettered_280 : decode cL_isLettered 280 = .ok (.laload, 1) := by decide +kernel
theorem dL_isLettered_281 : decode cL_isLettered 281 = .ok (.iload 11, 2) := by decide +kernel
theorem dL_isLettered_283 : decode cL_isLettered 283 = .ok (.invokestatic 13, 3) := by decide +kernel
