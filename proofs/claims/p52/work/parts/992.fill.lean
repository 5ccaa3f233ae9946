theorem dL_fill_0 : decode cL_fill 0 = .ok (.aload_n 0, 1) := by decide +kernel
theorem dL_fill_1 : decode cL_fill 1 = .ok (.bipush 12, 2) := by decide +kernel
theorem dL_fill_3 : decode cL_fill 3 = .ok (.aload_n 1, 1) := by decide +kernel
theorem dL_fill_4 : decode cL_fill 4 = .ok (.iconst 0, 1) := by decide +kernel
theorem dL_fill_5 : decode cL_fill 5 = .ok (.invokestatic 9, 3) := by decide +kernel
set_option maxRecDepth 20000 in
theorem ggL_fill_L_cell : GoodIn wsL_fill wsL_cell := goodIn_r _ [5, 6] rfl (by decide +kernel)
set_option maxRecDepth 20000 in
theorem gL_fill_L_cell : GoodIn wsL_fill (va_wsS RL 9 yL_cell wsL_cell) := goodIn_app (goodIn_of _ (by decide +kernel)) ggL_fill_L_cell
theorem dL_fill_8 : decode cL_fill 8 = .ok (.bipush 14, 2) := by decide +kernel
theorem dL_fill_10 : decode cL_fill 10 = .ok (.invokestatic 15, 3) := by decide +kernel
set_option maxRecDepth 20000 in
theorem ggL_fill_L_below : GoodIn wsL_fill wsL_below := goodIn_r _ [9, 10] rfl (by decide +kernel)
set_option maxRecDepth 20000 in
theorem gL_fill_L_below : GoodIn wsL_fill (va_wsS RL 15 yL_below wsL_below) := goodIn_app (goodIn_of _ (by decide +kernel)) ggL_fill_L_below
theorem dL_fill_13 : decode cL_fill 13 = .ok (.iadd, 1) := by decide +kernel
theorem dL_fill_14 : decode cL_fill 14 = .ok (.invokevirtual 19, 3) := by decide +kernel
set_option maxRecDepth 20000 in
theorem ggL_fill_X8_setQuay : GoodIn wsL_fill wsX8_setQuay := goodIn_ca (goodIn_r _ [15, 16, 17, 18, 14, 19, 20, 21, 22, 23, 24, 25, 26, 27, 28, 29, 30, 31, 32, 33, 34, 35, 36, 37, 38, 39, 40, 41, 42, 43, 44, 45, 46, 47, 48, 49, 182, 183, 184, 185, 186, 187, 188, 189, 190, 191, 192, 193, 194, 195, 196, 197, 198, 199, 200, 201, 202, 203, 204, 205, 206, 207, 208, 209, 210, 211, 212, 213] rfl (by decide +kernel)) (goodIn_sub (fun _ h => List.mem_cons_of_mem _ (List.mem_append_left _ (List.mem_append_left _ (List.mem_append_right _ h)))) (by decide +kernel))
set_option maxRecDepth 20000 in
theorem gL_fill_X8_setQuay : GoodIn wsL_fill (wsV RL 19 RX8 yX8_setQuay wsX8_setQuay) := goodIn_app (goodIn_of _ (by decide +kernel)) ggL_fill_X8_setQuay
theorem dL_fill_17 : decode cL_fill 17 = .ok (.pop, 1) := by decide +kernel
theorem dL_fill_18 : decode cL_fill 18 = .ok (.aload_n 0, 1) := by decide +kernel
theorem dL_fill_19 : decode cL_fill 19 = .ok (.iconst 3, 1) := by decide +kernel
theorem dL_fill_20 : decode cL_fill 20 = .ok (.aload_n 1, 1) := by decide +kernel
theorem dL_fill_21 : decode cL_fill 21 = .ok (.iconst 0, 1) := by decide +kernel
theorem dL_fill_22 : decode cL_fill 22 = .ok (.invokestatic 9, 3) := by decide +kernel
theorem dL_fill_25 : decode cL_fill 25 = .ok (.iconst 5, 1) := by decide +kernel
theorem dL_fill_26 : decode cL_fill 26 = .ok (.ishr, 1) := by decide +kernel
theorem dL_fill_27 : decode cL_fill 27 = .ok (.iconst 4, 1) := by decide +kernel
theorem dL_fill_28 : decode cL_fill 28 = .ok (.invokestatic 15, 3) := by decide +kernel
theorem dL_fill_31 : decode cL_fill 31 = .ok (.iadd, 1) := by decide +kernel
theorem dL_fill_32 : decode cL_fill 32 = .ok (.invokevirtual 25, 3) := by decide +kernel
set_option maxRecDepth 20000 in
theorem ggL_fill_X8_setCranes : GoodIn wsL_fill wsX8_setCranes := goodIn_ca (goodIn_r _ [53, 54, 17, 18, 14, 19, 20, 21, 22, 23, 24, 25, 26, 27, 28, 29, 30, 31, 32, 33, 34, 35, 36, 37, 38, 39, 40, 41, 42, 43, 44, 45, 46, 47, 48, 49, 182, 183, 184, 185, 186, 187, 188, 189, 190, 191, 192, 193, 194, 195, 196, 197, 198, 199, 200, 201, 202, 203, 204, 205, 206, 207, 208, 209, 210, 211, 212, 213] rfl (by decide +kernel)) (goodIn_sub (fun _ h => List.mem_cons_of_mem _ (List.mem_append_left _ (List.mem_append_left _ (List.mem_append_right _ h)))) (by decide +kernel))
set_option maxRecDepth 20000 in
theorem gL_fill_X8_setCranes : GoodIn wsL_fill (wsV RL 25 RX8 yX8_setCranes wsX8_setCranes) := goodIn_app (goodIn_of _ (by decide +kernel)) ggL_fill_X8_setCranes
theorem dL_fill_35 : decode cL_fill 35 = .ok (.pop, 1) := by decide +kernel
theorem dL_fill_36 : decode cL_fill 36 = .ok (.iload_n 2, 1) := by decide +kernel
theorem dL_fill_37 : decode cL_fill 37 = .ok (.newarray .int, 2) := by decide +kernel
theorem dL_fill_39 : decode cL_fill 39 = .ok (.astore 4, 2) := by decide +kernel
theorem dL_fill_41 : decode cL_fill 41 = .ok (.iconst 0, 1) := by decide +kernel
theorem dL_fill_42 : decode cL_fill 42 = .ok (.istore 5, 2) := by decide +kernel
theorem dL_fill_44 : decode cL_fill 44 = .ok (.iload 5, 2) := by decide +kernel
theorem dL_fill_46 : decode cL_fill 46 = .ok (.iload_n 2, 1) := by decide +kernel
theorem dL_fill_47 : decode cL_fill 47 = .ok (.if_icmp .ge 75, 3) := by decide +kernel
theorem dL_fill_122 : decode cL_fill 122 = .ok (.iconst 0, 1) := by decide +kernel
theorem dL_fill_123 : decode cL_fill 123 = .ok (.istore 5, 2) := by decide +kernel
theorem dL_fill_125 : decode cL_fill 125 = .ok (.iload 5, 2) := by decide +kernel
theorem dL_fill_127 : decode cL_fill 127 = .ok (.iload_n 3, 1) := by decide +kernel
theorem dL_fill_128 : decode cL_fill 128 = .ok (.if_icmp .ge 94, 3) := by decide +kernel
theorem dL_fill_222 : decode cL_fill 222 = .ok (.aload_n 1, 1) := by decide +kernel
theorem dL_fill_223 : decode cL_fill 223 = .ok (.bipush 14, 2) := by decide +kernel
theorem dL_fill_225 : decode cL_fill 225 = .ok (.invokestatic 9, 3) := by decide +kernel
theorem dL_fill_228 : decode cL_fill 228 = .ok (.iconst 4, 1) := by decide +kernel
theorem dL_fill_229 : decode cL_fill 229 = .ok (.invokestatic 15, 3) := by decide +kernel
theorem dL_fill_232 : decode cL_fill 232 = .ok (.istore 5, 2) := by decide +kernel
theorem dL_fill_234 : decode cL_fill 234 = .ok (.iload 5, 2) := by decide +kernel
theorem dL_fill_236 : decode cL_fill 236 = .ok (.ifCond .lt 31, 3) := by decide +kernel
theorem dL_fill_267 : decode cL_fill 267 = .ok (.iconst 0, 1) := by decide +kernel
theorem dL_fill_268 : decode cL_fill 268 = .ok (.istore 5, 2) := by decide +kernel
theorem dL_fill_270 : decode cL_fill 270 = .ok (.iload 5, 2) := by decide +kernel
theorem dL_fill_272 : decode cL_fill 272 = .ok (.bipush 16, 2) := by decide +kernel
theorem dL_fill_274 : decode cL_fill 274 = .ok (.if_icmp .ge 47, 3) := by decide +kernel
theorem dL_fill_321 : decode cL_fill 321 = .ok (.return_, 1) := by decide +kernel
theorem dL_fill_277 : decode cL_fill 277 = .ok (.aload_n 1, 1) := by decide +kernel
theorem dL_fill_278 : decode cL_fill 278 = .ok (.bipush 15, 2) := by decide +kernel
theorem dL_fill_280 : decode cL_fill 280 = .ok (.invokestatic 9, 3) := by decide +kernel
theorem dL_fill_283 : decode cL_fill 283 = .ok (.iload 5, 2) := by decide +kernel
theorem dL_fill_285 : decode cL_fill 285 = .ok (.ishr, 1) := by decide +kernel
theorem dL_fill_286 : decode cL_fill 286 = .ok (.iconst 3, 1) := by decide +kernel
theorem dL_fill_287 : decode cL_fill 287 = .ok (.invokestatic 15, 3) := by decide +kernel
theorem dL_fill_290 : decode cL_fill 290 = .ok (.ifCond .ne 25, 3) := by decide +kernel
theorem dL_fill_315 : decode cL_fill 315 = .ok (.iinc 5 1, 3) := by decide +kernel
theorem dL_fill_318 : decode cL_fill 318 = .ok (.goto (-48), 3) := by decide +kernel
theorem dL_fill_293 : decode cL_fill 293 = .ok (.aload_n 0, 1) := by decide +kernel
theorem dL_fill_294 : decode cL_fill 294 = .ok (.iload 5, 2) := by decide +kernel
theorem dL_fill_296 : decode cL_fill 296 = .ok (.aload_n 1, 1) := by decide +kernel
theorem dL_fill_297 : decode cL_fill 297 = .ok (.bipush 15, 2) := by decide +kernel
theorem dL_fill_299 : decode cL_fill 299 = .ok (.invokestatic 9, 3) := by decide +kernel
theorem dL_fill_302 : decode cL_fill 302 = .ok (.iload 5, 2) := by decide +kernel
theorem dL_fill_304 : decode cL_fill 304 = .ok (.iconst 2, 1) := by decide +kernel
theorem dL_fill_305 : decode cL_fill 305 = .ok (.iadd, 1) := by decide +kernel
theorem dL_fill_306 : decode cL_fill 306 = .ok (.ishr, 1) := by decide +kernel
theorem dL_fill_307 : decode cL_fill 307 = .ok (.iconst 4, 1) := by decide +kernel
theorem dL_fill_308 : decode cL_fill 308 = .ok (.invokestatic 15, 3) := by decide +kernel
theorem dL_fill_311 : decode cL_fill 311 = .ok (.invokevirtual 39, 3) := by decide +kernel
set_option maxRecDepth 20000 in
theorem ggL_fill_X8_setRoom : GoodIn wsL_fill wsX8_setRoom := goodIn_ca (goodIn_ca (goodIn_r _ [177, 178, 179, 180, 14, 181, 162, 163, 17, 18, 19, 20, 21, 28, 29, 30, 31, 32, 33, 34, 35, 36, 37, 38, 39, 40, 41, 42, 43, 44, 45, 46, 47, 48, 49, 182, 183, 184, 185, 186, 187, 188, 189, 190, 191, 192, 193, 194, 195, 196, 201, 202, 203, 204, 205, 206, 207, 208, 209, 210, 211, 212, 213] rfl (by decide +kernel)) (goodIn_sub (fun _ h => List.mem_cons_of_mem _ (List.mem_append_right _ h)) (by decide +kernel))) (goodIn_sub (fun _ h => List.mem_cons_of_mem _ (List.mem_append_left _ (List.mem_append_left _ (List.mem_append_right _ h)))) (by decide +kernel))
set_option maxRecDepth 20000 in
theorem gL_fill_X8_setRoom : GoodIn wsL_fill (wsV RL 39 RX8 yX8_setRoom wsX8_setRoom) := goodIn_app (goodIn_of _ (by decide +kernel)) ggL_fill_X8_setRoom
theorem dL_fill_314 : decode cL_fill 314 = .ok (.pop, 1) := by decide +kernel
theorem dL_fill_239 : decode cL_fill 239 = .ok (.aload_n 0, 1) := by decide +kernel
theorem dL_fill_240 : decode cL_fill 240 = .ok (.iconst 1, 1) := by decide +kernel
theorem dL_fill_241 : decode cL_fill 241 = .ok (.aload_n 1, 1) := by decide +kernel
theorem dL_fill_242 : decode cL_fill 242 = .ok (.bipush 14, 2) := by decide +kernel
theorem dL_fill_244 : decode cL_fill 244 = .ok (.invokestatic 9, 3) := by decide +kernel
theorem dL_fill_247 : decode cL_fill 247 = .ok (.iconst 2, 1) := by decide +kernel
theorem dL_fill_248 : decode cL_fill 248 = .ok (.iload 5, 2) := by decide +kernel
theorem dL_fill_250 : decode cL_fill 250 = .ok (.imul, 1) := by decide +kernel
theorem dL_fill_251 : decode cL_fill 251 = .ok (.ishr, 1) := by decide +kernel
theorem dL_fill_252 : decode cL_fill 252 = .ok (.iconst 4, 1) := by decide +kernel
theorem dL_fill_253 : decode cL_fill 253 = .ok (.invokestatic 15, 3) := by decide +kernel
theorem dL_fill_256 : decode cL_fill 256 = .ok (.iadd, 1) := by decide +kernel
theorem dL_fill_257 : decode cL_fill 257 = .ok (.invokevirtual 36, 3) := by decide +kernel
set_option maxRecDepth 20000 in
theorem ggL_fill_X8_addStack : GoodIn wsL_fill wsX8_addStack := goodIn_ca (goodIn_ca (goodIn_r _ [171, 59, 60, 35, 172, 173, 17, 18, 14, 19, 20, 21, 36, 37, 38, 39, 40, 41, 42, 43, 44, 45, 46, 47, 48, 49, 182, 183, 184, 185, 186, 187, 188, 189, 190, 191, 192, 193, 194, 195, 196, 203, 204, 205, 206, 207, 208, 209, 210, 211, 212, 213] rfl (by decide +kernel)) (goodIn_sub (fun _ h => List.mem_cons_of_mem _ (List.mem_append_left _ (List.mem_append_right _ h))) (by decide +kernel))) (goodIn_sub (fun _ h => List.mem_cons_of_mem _ (List.mem_append_left _ (List.mem_append_left _ (List.mem_append_right _ h)))) (by decide +kernel))
set_option maxRecDepth 20000 in
theorem gL_fill_X8_addStack : GoodIn wsL_fill (wsV RL 36 RX8 yX8_addStack wsX8_addStack) := goodIn_app (goodIn_of _ (by decide +kernel)) ggL_fill_X8_addStack
theorem dL_fill_260 : decode cL_fill 260 = .ok (.pop, 1) := by decide +kernel
theorem dL_fill_261 : decode cL_fill 261 = .ok (.iinc 5 (-1), 3) := by decide +kernel
theorem dL_fill_264 : decode cL_fill 264 = .ok (.goto (-30), 3) := by decide +kernel
theorem dL_fill_131 : decode cL_fill 131 = .ok (.aload_n 1, 1) := by decide +kernel
theorem dL_fill_132 : decode cL_fill 132 = .ok (.iconst 5, 1) := by decide +kernel
theorem dL_fill_133 : decode cL_fill 133 = .ok (.iload 5, 2) := by decide +kernel
theorem dL_fill_135 : decode cL_fill 135 = .ok (.bipush 9, 2) := by decide +kernel
theorem dL_fill_137 : decode cL_fill 137 = .ok (.irem, 1) := by decide +kernel
theorem dL_fill_138 : decode cL_fill 138 = .ok (.iadd, 1) := by decide +kernel
theorem dL_fill_139 : decode cL_fill 139 = .ok (.invokestatic 9, 3) := by decide +kernel
theorem dL_fill_142 : decode cL_fill 142 = .ok (.iload 5, 2) := by decide +kernel
theorem dL_fill_144 : decode cL_fill 144 = .ok (.bipush 9, 2) := by decide +kernel
theorem dL_fill_146 : decode cL_fill 146 = .ok (.idiv, 1) := by decide +kernel
theorem dL_fill_147 : decode cL_fill 147 = .ok (.bipush 7, 2) := by decide +kernel
theorem dL_fill_149 : decode cL_fill 149 = .ok (.imul, 1) := by decide +kernel
theorem dL_fill_150 : decode cL_fill 150 = .ok (.ishr, 1) := by decide +kernel
theorem dL_fill_151 : decode cL_fill 151 = .ok (.istore 6, 2) := by decide +kernel
theorem dL_fill_153 : decode cL_fill 153 = .ok (.iload 6, 2) := by decide +kernel
theorem dL_fill_155 : decode cL_fill 155 = .ok (.iload_n 2, 1) := by decide +kernel
theorem dL_fill_156 : decode cL_fill 156 = .ok (.invokestatic 15, 3) := by decide +kernel
theorem dL_fill_159 : decode cL_fill 159 = .ok (.istore 7, 2) := by decide +kernel
theorem dL_fill_161 : decode cL_fill 161 = .ok (.aload_n 0, 1) := by decide +kernel
theorem dL_fill_162 : decode cL_fill 162 = .ok (.iload 7, 2) := by decide +kernel
theorem dL_fill_164 : decode cL_fill 164 = .ok (.iload 6, 2) := by decide +kernel
theorem dL_fill_166 : decode cL_fill 166 = .ok (.iconst 2, 1) := by decide +kernel
theorem dL_fill_167 : decode cL_fill 167 = .ok (.ishr, 1) := by decide +kernel
theorem dL_fill_168 : decode cL_fill 168 = .ok (.aload 4, 2) := by decide +kernel
theorem dL_fill_170 : decode cL_fill 170 = .ok (.iload 7, 2) := by decide +kernel
theorem dL_fill_172 : decode cL_fill 172 = .ok (.iaload, 1) := by decide +kernel
theorem dL_fill_173 : decode cL_fill 173 = .ok (.invokestatic 15, 3) := by decide +kernel
theorem dL_fill_176 : decode cL_fill 176 = .ok (.iload 6, 2) := by decide +kernel
theorem dL_fill_178 : decode cL_fill 178 = .ok (.iconst 5, 1) := by decide +kernel
theorem dL_fill_179 : decode cL_fill 179 = .ok (.ishr, 1) := by decide +kernel
theorem dL_fill_180 : decode cL_fill 180 = .ok (.iconst 2, 1) := by decide +kernel
theorem dL_fill_181 : decode cL_fill 181 = .ok (.invokestatic 15, 3) := by decide +kernel
theorem dL_fill_184 : decode cL_fill 184 = .ok (.ifCond .ne 7, 3) := by decide +kernel
theorem dL_fill_191 : decode cL_fill 191 = .ok (.iconst 0, 1) := by decide +kernel
theorem dL_fill_192 : decode cL_fill 192 = .ok (.iconst 1, 1) := by decide +kernel
theorem dL_fill_193 : decode cL_fill 193 = .ok (.iload 6, 2) := by decide +kernel
theorem dL_fill_195 : decode cL_fill 195 = .ok (.iconst 4, 1) := by decide +kernel
theorem dL_fill_196 : decode cL_fill 196 = .ok (.ishr, 1) := by decide +kernel
theorem dL_fill_197 : decode cL_fill 197 = .ok (.bipush 40, 2) := by decide +kernel
theorem dL_fill_199 : decode cL_fill 199 = .ok (.invokestatic 15, 3) := by decide +kernel
theorem dL_fill_202 : decode cL_fill 202 = .ok (.iadd, 1) := by decide +kernel
theorem dL_fill_203 : decode cL_fill 203 = .ok (.iload 6, 2) := by decide +kernel
theorem dL_fill_205 : decode cL_fill 205 = .ok (.iconst 3, 1) := by decide +kernel
theorem dL_fill_206 : decode cL_fill 206 = .ok (.ishr, 1) := by decide +kernel
theorem dL_fill_207 : decode cL_fill 207 = .ok (.bipush 12, 2) := by decide +kernel
theorem dL_fill_209 : decode cL_fill 209 = .ok (.invokestatic 15, 3) := by decide +kernel
theorem dL_fill_212 : decode cL_fill 212 = .ok (.invokevirtual 32, 3) := by decide +kernel
set_option maxRecDepth 20000 in
theorem ggL_fill_X8_addContainer : GoodIn wsL_fill wsX8_addContainer := goodIn_ca (goodIn_ca (goodIn_ca (goodIn_r _ [149, 59, 60, 150, 151, 152, 153, 154, 155, 156, 62, 157, 67, 158, 159, 160, 14, 161, 162, 163, 64, 164, 165, 166, 167, 61, 17, 18, 19, 20, 21, 68, 69, 70, 71, 72, 73, 74, 75, 76, 77, 78, 79, 80, 81, 82, 83, 84, 85, 86, 87, 88, 89, 90, 91, 92, 93, 94, 95, 96, 97, 98, 99, 100, 101, 102, 103, 104, 105, 106, 107, 108, 109, 110, 111, 112, 113, 114, 115, 116, 117, 118, 119, 120, 121, 122, 123, 124, 125, 126, 127, 128, 129, 130, 131, 132, 133, 134, 135, 136, 137, 138, 139, 140, 141, 142, 143, 144, 145, 22, 23, 24, 25, 26, 27, 28, 29, 30, 31, 32, 33, 34, 35, 36, 37, 38, 39, 40, 41, 42, 43, 44, 45, 46, 47, 48, 49, 182, 183, 184, 185, 186, 187, 188, 189, 190, 191, 192, 193, 194, 195, 196, 229, 230, 231, 232, 233, 234, 214, 215, 216, 217, 218, 219, 220, 221, 222, 223, 224, 225, 226, 227, 228, 197, 198, 199, 200, 201, 202, 203, 204, 205, 206, 207, 208, 209, 210, 211, 212, 213] rfl (by decide +kernel)) (goodIn_sub (fun _ h => List.mem_cons_of_mem _ (List.mem_append_left _ (List.mem_append_right _ h))) (by decide +kernel))) (goodIn_sub (fun _ h => List.mem_cons_of_mem _ (List.mem_append_right _ h)) (by decide +kernel))) (goodIn_sub (fun _ h => List.mem_cons_of_mem _ (List.mem_append_left _ (List.mem_append_left _ (List.mem_append_right _ h)))) (by decide +kernel))
set_option maxRecDepth 20000 in
theorem gL_fill_X8_addContainer : GoodIn wsL_fill (wsV RL 32 RX8 yX8_addContainer wsX8_addContainer) := goodIn_app (goodIn_of _ (by decide +kernel)) ggL_fill_X8_addContainer
theorem dL_fill_215 : decode cL_fill 215 = .ok (.pop, 1) := by decide +kernel
theorem dL_fill_216 : decode cL_fill 216 = .ok (.iinc 5 1, 3) := by decide +kernel
theorem dL_fill_219 : decode cL_fill 219 = .ok (.goto (-94), 3) := by decide +kernel
theorem dL_fill_187 : decode cL_fill 187 = .ok (.iconst 1, 1) := by decide +kernel
theorem dL_fill_188 : decode cL_fill 188 = .ok (.goto 4, 3) := by decide +kernel
theorem dL_fill_50 : decode cL_fill 50 = .ok (.aload_n 1, 1) := by decide +kernel
theorem dL_fill_51 : decode cL_fill 51 = .ok (.iconst 1, 1) := by decide +kernel
theorem dL_fill_52 : decode cL_fill 52 = .ok (.iload 5, 2) := by decide +kernel
theorem dL_fill_54 : decode cL_fill 54 = .ok (.iadd, 1) := by decide +kernel
theorem dL_fill_55 : decode cL_fill 55 = .ok (.invokestatic 9, 3) := by decide +kernel
theorem dL_fill_58 : decode cL_fill 58 = .ok (.istore 6, 2) := by decide +kernel
theorem dL_fill_60 : decode cL_fill 60 = .ok (.aload 4, 2) := by decide +kernel
theorem dL_fill_62 : decode cL_fill 62 = .ok (.iload 5, 2) := by decide +kernel
theorem dL_fill_64 : decode cL_fill 64 = .ok (.iconst 1, 1) := by decide +kernel
theorem dL_fill_65 : decode cL_fill 65 = .ok (.iload 6, 2) := by decide +kernel
theorem dL_fill_67 : decode cL_fill 67 = .ok (.iconst 5, 1) := by decide +kernel
theorem dL_fill_68 : decode cL_fill 68 = .ok (.ishr, 1) := by decide +kernel
theorem dL_fill_69 : decode cL_fill 69 = .ok (.bipush 6, 2) := by decide +kernel
theorem dL_fill_71 : decode cL_fill 71 = .ok (.invokestatic 15, 3) := by decide +kernel
theorem dL_fill_74 : decode cL_fill 74 = .ok (.iadd, 1) := by decide +kernel
theorem dL_fill_75 : decode cL_fill 75 = .ok (.iastore, 1) := by decide +kernel
theorem dL_fill_76 : decode cL_fill 76 = .ok (.aload_n 0, 1) := by decide +kernel
theorem dL_fill_77 : decode cL_fill 77 = .ok (.iload 6, 2) := by decide +kernel
theorem dL_fill_79 : decode cL_fill 79 = .ok (.bipush 60, 2) := by decide +kernel
theorem dL_fill_81 : decode cL_fill 81 = .ok (.invokestatic 15, 3) := by decide +kernel
theorem dL_fill_84 : decode cL_fill 84 = .ok (.aload 4, 2) := by decide +kernel
theorem dL_fill_86 : decode cL_fill 86 = .ok (.iload 5, 2) := by decide +kernel
theorem dL_fill_88 : decode cL_fill 88 = .ok (.iaload, 1) := by decide +kernel
theorem dL_fill_89 : decode cL_fill 89 = .ok (.iconst 1, 1) := by decide +kernel
theorem dL_fill_90 : decode cL_fill 90 = .ok (.iload 6, 2) := by decide +kernel
theorem dL_fill_92 : decode cL_fill 92 = .ok (.bipush 8, 2) := by decide +kernel
theorem dL_fill_94 : decode cL_fill 94 = .ok (.ishr, 1) := by decide +kernel
theorem dL_fill_95 : decode cL_fill 95 = .ok (.bipush 9, 2) := by decide +kernel
theorem dL_fill_97 : decode cL_fill 97 = .ok (.invokestatic 15, 3) := by decide +kernel
theorem dL_fill_100 : decode cL_fill 100 = .ok (.iadd, 1) := by decide +kernel
theorem dL_fill_101 : decode cL_fill 101 = .ok (.iconst 1, 1) := by decide +kernel
theorem dL_fill_102 : decode cL_fill 102 = .ok (.iload 6, 2) := by decide +kernel
theorem dL_fill_104 : decode cL_fill 104 = .ok (.bipush 11, 2) := by decide +kernel
theorem dL_fill_106 : decode cL_fill 106 = .ok (.ishr, 1) := by decide +kernel
theorem dL_fill_107 : decode cL_fill 107 = .ok (.iconst 3, 1) := by decide +kernel
theorem dL_fill_108 : decode cL_fill 108 = .ok (.invokestatic 15, 3) := by decide +kernel
theorem dL_fill_111 : decode cL_fill 111 = .ok (.iadd, 1) := by decide +kernel
theorem dL_fill_112 : decode cL_fill 112 = .ok (.invokevirtual 28, 3) := by decide +kernel
set_option maxRecDepth 20000 in
theorem ggL_fill_X8_addVessel : GoodIn wsL_fill wsX8_addVessel := goodIn_ca (goodIn_ca (goodIn_r _ [58, 59, 60, 61, 62, 63, 64, 65, 66, 67, 17, 18, 14, 19, 20, 21, 68, 69, 70, 71, 72, 73, 74, 75, 76, 77, 78, 79, 80, 81, 82, 83, 84, 85, 86, 87, 88, 89, 90, 91, 92, 93, 94, 95, 96, 97, 98, 99, 100, 101, 102, 103, 104, 105, 106, 107, 108, 109, 110, 111, 112, 113, 114, 115, 116, 117, 118, 119, 120, 121, 122, 123, 124, 125, 126, 127, 128, 129, 130, 131, 132, 133, 134, 135, 136, 137, 138, 139, 140, 141, 142, 143, 144, 145, 22, 23, 24, 25, 26, 27, 28, 29, 30, 31, 32, 33, 34, 35, 36, 37, 38, 39, 40, 41, 42, 43, 44, 45, 46, 47, 48, 49, 182, 183, 184, 185, 186, 187, 188, 189, 190, 191, 192, 193, 194, 195, 196, 214, 215, 216, 217, 218, 219, 220, 221, 222, 223, 224, 225, 226, 227, 228, 197, 198, 199, 200, 201, 202, 203, 204, 205, 206, 207, 208, 209, 210, 211, 212, 213] rfl (by decide +kernel)) (goodIn_sub (fun _ h => List.mem_cons_of_mem _ (List.mem_append_left _ (List.mem_append_right _ h))) (by decide +kernel))) (goodIn_sub (fun _ h => List.mem_cons_of_mem _ (List.mem_append_left _ (List.mem_append_left _ (List.mem_append_right _ h)))) (by decide +kernel))
set_option maxRecDepth 20000 in
theorem gL_fill_X8_addVessel : GoodIn wsL_fill (wsV RL 28 RX8 yX8_addVessel wsX8_addVessel) := goodIn_app (goodIn_of _ (by decide +kernel)) ggL_fill_X8_addVessel
theorem dL_fill_115 : decode cL_fill 115 = .ok (.pop, 1) := by decide +kernel
theorem dL_fill_116 : decode cL_fill 116 = .ok (.iinc 5 1, 3) := by decide +kernel
theorem dL_fill_119 : decode cL_fill 119 = .ok (.goto (-75), 3) := by decide +kernel
set_option maxHeartbeats 4000000 in
set_option maxRecDepth 100000 in
theorem l_fill (l : Launch) (g : xG) (sz : Nat) (ad : Nat → Nat) (ga : Nat → Nat → Nat) (mk : Value) (hs : Value) (aV : xV_) (aC : xC_) (aP : xP_) (aG : xG_) (aY : xY_) (aN : (Nat → Nat)) (aW : xW_) (aK : xK_) (aS : xS_) (aT : xT_) (sb : Nat) (Ls : Nat) (xs : Nat → Int32) (q0 : Nat) (c0 : Nat) (nv : Nat) (nc : Nat)  (hL : Ls ≤ 260) (hnv : 1 ≤ nv ∧ nv ≤ 4) (hnc : nc ≤ 19) (hInv : xInv aV aC aP aG aY aN aW aK aS aT) (hn0 : o_n aC = 0) (hs0 : o_sc aY = 0) (hwb0 : ∀ x y, o_wbz aV x y ≤ 0) : Met l yL_fill wsL_fill ({ frames := 7, cells := 1, slots := 4, locals := 161 }) (va_Pc [.ref (ad 0), .ref sb, .int (nI nv), .int (nI nc)] (fun U => xB g (SW g ad ga mk hs (q0, c0, 0) aV aC aP aG aY aN aW aK aS aT) sz U ∧ xS sb Ls xs (va_A (SW g ad ga mk hs (q0, c0, 0) aV aC aP aG aY aN aW aK aS aT) sz) U)) (va_Qv (fun (_ : Unit) => True) (fun (_ : Unit) (t : State) => ∃ (aQ2 : xQ_) (aV2 : xV_) (aC2 : xC_) (aG2 : xG_) (aY2 : xY_) (aW2 : xW_), (xInv aV2 aC2 aP aG2 aY2 aN aW2 aK aS aT ∧ lFill nv nc aQ2 aV2 aC2 aY2) ∧ xE g (SW g ad ga (.int 0) (.int 0) aQ2 aV2 aC2 aP aG2 aY2 aN aW2 aK aS aT) (va_A (SW g ad ga mk hs (q0, c0, 0) aV aC aP aG aY aN aW aK aS aT) sz) t) (va_A (SW g ad ga mk hs (q0, c0, 0) aV aC aP aG aY aN aW aK aS aT) sz)) 1 4 (va_A (SW g ad ga mk hs (q0, c0, 0) aV aC aP aG aY aN aW aK aS aT) sz) := by
  refine Met.ofW (cc := cL_fill) (maxL := 8) (ret := none) (by decide) rfl ?_
  intro p e s m args below meth c s₁ B hml hv
  obtain ⟨rfl, ⟨hsz, hP, hK, hD0⟩, hX⟩ := hv
  have hx := B.exec
  have hb := B.bytes
  have hr := B.returns
  have hts := atoms_spec (ws := wsL_fill) B.pre
  have hown : s.vm.findClass RL = some m.cls := findClass_of_methodNamed B.named
  have hlocks := B.notSynchronized
  subst hsz
  have hD := hD0.self (sz := s.heap.size)
  generalize hAe : va_A (SW g ad ga mk hs (q0, c0, 0) aV aC aP aG aY aN aW aK aS aT) s.heap.size = A at hD hX ⊢
  have hA : ∀ q : Nat, s.heap.size ≤ q → A q := fun q h => by rw [← hAe]; exact Or.inr h
  have hS : va_S A s.heap s.heap [] := va_S.rf
  have hl := lv_entry ([.ref (ad 0), .ref sb, .int (nI nv), .int (nI nc)]) (n := 8) (Nat.le_of_ble_eq_true rfl)
  rw [lg_entry_eq]
  generalize (lg_sl ([.ref (ad 0), .ref sb, .int (nI nv), .int (nI nc)]) ++ List.replicate (8 - (lg_sl ([.ref (ad 0), .ref sb, .int (nI nv), .int (nI nc)])).length) Slot.unset).toArray = ls at hl ⊢
  have hl : lv_has ls 8 [(0, .ref (ad 0)), (1, .ref sb), (2, .int (nI nv)), (3, .int (nI nc))] := hl
  refine lv_aload_n hx hb dL_fill_0 rfl (lv_at hl 0 rfl) ?_
  refine lv_bipush (v := 12) hx hb dL_fill_1 (by decide) ?_
  refine lv_aload_n hx hb dL_fill_3 rfl (lv_at hl 1 rfl) ?_
  refine lv_iconst (v := 0) hx hb dL_fill_4 (by decide) ?_
  have hPc := hP.sub (ws' := []) [] rfl
  have hDc := hD.sub (ws' := []) [] (by decide) rfl
  have hFc := xFree hS hA
  refine va_calli (va_runS (As := [.ref sb, .int 0]) (rest := [.int 12, .ref (ad 0)]) ⟨hx, hb, hml, hown, hts⟩ (l_cell l g s.heap.size sb Ls xs 0 (by first | assumption | omega) (by first | assumption | omega)) (va_cwS 2 hts gL_fill_L_cell rfl rfl rfl (by decide +kernel) ⟨Nat.le_of_ble_eq_true rfl, Nat.le_of_ble_eq_true rfl⟩) ⟨xBS.blind, fun U9 hU9 hW9 => ⟨rfl, xB.mk hPc hK hDc hU9 hW9, hX.call hS hFc hU9 hW9⟩⟩ rfl rfl hl.1 rfl (lv_room (Nat.le_of_ble_eq_true rfl)) dL_fill_5 ⟨Nat.le_of_ble_eq_true rfl, Nat.le_of_ble_eq_true rfl⟩) hS (fun q _ h => hFc q h) hFc (fun r_1 _ t H1 locs ht hvm hw_2 hB hz1 hk1 hS => ?_)
  have hP := xSame hP hk1
  generalize H1 = H at hP hS ⊢
  have hP : va_P (xD g) vwCl (SW g ad ga mk hs (q0, c0, 0) aV aC aP aG aY aN aW aK aS aT) H := hP
  have hD : va_D A (SW g ad ga mk hs (q0, c0, 0) aV aC aP aG aY aN aW aK aS aT) := hD
  try dsimp only at hw_2
  refine lv_bipush (v := 14) hx hb dL_fill_8 (by decide) ?_
  have hPc := hP.sub (ws' := []) [] rfl
  have hDc := hD.sub (ws' := []) [] (by decide) rfl
  have hFc := xFree hS hA
  refine va_calli (va_runS (As := [.int r_1, .int 14]) (rest := [.int 12, .ref (ad 0)]) ⟨hx, hb, hml, hown, hts⟩ (l_below l g H.size r_1 14 (by first | assumption | omega) (by first | assumption | omega)) (va_cwS 2 hts gL_fill_L_below rfl rfl rfl (by decide +kernel) ⟨Nat.le_of_ble_eq_true rfl, Nat.le_of_ble_eq_true rfl⟩) ⟨xB.blind, fun U9 hU9 hW9 => ⟨rfl, xB.mk hPc hK hDc hU9 hW9⟩⟩ rfl rfl hl.1 rfl (lv_room (Nat.le_of_ble_eq_true rfl)) dL_fill_10 ⟨Nat.le_of_ble_eq_true rfl, Nat.le_of_ble_eq_true rfl⟩) hS (fun q _ h => hFc q h) hFc (fun r_3 _ t H1 locs ht hvm hw_4 hB hz1 hk1 hS => ?_)
  have hP := xSame hP hk1
  generalize H1 = H at hP hS ⊢
  have hP : va_P (xD g) vwCl (SW g ad ga mk hs (q0, c0, 0) aV aC aP aG aY aN aW aK aS aT) H := hP
  have hD : va_D A (SW g ad ga mk hs (q0, c0, 0) aV aC aP aG aY aN aW aK aS aT) := hD
  try dsimp only at hw_4
  obtain ⟨k_5, hk_5, rfl⟩ := hw_4
  refine lv_iadd hx hb dL_fill_13 ?_
  refine lv_topi (fun v_6 ev => ?_)
  obtain rfl : v_6 = nI (12 + k_5) := ev.trans (nI_add 12 k_5)
  have hPc := hP
  have hDc := hD
  have hFc := xFa hD hS hA
  refine va_calli (va_runV (As := [.int (nI (12 + k_5))]) (rest := []) ⟨hx, hb, hml, hown, hts⟩ (L_setQuay l g H.size ad ga mk hs (q0, c0, 0) aV aC aP aG aY aN aW aK aS aT (12 + k_5) (show xInv aV aC aP aG aY aN aW aK aS aT from by first | assumption | omega) (show 4 ≤ (12 + k_5) ∧ (12 + k_5) ≤ 60 from by first | assumption | omega)) (cwV 1 hts gL_fill_X8_setQuay rfl rfl rfl (by decide +kernel) ⟨Nat.le_of_ble_eq_true rfl, Nat.le_of_ble_eq_true rfl⟩) ⟨xB.blind, va_recv hK hPc (ci := 8) (q0 := 0) rfl rfl, fun U9 hU9 hW9 => ⟨rfl, xB.mk hPc hK hDc hU9 hW9⟩⟩ rfl rfl hl.1 rfl (lv_room (Nat.le_of_ble_eq_true rfl)) dL_fill_14 ⟨Nat.le_of_ble_eq_true rfl, Nat.le_of_ble_eq_true rfl⟩) hS (fun q _ h => hFc q h) hFc (fun r_7 _ t H1 locs ht hvm hw_8 hB hz1 hk1 hS => ?_)
  obtain ⟨aG2_9, aY2_10, hc_11, hP1, hK1, hD1⟩ := hB
  rw [ht] at hP1
  have hInv : xInv aV aC aP aG2_9 aY2_10 aN aW aK aS aT := hc_11.1
  have hrel : o_sc aY2_10 = o_sc aY := hc_11.2
  obtain ⟨hP, hD⟩ := xJa hD hk1 hFc hP1 hD1
  generalize H1 = H at hP hS ⊢
  have hP : va_P (xD g) vwCl (SW g ad ga (.int 0) (.int 0) ((12 + k_5), c0, 0) aV aC aP aG2_9 aY2_10 aN aW aK aS aT) H := hP
  have hD : va_D A (SW g ad ga (.int 0) (.int 0) ((12 + k_5), c0, 0) aV aC aP aG2_9 aY2_10 aN aW aK aS aT) := hD
  try dsimp only at hw_8
  refine lv_pop hx hb dL_fill_17 rfl ?_
  refine lv_aload_n hx hb dL_fill_18 rfl (lv_at hl 0 rfl) ?_
  refine lv_iconst (v := 3) hx hb dL_fill_19 (by decide) ?_
  refine lv_aload_n hx hb dL_fill_20 rfl (lv_at hl 1 rfl) ?_
  refine lv_iconst (v := 0) hx hb dL_fill_21 (by decide) ?_
  have hPc := hP.sub (ws' := []) [] rfl
  have hDc := hD.sub (ws' := []) [] (by decide) rfl
  have hFc := xFree hS hA
  refine va_calli (va_runS (As := [.ref sb, .int 0]) (rest := [.int 3, .ref (ad 0)]) ⟨hx, hb, hml, hown, hts⟩ (l_cell l g H.size sb Ls xs 0 (by first | assumption | omega) (by first | assumption | omega)) (va_cwS 2 hts gL_fill_L_cell rfl rfl rfl (by decide +kernel) ⟨Nat.le_of_ble_eq_true rfl, Nat.le_of_ble_eq_true rfl⟩) ⟨xBS.blind, fun U9 hU9 hW9 => ⟨rfl, xB.mk hPc hK hDc hU9 hW9, hX.call hS hFc hU9 hW9⟩⟩ rfl rfl hl.1 rfl (lv_room (Nat.le_of_ble_eq_true rfl)) dL_fill_22 ⟨Nat.le_of_ble_eq_true rfl, Nat.le_of_ble_eq_true rfl⟩) hS (fun q _ h => hFc q h) hFc (fun r_12 _ t H1 locs ht hvm hw_13 hB hz1 hk1 hS => ?_)
  have hP := xSame hP hk1
  generalize H1 = H at hP hS ⊢
  have hP : va_P (xD g) vwCl (SW g ad ga (.int 0) (.int 0) ((12 + k_5), c0, 0) aV aC aP aG2_9 aY2_10 aN aW aK aS aT) H := hP
  have hD : va_D A (SW g ad ga (.int 0) (.int 0) ((12 + k_5), c0, 0) aV aC aP aG2_9 aY2_10 aN aW aK aS aT) := hD
  try dsimp only at hw_13
  refine lv_iconst (v := 5) hx hb dL_fill_25 (by decide) ?_
  refine lv_ishr hx hb dL_fill_26 ?_
  refine lv_topi (fun x_14 ex_14 => ?_)
  refine lv_iconst (v := 4) hx hb dL_fill_27 (by decide) ?_
  have hPc := hP.sub (ws' := []) [] rfl
  have hDc := hD.sub (ws' := []) [] (by decide) rfl
  have hFc := xFree hS hA
  refine va_calli (va_runS (As := [.int x_14, .int 4]) (rest := [.int 3, .ref (ad 0)]) ⟨hx, hb, hml, hown, hts⟩ (l_below l g H.size x_14 4 (by first | assumption | omega) (by first | assumption | omega)) (va_cwS 2 hts gL_fill_L_below rfl rfl rfl (by decide +kernel) ⟨Nat.le_of_ble_eq_true rfl, Nat.le_of_ble_eq_true rfl⟩) ⟨xB.blind, fun U9 hU9 hW9 => ⟨rfl, xB.mk hPc hK hDc hU9 hW9⟩⟩ rfl rfl hl.1 rfl (lv_room (Nat.le_of_ble_eq_true rfl)) dL_fill_28 ⟨Nat.le_of_ble_eq_true rfl, Nat.le_of_ble_eq_true rfl⟩) hS (fun q _ h => hFc q h) hFc (fun r_15 _ t H1 locs ht hvm hw_16 hB hz1 hk1 hS => ?_)
  have hP := xSame hP hk1
  generalize H1 = H at hP hS ⊢
  have hP : va_P (xD g) vwCl (SW g ad ga (.int 0) (.int 0) ((12 + k_5), c0, 0) aV aC aP aG2_9 aY2_10 aN aW aK aS aT) H := hP
  have hD : va_D A (SW g ad ga (.int 0) (.int 0) ((12 + k_5), c0, 0) aV aC aP aG2_9 aY2_10 aN aW aK aS aT) := hD
  try dsimp only at hw_16
  obtain ⟨k_17, hk_17, rfl⟩ := hw_16
  refine lv_iadd hx hb dL_fill_31 ?_
  refine lv_topi (fun v_18 ev => ?_)
  obtain rfl : v_18 = nI (3 + k_17) := ev.trans (nI_add 3 k_17)
  have hPc := hP
  have hDc := hD
  have hFc := xFa hD hS hA
  refine va_calli (va_runV (As := [.int (nI (3 + k_17))]) (rest := []) ⟨hx, hb, hml, hown, hts⟩ (L_setCranes l g H.size ad ga (.int 0) (.int 0) ((12 + k_5), c0, 0) aV aC aP aG2_9 aY2_10 aN aW aK aS aT (3 + k_17) (show xInv aV aC aP aG2_9 aY2_10 aN aW aK aS aT from by first | assumption | omega) (show 1 ≤ (3 + k_17) ∧ (3 + k_17) ≤ 6 from by first | assumption | omega)) (cwV 1 hts gL_fill_X8_setCranes rfl rfl rfl (by decide +kernel) ⟨Nat.le_of_ble_eq_true rfl, Nat.le_of_ble_eq_true rfl⟩) ⟨xB.blind, va_recv hK hPc (ci := 8) (q0 := 0) rfl rfl, fun U9 hU9 hW9 => ⟨rfl, xB.mk hPc hK hDc hU9 hW9⟩⟩ rfl rfl hl.1 rfl (lv_room (Nat.le_of_ble_eq_true rfl)) dL_fill_32 ⟨Nat.le_of_ble_eq_true rfl, Nat.le_of_ble_eq_true rfl⟩) hS (fun q _ h => hFc q h) hFc (fun r_19 _ t H1 locs ht hvm hw_20 hB hz1 hk1 hS => ?_)
  obtain ⟨aG2_21, aY2_22, hc_23, hP1, hK1, hD1⟩ := hB
  rw [ht] at hP1
  have hInv : xInv aV aC aP aG2_21 aY2_22 aN aW aK aS aT := hc_23.1
  have hrel : o_sc aY2_22 = o_sc aY2_10 := hc_23.2
  obtain ⟨hP, hD⟩ := xJa hD hk1 hFc hP1 hD1
  generalize H1 = H at hP hS ⊢
  have hP : va_P (xD g) vwCl (SW g ad ga (.int 0) (.int 0) ((12 + k_5), (3 + k_17), 0) aV aC aP aG2_21 aY2_22 aN aW aK aS aT) H := hP
  have hD : va_D A (SW g ad ga (.int 0) (.int 0) ((12 + k_5), (3 + k_17), 0) aV aC aP aG2_21 aY2_22 aN aW aK aS aT) := hD
  try dsimp only at hw_20
  refine lv_pop hx hb dL_fill_35 rfl ?_
  refine lv_iload_n hx hb dL_fill_36 rfl (lv_at hl 2 rfl) ?_
  refine va_newa (atype := .int) (ty := .int) (N' := nv) (a0 := (nv, .inl (fun _ => 0))) hx hb (hts (.arrayClass .int) (by decide +kernel)) rfl hK hP hD hS hA (fun cA => by rfl) (nI_pos (by omega)) (nI_clamp (by omega)) (show nv * 4 ≤ 536870912 by omega) (Nat.le_of_ble_eq_true rfl) (Nat.le_trans (show 0 + nv ≤ 4 by omega) (Nat.le_of_ble_eq_true rfl)) dL_fill_37 (fun q_24 cA H hK9 hP hD hS => ?_)
  obtain rfl := xIEq hK9
  refine W.widen (k := 1) (n := 4) (by omega) (by omega) ?_
  have hP : va_P (xD g) vwCl (SW g ad ga (.int 0) (.int 0) ((12 + k_5), (3 + k_17), 0) aV aC aP aG2_21 aY2_22 aN aW aK aS aT ++ [(q_24, .inl (xI g, nv, .inl (fun j => nI ((fun (_ : Nat) => (0 : Nat)) j))))]) H := hP
  have hD : va_D A (SW g ad ga (.int 0) (.int 0) ((12 + k_5), (3 + k_17), 0) aV aC aP aG2_21 aY2_22 aN aW aK aS aT ++ [(q_24, .inl (xI g, nv, .inl (fun j => nI ((fun (_ : Nat) => (0 : Nat)) j))))]) := hD
  refine lv_astore (lv' := [(4, .ref q_24), (0, .ref (ad 0)), (1, .ref sb), (2, .int (nI nv)), (3, .int (nI nc))]) hx hb dL_fill_39 hl (by decide) rfl (fun ls hl => ?_)
  refine lv_iconst (v := 0) hx hb dL_fill_41 (by decide) ?_
  refine lv_istore (lv' := [(5, .int 0), (4, .ref q_24), (0, .ref (ad 0)), (1, .ref sb), (2, .int (nI nv)), (3, .int (nI nc))]) hx hb dL_fill_42 hl (by decide) rfl (fun ls hl => ?_)
  have hloop44 : ∀ (n9 : Nat) (k : Nat) (qz : Nat) (cz : Nat) (aVk : xV_) (aGk : xG_) (aYk : xY_) (aWk : xW_) (bz : Nat → Nat) (H : Heap) (locs : List Loc) (ls : Array Slot), nv - k < n9 → (k ≤ nv) → (12 ≤ qz ∧ qz ≤ 25) → (3 ≤ cz ∧ cz ≤ 6) → (xInv aVk aC aP aGk aYk aN aWk aK aS aT) → (∀ v, v < k → vFit aVk v) → (∀ v, v < k → bz v = o_Vba aVk v) → (∀ x y, o_wbz aVk x y ≤ 0) → (o_sc aYk = 0) → va_P (xD g) vwCl (SW g ad ga (.int 0) (.int 0) (qz, cz, k) aVk aC aP aGk aYk aN aWk aK aS aT ++ [(q_24, .inl (xI g, nv, .inl (fun j => nI (bz j))))]) H → va_D A (SW g ad ga (.int 0) (.int 0) (qz, cz, k) aVk aC aP aGk aYk aN aWk aK aS aT ++ [(q_24, .inl (xI g, nv, .inl (fun j => nI (bz j))))]) → va_S A s.heap H locs → lv_has ls 8 [(5, .int (nI k)), (0, .ref (ad 0)), (1, .ref sb), (2, .int (nI nv)), (3, .int (nI nc)), (4, .ref q_24)] → W p l e (headSpec wsL_fill ({ frames := 7, cells := 1, slots := 4, locals := 161 })).room s m ([.ref (ad 0), .ref sb, .int (nI nv), .int (nI nc)] : List Value).toArray below meth c H locs 1 4 (MQ below (va_Qv (fun (_ : Unit) => True) (fun (_ : Unit) (t : State) => ∃ (aQ2 : xQ_) (aV2 : xV_) (aC2 : xC_) (aG2 : xG_) (aY2 : xY_) (aW2 : xW_), (xInv aV2 aC2 aP aG2 aY2 aN aW2 aK aS aT ∧ lFill nv nc aQ2 aV2 aC2 aY2) ∧ xE g (SW g ad ga (.int 0) (.int 0) aQ2 aV2 aC2 aP aG2 aY2 aN aW2 aK aS aT) (A) t) (A)) ([.ref (ad 0), .ref sb, .int (nI nv), .int (nI nc)] : List Value).toArray s 1 4 A) (F0 m 44 ls []) := by
    intro n9
    induction n9 with
    | zero =>
      intro k qz cz aVk aGk aYk aWk bz H locs ls hm hk9 hqz hcz hInv hvf hbz hwb hsc hP hD hS hl
      exact absurd hm (Nat.not_lt_zero _)
    | succ n9 ih44 =>
      intro k qz cz aVk aGk aYk aWk bz H locs ls hm hk9 hqz hcz hInv hvf hbz hwb hsc hP hD hS hl
      refine lv_iload hx hb dL_fill_44 (lv_at hl 0 rfl) ?_
      refine lv_iload_n hx hb dL_fill_46 rfl (lv_at hl 3 rfl) ?_
      refine lv_icmp_ge (tgt := 122) hx hb dL_fill_47 (by decide) (fun c_25 => ?_) (fun c_25 => ?_)
      · have nc_25 := (nI_leI (a := nv) (b := k) (by omega) (by omega)).mp c_25
        obtain rfl : nv = k := (by omega)
        refine lv_iconst (v := 0) hx hb dL_fill_122 (by decide) ?_
        refine lv_istore (lv' := [(5, .int 0), (0, .ref (ad 0)), (1, .ref sb), (2, .int (nI nv)), (3, .int (nI nc)), (4, .ref q_24)]) hx hb dL_fill_123 hl (by decide) rfl (fun ls hl => ?_)
        have hloop125 : ∀ (n9 : Nat) (c9 : Nat) (aVc : xV_) (aCc : xC_) (aGc : xG_) (aYc : xY_) (aWc : xW_) (H : Heap) (locs : List Loc) (ls : Array Slot), nc - c9 < n9 → (c9 ≤ nc) → (xInv aVc aCc aP aGc aYc aN aWc aK aS aT) → (o_n aCc = c9) → (∀ v, v < nv → vFit aVc v) → (∀ v, v < nv → bz v = o_Vba aVc v) → (∀ x, x < c9 → o_cve aCc x < nv ∧ o_cba aCc x < o_Vba aVc (o_cve aCc x)) → (∀ x y, o_wbz aVc x y ≤ 2 * ((c9 : Nat) : Int)) → (o_sc aYc = 0) → va_P (xD g) vwCl (SW g ad ga (.int 0) (.int 0) (qz, cz, nv) aVc aCc aP aGc aYc aN aWc aK aS aT ++ [(q_24, .inl (xI g, nv, .inl (fun j => nI (bz j))))]) H → va_D A (SW g ad ga (.int 0) (.int 0) (qz, cz, nv) aVc aCc aP aGc aYc aN aWc aK aS aT ++ [(q_24, .inl (xI g, nv, .inl (fun j => nI (bz j))))]) → va_S A s.heap H locs → lv_has ls 8 [(5, .int (nI c9)), (0, .ref (ad 0)), (1, .ref sb), (2, .int (nI nv)), (3, .int (nI nc)), (4, .ref q_24)] → W p l e (headSpec wsL_fill ({ frames := 7, cells := 1, slots := 4, locals := 161 })).room s m ([.ref (ad 0), .ref sb, .int (nI nv), .int (nI nc)] : List Value).toArray below meth c H locs 1 4 (MQ below (va_Qv (fun (_ : Unit) => True) (fun (_ : Unit) (t : State) => ∃ (aQ2 : xQ_) (aV2 : xV_) (aC2 : xC_) (aG2 : xG_) (aY2 : xY_) (aW2 : xW_), (xInv aV2 aC2 aP aG2 aY2 aN aW2 aK aS aT ∧ lFill nv nc aQ2 aV2 aC2 aY2) ∧ xE g (SW g ad ga (.int 0) (.int 0) aQ2 aV2 aC2 aP aG2 aY2 aN aW2 aK aS aT) (A) t) (A)) ([.ref (ad 0), .ref sb, .int (nI nv), .int (nI nc)] : List Value).toArray s 1 4 A) (F0 m 125 ls []) := by
          intro n9
          induction n9 with
          | zero =>
            intro c9 aVc aCc aGc aYc aWc H locs ls hm hc9_ hInv hcn hvf hbz hcs hwb hsc hP hD hS hl
            exact absurd hm (Nat.not_lt_zero _)
          | succ n9 ih125 =>
            intro c9 aVc aCc aGc aYc aWc H locs ls hm hc9_ hInv hcn hvf hbz hcs hwb hsc hP hD hS hl
            refine lv_iload hx hb dL_fill_125 (lv_at hl 0 rfl) ?_
            refine lv_iload_n hx hb dL_fill_127 rfl (lv_at hl 4 rfl) ?_
            refine lv_icmp_ge (tgt := 222) hx hb dL_fill_128 (by decide) (fun c_26 => ?_) (fun c_26 => ?_)
            · have nc_26 := (nI_leI (a := nc) (b := c9) (by omega) (by omega)).mp c_26
              refine lv_aload_n hx hb dL_fill_222 rfl (lv_at hl 2 rfl) ?_
              refine lv_bipush (v := 14) hx hb dL_fill_223 (by decide) ?_
              have hPc := hP.sub (ws' := []) [] rfl
              have hDc := hD.sub (ws' := []) [] (by decide) rfl
              have hFc := xFree hS hA
              refine va_calli (va_runS (As := [.ref sb, .int 14]) (rest := []) ⟨hx, hb, hml, hown, hts⟩ (l_cell l g H.size sb Ls xs 14 (by first | assumption | omega) (by first | assumption | omega)) (va_cwS 2 hts gL_fill_L_cell rfl rfl rfl (by decide +kernel) ⟨Nat.le_of_ble_eq_true rfl, Nat.le_of_ble_eq_true rfl⟩) ⟨xBS.blind, fun U9 hU9 hW9 => ⟨rfl, xB.mk hPc hK hDc hU9 hW9, hX.call hS hFc hU9 hW9⟩⟩ rfl rfl hl.1 rfl (lv_room (Nat.le_of_ble_eq_true rfl)) dL_fill_225 ⟨Nat.le_of_ble_eq_true rfl, Nat.le_of_ble_eq_true rfl⟩) hS (fun q _ h => hFc q h) hFc (fun r_27 _ t H1 locs ht hvm hw_28 hB hz1 hk1 hS => ?_)
              have hP := xSame hP hk1
              generalize H1 = H at hP hS ⊢
              have hP : va_P (xD g) vwCl (SW g ad ga (.int 0) (.int 0) (qz, cz, nv) aVc aCc aP aGc aYc aN aWc aK aS aT ++ [(q_24, .inl (xI g, nv, .inl (fun j => nI (bz j))))]) H := hP
              have hD : va_D A (SW g ad ga (.int 0) (.int 0) (qz, cz, nv) aVc aCc aP aGc aYc aN aWc aK aS aT ++ [(q_24, .inl (xI g, nv, .inl (fun j => nI (bz j))))]) := hD
              try dsimp only at hw_28
              refine lv_iconst (v := 4) hx hb dL_fill_228 (by decide) ?_
              have hPc := hP.sub (ws' := []) [] rfl
              have hDc := hD.sub (ws' := []) [] (by decide) rfl
              have hFc := xFree hS hA
              refine va_calli (va_runS (As := [.int r_27, .int 4]) (rest := []) ⟨hx, hb, hml, hown, hts⟩ (l_below l g H.size r_27 4 (by first | assumption | omega) (by first | assumption | omega)) (va_cwS 2 hts gL_fill_L_below rfl rfl rfl (by decide +kernel) ⟨Nat.le_of_ble_eq_true rfl, Nat.le_of_ble_eq_true rfl⟩) ⟨xB.blind, fun U9 hU9 hW9 => ⟨rfl, xB.mk hPc hK hDc hU9 hW9⟩⟩ rfl rfl hl.1 rfl (lv_room (Nat.le_of_ble_eq_true rfl)) dL_fill_229 ⟨Nat.le_of_ble_eq_true rfl, Nat.le_of_ble_eq_true rfl⟩) hS (fun q _ h => hFc q h) hFc (fun r_29 _ t H1 locs ht hvm hw_30 hB hz1 hk1 hS => ?_)
              have hP := xSame hP hk1
              generalize H1 = H at hP hS ⊢
              have hP : va_P (xD g) vwCl (SW g ad ga (.int 0) (.int 0) (qz, cz, nv) aVc aCc aP aGc aYc aN aWc aK aS aT ++ [(q_24, .inl (xI g, nv, .inl (fun j => nI (bz j))))]) H := hP
              have hD : va_D A (SW g ad ga (.int 0) (.int 0) (qz, cz, nv) aVc aCc aP aGc aYc aN aWc aK aS aT ++ [(q_24, .inl (xI g, nv, .inl (fun j => nI (bz j))))]) := hD
              try dsimp only at hw_30
              obtain ⟨k_31, hk_31, rfl⟩ := hw_30
              rw [show nI k_31 = iI (((k_31 + 1 : Nat) : Int) - 1) from by rw [iI_nI]; congr 1; omega]
              refine lv_istore (lv' := [(5, .int (iI (((k_31 + 1 : Nat) : Int) - 1))), (0, .ref (ad 0)), (1, .ref sb), (2, .int (nI nv)), (3, .int (nI nc)), (4, .ref q_24)]) hx hb dL_fill_232 hl (by decide) rfl (fun ls hl => ?_)
              have hloop234 : ∀ (n9 : Nat) (j : Nat) (aYs : xY_) (H : Heap) (locs : List Loc) (ls : Array Slot), j < n9 → (o_sc aYs + j ≤ 4) → (1 ≤ o_sc aYs ∨ 1 ≤ j) → (xInv aVc aCc aP aGc aYs aN aWc aK aS aT) → va_P (xD g) vwCl (SW g ad ga (.int 0) (.int 0) (qz, cz, nv) aVc aCc aP aGc aYs aN aWc aK aS aT) H → va_D A (SW g ad ga (.int 0) (.int 0) (qz, cz, nv) aVc aCc aP aGc aYs aN aWc aK aS aT) → va_S A s.heap H locs → lv_has ls 8 [(5, .int (iI (((j : Nat) : Int) - 1))), (0, .ref (ad 0)), (1, .ref sb)] → W p l e (headSpec wsL_fill ({ frames := 7, cells := 1, slots := 4, locals := 161 })).room s m ([.ref (ad 0), .ref sb, .int (nI nv), .int (nI nc)] : List Value).toArray below meth c H locs 1 4 (MQ below (va_Qv (fun (_ : Unit) => True) (fun (_ : Unit) (t : State) => ∃ (aQ2 : xQ_) (aV2 : xV_) (aC2 : xC_) (aG2 : xG_) (aY2 : xY_) (aW2 : xW_), (xInv aV2 aC2 aP aG2 aY2 aN aW2 aK aS aT ∧ lFill nv nc aQ2 aV2 aC2 aY2) ∧ xE g (SW g ad ga (.int 0) (.int 0) aQ2 aV2 aC2 aP aG2 aY2 aN aW2 aK aS aT) (A) t) (A)) ([.ref (ad 0), .ref sb, .int (nI nv), .int (nI nc)] : List Value).toArray s 1 4 A) (F0 m 234 ls []) := by
                intro n9
                induction n9 with
                | zero =>
                  intro j aYs H locs ls hm hj hj1 hInv hP hD hS hl
                  exact absurd hm (Nat.not_lt_zero _)
                | succ n9 ih234 =>
                  intro j aYs H locs ls hm hj hj1 hInv hP hD hS hl
                  refine lv_iload hx hb dL_fill_234 (lv_at hl 0 rfl) ?_
                  refine lv_if_lt (tgt := 267) hx hb dL_fill_236 (by decide) (fun c_32 => ?_) (fun c_32 => ?_)
                  · have nc_32 := (iLt (a := ((j : Nat) : Int) - 1) (b := 0) rfl (by decide) (by omega)).mp c_32
                    refine lv_iconst (v := 0) hx hb dL_fill_267 (by decide) ?_
                    refine lv_istore (lv' := [(5, .int 0), (0, .ref (ad 0)), (1, .ref sb)]) hx hb dL_fill_268 hl (by decide) rfl (fun ls hl => ?_)
                    have hloop270 : ∀ (n9 : Nat) (k4 : Nat) (aC4 : xC_) (aG4 : xG_) (aY4 : xY_) (H : Heap) (locs : List Loc) (ls : Array Slot), 16 - k4 < n9 → (k4 ≤ 16) → (xInv aVc aC4 aP aG4 aY4 aN aWc aK aS aT) → (o_n aC4 = nc) → (∀ x, x < nc → o_cve aC4 x < nv ∧ o_cba aC4 x < o_Vba aVc (o_cve aC4 x)) → (1 ≤ o_sc aY4 ∧ o_sc aY4 ≤ 4) → va_P (xD g) vwCl (SW g ad ga (.int 0) (.int 0) (qz, cz, nv) aVc aC4 aP aG4 aY4 aN aWc aK aS aT) H → va_D A (SW g ad ga (.int 0) (.int 0) (qz, cz, nv) aVc aC4 aP aG4 aY4 aN aWc aK aS aT) → va_S A s.heap H locs → lv_has ls 8 [(5, .int (nI k4)), (0, .ref (ad 0)), (1, .ref sb)] → W p l e (headSpec wsL_fill ({ frames := 7, cells := 1, slots := 4, locals := 161 })).room s m ([.ref (ad 0), .ref sb, .int (nI nv), .int (nI nc)] : List Value).toArray below meth c H locs 1 4 (MQ below (va_Qv (fun (_ : Unit) => True) (fun (_ : Unit) (t : State) => ∃ (aQ2 : xQ_) (aV2 : xV_) (aC2 : xC_) (aG2 : xG_) (aY2 : xY_) (aW2 : xW_), (xInv aV2 aC2 aP aG2 aY2 aN aW2 aK aS aT ∧ lFill nv nc aQ2 aV2 aC2 aY2) ∧ xE g (SW g ad ga (.int 0) (.int 0) aQ2 aV2 aC2 aP aG2 aY2 aN aW2 aK aS aT) (A) t) (A)) ([.ref (ad 0), .ref sb, .int (nI nv), .int (nI nc)] : List Value).toArray s 1 4 A) (F0 m 270 ls []) := by
                      intro n9
                      induction n9 with
                      | zero =>
                        intro k4 aC4 aG4 aY4 H locs ls hm hk4 hInv hcn4 hcs4 hsc4 hP hD hS hl
                        exact absurd hm (Nat.not_lt_zero _)
                      | succ n9 ih270 =>
                        intro k4 aC4 aG4 aY4 H locs ls hm hk4 hInv hcn4 hcs4 hsc4 hP hD hS hl
                        refine lv_iload hx hb dL_fill_270 (lv_at hl 0 rfl) ?_
                        refine lv_bipush (v := 16) hx hb dL_fill_272 (by decide) ?_
                        refine lv_icmp_ge (tgt := 321) hx hb dL_fill_274 (by decide) (fun c_33 => ?_) (fun c_33 => ?_)
                        · have nc_33 := (nI_leI (a := 16) (b := k4) (by omega) (by omega)).mp c_33
                          have hP9 := hP
                          have hD9 := hD
                          exact W.vret hx hb hr (fun t ht hW => ⟨⟨(), rfl, (by first | trivial | rfl | assumption | omega), ⟨(qz, cz, nv), aVc, aC4, aG4, aY4, aWc, ⟨hInv, hqz, hcz, rfl, hcn4, hvf, hcs4, hsc4⟩, by rw [ht]; exact hP9, va_K.moved hW.alike hK, hD9⟩⟩, hS.F ht⟩) hS.2.2 dL_fill_321
                        · have nc_33 := mt (nI_leI (a := 16) (b := k4) (by omega) (by omega)).mpr c_33
                          refine lv_aload_n hx hb dL_fill_277 rfl (lv_at hl 2 rfl) ?_
                          refine lv_bipush (v := 15) hx hb dL_fill_278 (by decide) ?_
                          have hPc := hP.sub (ws' := []) [] rfl
                          have hDc := hD.sub (ws' := []) [] (by decide) rfl
                          have hFc := xFree hS hA
                          refine va_calli (va_runS (As := [.ref sb, .int 15]) (rest := []) ⟨hx, hb, hml, hown, hts⟩ (l_cell l g H.size sb Ls xs 15 (by first | assumption | omega) (by first | assumption | omega)) (va_cwS 2 hts gL_fill_L_cell rfl rfl rfl (by decide +kernel) ⟨Nat.le_of_ble_eq_true rfl, Nat.le_of_ble_eq_true rfl⟩) ⟨xBS.blind, fun U9 hU9 hW9 => ⟨rfl, xB.mk hPc hK hDc hU9 hW9, hX.call hS hFc hU9 hW9⟩⟩ rfl rfl hl.1 rfl (lv_room (Nat.le_of_ble_eq_true rfl)) dL_fill_280 ⟨Nat.le_of_ble_eq_true rfl, Nat.le_of_ble_eq_true rfl⟩) hS (fun q _ h => hFc q h) hFc (fun r_34 _ t H1 locs ht hvm hw_35 hB hz1 hk1 hS => ?_)
                          have hP := xSame hP hk1
                          generalize H1 = H at hP hS ⊢
                          have hP : va_P (xD g) vwCl (SW g ad ga (.int 0) (.int 0) (qz, cz, nv) aVc aC4 aP aG4 aY4 aN aWc aK aS aT) H := hP
                          have hD : va_D A (SW g ad ga (.int 0) (.int 0) (qz, cz, nv) aVc aC4 aP aG4 aY4 aN aWc aK aS aT) := hD
                          try dsimp only at hw_35
                          refine lv_iload hx hb dL_fill_283 (lv_at hl 0 rfl) ?_
                          refine lv_ishr hx hb dL_fill_285 ?_
                          refine lv_topi (fun x_36 ex_36 => ?_)
                          refine lv_iconst (v := 3) hx hb dL_fill_286 (by decide) ?_
                          have hPc := hP.sub (ws' := []) [] rfl
                          have hDc := hD.sub (ws' := []) [] (by decide) rfl
                          have hFc := xFree hS hA
                          refine va_calli (va_runS (As := [.int x_36, .int 3]) (rest := []) ⟨hx, hb, hml, hown, hts⟩ (l_below l g H.size x_36 3 (by first | assumption | omega) (by first | assumption | omega)) (va_cwS 2 hts gL_fill_L_below rfl rfl rfl (by decide +kernel) ⟨Nat.le_of_ble_eq_true rfl, Nat.le_of_ble_eq_true rfl⟩) ⟨xB.blind, fun U9 hU9 hW9 => ⟨rfl, xB.mk hPc hK hDc hU9 hW9⟩⟩ rfl rfl hl.1 rfl (lv_room (Nat.le_of_ble_eq_true rfl)) dL_fill_287 ⟨Nat.le_of_ble_eq_true rfl, Nat.le_of_ble_eq_true rfl⟩) hS (fun q _ h => hFc q h) hFc (fun r_37 _ t H1 locs ht hvm hw_38 hB hz1 hk1 hS => ?_)
                          have hP := xSame hP hk1
                          generalize H1 = H at hP hS ⊢
                          have hP : va_P (xD g) vwCl (SW g ad ga (.int 0) (.int 0) (qz, cz, nv) aVc aC4 aP aG4 aY4 aN aWc aK aS aT) H := hP
                          have hD : va_D A (SW g ad ga (.int 0) (.int 0) (qz, cz, nv) aVc aC4 aP aG4 aY4 aN aWc aK aS aT) := hD
                          try dsimp only at hw_38
                          obtain ⟨k_39, hk_39, rfl⟩ := hw_38
                          refine lv_if_ne (tgt := 315) hx hb dL_fill_290 (by decide) (fun c_40 => ?_) (fun c_40 => ?_)
                          · have nc_40 := mt (nI_eq (a := k_39) (b := 0) (by omega) (by omega)).mpr c_40
                            refine lv_iinc (v := nI (k4 + 1)) (lv' := [(5, .int (nI (k4 + 1))), (0, .ref (ad 0)), (1, .ref sb)]) hx hb dL_fill_315 hl (k := 0) rfl (nI_add k4 1) (by decide) rfl (fun ls hl => ?_)
                            refine lv_goto (tgt := 270) hx hb dL_fill_318 (by decide) ?_
                            exact ih270 (k4 + 1) aC4 aG4 aY4 _ _ _ (by omega) (by omega) hInv hcn4 hcs4 (by omega) hP hD hS (lv_sub hl [0, 1, 2] rfl)
                          · have nc_40 := (nI_eq (a := k_39) (b := 0) (by omega) (by omega)).mp c_40
                            refine lv_aload_n hx hb dL_fill_293 rfl (lv_at hl 1 rfl) ?_
                            refine lv_iload hx hb dL_fill_294 (lv_at hl 0 rfl) ?_
                            refine lv_aload_n hx hb dL_fill_296 rfl (lv_at hl 2 rfl) ?_
                            refine lv_bipush (v := 15) hx hb dL_fill_297 (by decide) ?_
                            have hPc := hP.sub (ws' := []) [] rfl
                            have hDc := hD.sub (ws' := []) [] (by decide) rfl
                            have hFc := xFree hS hA
                            refine va_calli (va_runS (As := [.ref sb, .int 15]) (rest := [.int (nI k4), .ref (ad 0)]) ⟨hx, hb, hml, hown, hts⟩ (l_cell l g H.size sb Ls xs 15 (by first | assumption | omega) (by first | assumption | omega)) (va_cwS 2 hts gL_fill_L_cell rfl rfl rfl (by decide +kernel) ⟨Nat.le_of_ble_eq_true rfl, Nat.le_of_ble_eq_true rfl⟩) ⟨xBS.blind, fun U9 hU9 hW9 => ⟨rfl, xB.mk hPc hK hDc hU9 hW9, hX.call hS hFc hU9 hW9⟩⟩ rfl rfl hl.1 rfl (lv_room (Nat.le_of_ble_eq_true rfl)) dL_fill_299 ⟨Nat.le_of_ble_eq_true rfl, Nat.le_of_ble_eq_true rfl⟩) hS (fun q _ h => hFc q h) hFc (fun r_41 _ t H1 locs ht hvm hw_42 hB hz1 hk1 hS => ?_)
                            have hP := xSame hP hk1
                            generalize H1 = H at hP hS ⊢
                            have hP : va_P (xD g) vwCl (SW g ad ga (.int 0) (.int 0) (qz, cz, nv) aVc aC4 aP aG4 aY4 aN aWc aK aS aT) H := hP
                            have hD : va_D A (SW g ad ga (.int 0) (.int 0) (qz, cz, nv) aVc aC4 aP aG4 aY4 aN aWc aK aS aT) := hD
                            try dsimp only at hw_42
                            refine lv_iload hx hb dL_fill_302 (lv_at hl 0 rfl) ?_
                            refine lv_iconst (v := 2) hx hb dL_fill_304 (by decide) ?_
                            refine lv_iadd hx hb dL_fill_305 ?_
                            refine lv_topi (fun v_43 ev => ?_)
                            obtain rfl : v_43 = nI (k4 + 2) := ev.trans (nI_add k4 2)
                            refine lv_ishr hx hb dL_fill_306 ?_
                            refine lv_topi (fun x_44 ex_44 => ?_)
                            refine lv_iconst (v := 4) hx hb dL_fill_307 (by decide) ?_
                            have hPc := hP.sub (ws' := []) [] rfl
                            have hDc := hD.sub (ws' := []) [] (by decide) rfl
                            have hFc := xFree hS hA
                            refine va_calli (va_runS (As := [.int x_44, .int 4]) (rest := [.int (nI k4), .ref (ad 0)]) ⟨hx, hb, hml, hown, hts⟩ (l_below l g H.size x_44 4 (by first | assumption | omega) (by first | assumption | omega)) (va_cwS 2 hts gL_fill_L_below rfl rfl rfl (by decide +kernel) ⟨Nat.le_of_ble_eq_true rfl, Nat.le_of_ble_eq_true rfl⟩) ⟨xB.blind, fun U9 hU9 hW9 => ⟨rfl, xB.mk hPc hK hDc hU9 hW9⟩⟩ rfl rfl hl.1 rfl (lv_room (Nat.le_of_ble_eq_true rfl)) dL_fill_308 ⟨Nat.le_of_ble_eq_true rfl, Nat.le_of_ble_eq_true rfl⟩) hS (fun q _ h => hFc q h) hFc (fun r_45 _ t H1 locs ht hvm hw_46 hB hz1 hk1 hS => ?_)
                            have hP := xSame hP hk1
                            generalize H1 = H at hP hS ⊢
                            have hP : va_P (xD g) vwCl (SW g ad ga (.int 0) (.int 0) (qz, cz, nv) aVc aC4 aP aG4 aY4 aN aWc aK aS aT) H := hP
                            have hD : va_D A (SW g ad ga (.int 0) (.int 0) (qz, cz, nv) aVc aC4 aP aG4 aY4 aN aWc aK aS aT) := hD
                            try dsimp only at hw_46
                            obtain ⟨k_47, hk_47, rfl⟩ := hw_46
                            have hPc := hP
                            have hDc := hD
                            have hFc := xFa hD hS hA
                            refine va_calli (va_runV (As := [.int (nI k4), .int (nI k_47)]) (rest := []) ⟨hx, hb, hml, hown, hts⟩ (L_setRoom l g H.size ad ga (.int 0) (.int 0) (qz, cz, nv) aVc aC4 aP aG4 aY4 aN aWc aK aS aT k4 k_47 (show xInv aVc aC4 aP aG4 aY4 aN aWc aK aS aT from by first | assumption | omega) (show k4 < 16 from by first | assumption | omega) (show k_47 ≤ 6 from by first | assumption | omega)) (cwV 2 hts gL_fill_X8_setRoom rfl rfl rfl (by decide +kernel) ⟨Nat.le_of_ble_eq_true rfl, Nat.le_of_ble_eq_true rfl⟩) ⟨xB.blind, va_recv hK hPc (ci := 8) (q0 := 0) rfl rfl, fun U9 hU9 hW9 => ⟨rfl, xB.mk hPc hK hDc hU9 hW9⟩⟩ rfl rfl hl.1 rfl (lv_room (Nat.le_of_ble_eq_true rfl)) dL_fill_311 ⟨Nat.le_of_ble_eq_true rfl, Nat.le_of_ble_eq_true rfl⟩) hS (fun q _ h => hFc q h) hFc (fun r_48 _ t H1 locs ht hvm hw_49 hB hz1 hk1 hS => ?_)
                            obtain ⟨aC2_50, aG2_51, aY2_52, hc_53, hP1, hK1, hD1⟩ := hB
                            rw [ht] at hP1
                            have hInv : xInv aVc aC2_50 aP aG2_51 aY2_52 aN aWc aK aS aT := hc_53.1
                            have hrel : (∃ z9 : Nat → Int, aC2_50 = (o_n aC4, o_cve aC4, o_cba aC4, o_cex aC4, o_cwt aC4, o_cwi aC4, z9)) ∧ o_sc aY2_52 = o_sc aY4 := hc_53.2
                            obtain ⟨hP, hD⟩ := xJa hD hk1 hFc hP1 hD1
                            generalize H1 = H at hP hS ⊢
                            have hP : va_P (xD g) vwCl (SW g ad ga (.int 0) (.int 0) (qz, cz, nv) aVc aC2_50 aP aG2_51 aY2_52 aN aWc aK aS aT) H := hP
                            have hD : va_D A (SW g ad ga (.int 0) (.int 0) (qz, cz, nv) aVc aC2_50 aP aG2_51 aY2_52 aN aWc aK aS aT) := hD
                            try dsimp only at hw_49
                            obtain ⟨⟨z9, hz9⟩, hy9⟩ := hrel
                            have hcn2 : o_n aC2_50 = nc := by rw [hz9]; exact hcn4
                            have hcs2 : ∀ x, x < nc → o_cve aC2_50 x < nv ∧ o_cba aC2_50 x < o_Vba aVc (o_cve aC2_50 x) := by rw [hz9]; exact hcs4
                            refine lv_pop hx hb dL_fill_314 rfl ?_
                            refine lv_iinc (v := nI (k4 + 1)) (lv' := [(5, .int (nI (k4 + 1))), (0, .ref (ad 0)), (1, .ref sb)]) hx hb dL_fill_315 hl (k := 0) rfl (nI_add k4 1) (by decide) rfl (fun ls hl => ?_)
                            refine lv_goto (tgt := 270) hx hb dL_fill_318 (by decide) ?_
                            exact ih270 (k4 + 1) aC2_50 aG2_51 aY2_52 _ _ _ (by omega) (by omega) hInv hcn2 hcs2 (by omega) hP hD hS (lv_sub hl [0, 1, 2] rfl)
                    exact hloop270 (17) 0 aCc aGc aYs _ _ _ (by omega) (Nat.zero_le _) hInv (by omega) (by obtain rfl : nc = c9 := (by omega); exact hcs) (by omega) hP hD hS (by rw [(show nI 0 = (0 : Int32) from by decide)]; exact lv_sub hl [0, 1, 2] rfl)
                  · have nc_32 := mt (iLt (a := ((j : Nat) : Int) - 1) (b := 0) rfl (by decide) (by omega)).mpr c_32
                    obtain ⟨i, rfl⟩ : ∃ i, j = i + 1 := ⟨j - 1, by omega⟩
                    rw [show iI (((i + 1 : Nat) : Int) - 1) = nI i from by rw [iI_nI]; congr 1; omega] at hl
                    refine lv_aload_n hx hb dL_fill_239 rfl (lv_at hl 1 rfl) ?_
                    refine lv_iconst (v := 1) hx hb dL_fill_240 (by decide) ?_
                    refine lv_aload_n hx hb dL_fill_241 rfl (lv_at hl 2 rfl) ?_
                    refine lv_bipush (v := 14) hx hb dL_fill_242 (by decide) ?_
                    have hPc := hP.sub (ws' := []) [] rfl
                    have hDc := hD.sub (ws' := []) [] (by decide) rfl
                    have hFc := xFree hS hA
                    refine va_calli (va_runS (As := [.ref sb, .int 14]) (rest := [.int 1, .ref (ad 0)]) ⟨hx, hb, hml, hown, hts⟩ (l_cell l g H.size sb Ls xs 14 (by first | assumption | omega) (by first | assumption | omega)) (va_cwS 2 hts gL_fill_L_cell rfl rfl rfl (by decide +kernel) ⟨Nat.le_of_ble_eq_true rfl, Nat.le_of_ble_eq_true rfl⟩) ⟨xBS.blind, fun U9 hU9 hW9 => ⟨rfl, xB.mk hPc hK hDc hU9 hW9, hX.call hS hFc hU9 hW9⟩⟩ rfl rfl hl.1 rfl (lv_room (Nat.le_of_ble_eq_true rfl)) dL_fill_244 ⟨Nat.le_of_ble_eq_true rfl, Nat.le_of_ble_eq_true rfl⟩) hS (fun q _ h => hFc q h) hFc (fun r_54 _ t H1 locs ht hvm hw_55 hB hz1 hk1 hS => ?_)
                    have hP := xSame hP hk1
                    generalize H1 = H at hP hS ⊢
                    have hP : va_P (xD g) vwCl (SW g ad ga (.int 0) (.int 0) (qz, cz, nv) aVc aCc aP aGc aYs aN aWc aK aS aT) H := hP
                    have hD : va_D A (SW g ad ga (.int 0) (.int 0) (qz, cz, nv) aVc aCc aP aGc aYs aN aWc aK aS aT) := hD
                    try dsimp only at hw_55
                    refine lv_iconst (v := 2) hx hb dL_fill_247 (by decide) ?_
                    refine lv_iload hx hb dL_fill_248 (lv_at hl 0 rfl) ?_
                    refine lv_imul hx hb dL_fill_250 ?_
                    refine lv_topi (fun v_56 ev => ?_)
                    obtain rfl : v_56 = nI (2 * i) := ev.trans (pk_mul 2 i)
                    refine lv_ishr hx hb dL_fill_251 ?_
                    refine lv_topi (fun x_57 ex_57 => ?_)
                    refine lv_iconst (v := 4) hx hb dL_fill_252 (by decide) ?_
                    have hPc := hP.sub (ws' := []) [] rfl
                    have hDc := hD.sub (ws' := []) [] (by decide) rfl
                    have hFc := xFree hS hA
                    refine va_calli (va_runS (As := [.int x_57, .int 4]) (rest := [.int 1, .ref (ad 0)]) ⟨hx, hb, hml, hown, hts⟩ (l_below l g H.size x_57 4 (by first | assumption | omega) (by first | assumption | omega)) (va_cwS 2 hts gL_fill_L_below rfl rfl rfl (by decide +kernel) ⟨Nat.le_of_ble_eq_true rfl, Nat.le_of_ble_eq_true rfl⟩) ⟨xB.blind, fun U9 hU9 hW9 => ⟨rfl, xB.mk hPc hK hDc hU9 hW9⟩⟩ rfl rfl hl.1 rfl (lv_room (Nat.le_of_ble_eq_true rfl)) dL_fill_253 ⟨Nat.le_of_ble_eq_true rfl, Nat.le_of_ble_eq_true rfl⟩) hS (fun q _ h => hFc q h) hFc (fun r_58 _ t H1 locs ht hvm hw_59 hB hz1 hk1 hS => ?_)
                    have hP := xSame hP hk1
                    generalize H1 = H at hP hS ⊢
                    have hP : va_P (xD g) vwCl (SW g ad ga (.int 0) (.int 0) (qz, cz, nv) aVc aCc aP aGc aYs aN aWc aK aS aT) H := hP
                    have hD : va_D A (SW g ad ga (.int 0) (.int 0) (qz, cz, nv) aVc aCc aP aGc aYs aN aWc aK aS aT) := hD
                    try dsimp only at hw_59
                    obtain ⟨k_60, hk_60, rfl⟩ := hw_59
                    refine lv_iadd hx hb dL_fill_256 ?_
                    refine lv_topi (fun v_61 ev => ?_)
                    obtain rfl : v_61 = nI (1 + k_60) := ev.trans (nI_add 1 k_60)
                    have hPc := hP
                    have hDc := hD
                    have hFc := xFa hD hS hA
                    refine va_calli (va_runV (As := [.int (nI (1 + k_60))]) (rest := []) ⟨hx, hb, hml, hown, hts⟩ (L_addStack l g H.size ad ga (.int 0) (.int 0) (qz, cz, nv) aVc aCc aP aGc aYs aN aWc aK aS aT (1 + k_60) (show xInv aVc aCc aP aGc aYs aN aWc aK aS aT from by first | assumption | omega) (show (o_sc aYs) < 12 from by first | assumption | omega) (show 1 ≤ (1 + k_60) ∧ (1 + k_60) ≤ 5 from by first | assumption | omega)) (cwV 1 hts gL_fill_X8_addStack rfl rfl rfl (by decide +kernel) ⟨Nat.le_of_ble_eq_true rfl, Nat.le_of_ble_eq_true rfl⟩) ⟨xB.blind, va_recv hK hPc (ci := 8) (q0 := 0) rfl rfl, fun U9 hU9 hW9 => ⟨rfl, xB.mk hPc hK hDc hU9 hW9⟩⟩ rfl rfl hl.1 rfl (lv_room (Nat.le_of_ble_eq_true rfl)) dL_fill_257 ⟨Nat.le_of_ble_eq_true rfl, Nat.le_of_ble_eq_true rfl⟩) hS (fun q _ h => hFc q h) hFc (fun r_62 _ t H1 locs ht hvm hw_63 hB hz1 hk1 hS => ?_)
                    obtain ⟨aY2_64, hc_65, hP1, hK1, hD1⟩ := hB
                    rw [ht] at hP1
                    have hInv : xInv aVc aCc aP aGc aY2_64 aN aWc aK aS aT := hc_65.1
                    have hrel : o_sc aY2_64 = o_sc aYs + 1 := hc_65.2
                    obtain ⟨hP, hD⟩ := xJa hD hk1 hFc hP1 hD1
                    generalize H1 = H at hP hS ⊢
                    have hP : va_P (xD g) vwCl (SW g ad ga (.int 0) (.int 0) (qz, cz, nv) aVc aCc aP aGc aY2_64 aN aWc aK aS aT) H := hP
                    have hD : va_D A (SW g ad ga (.int 0) (.int 0) (qz, cz, nv) aVc aCc aP aGc aY2_64 aN aWc aK aS aT) := hD
                    try dsimp only at hw_63
                    refine lv_pop hx hb dL_fill_260 rfl ?_
                    refine lv_iinc (v := iI (((i : Nat) : Int) + (-1))) (lv' := [(5, .int (iI (((i : Nat) : Int) + (-1)))), (0, .ref (ad 0)), (1, .ref sb)]) hx hb dL_fill_261 hl (k := 0) rfl (iA (iI_nI _) (by decide)) (by decide) rfl (fun ls hl => ?_)
                    refine lv_goto (tgt := 234) hx hb dL_fill_264 (by decide) ?_
                    exact ih234 i aY2_64 _ _ _ (by omega) (by omega) (by omega) hInv hP hD hS (lv_sub hl [0, 1, 2] rfl)
              have hP := xPl hP
              have hD := xDl hD
              exact hloop234 (6) (k_31 + 1) aYc _ _ _ (by omega) (by omega) (by omega) hInv hP hD hS (lv_sub hl [0, 1, 2] rfl)
            · have nc_26 := mt (nI_leI (a := nc) (b := c9) (by omega) (by omega)).mpr c_26
              refine lv_aload_n hx hb dL_fill_131 rfl (lv_at hl 2 rfl) ?_
              refine lv_iconst (v := 5) hx hb dL_fill_132 (by decide) ?_
              refine lv_iload hx hb dL_fill_133 (lv_at hl 0 rfl) ?_
              refine lv_bipush (v := 9) hx hb dL_fill_135 (by decide) ?_
              refine lv_irem hx hb dL_fill_137 (by decide) ?_
              refine lv_topi (fun v_66 ev => ?_)
              obtain rfl : v_66 = nI (c9 % 9) := ev.trans (nR (a := c9) (d := 9) (by omega) (by decide) (by decide) (by decide))
              refine lv_iadd hx hb dL_fill_138 ?_
              refine lv_topi (fun v_67 ev => ?_)
              obtain rfl : v_67 = nI (5 + (c9 % 9)) := ev.trans (nI_add 5 (c9 % 9))
              have hPc := hP.sub (ws' := []) [] rfl
              have hDc := hD.sub (ws' := []) [] (by decide) rfl
              have hFc := xFree hS hA
              refine va_calli (va_runS (As := [.ref sb, .int (nI (5 + (c9 % 9)))]) (rest := []) ⟨hx, hb, hml, hown, hts⟩ (l_cell l g H.size sb Ls xs (5 + (c9 % 9)) (by first | assumption | omega) (by first | assumption | omega)) (va_cwS 2 hts gL_fill_L_cell rfl rfl rfl (by decide +kernel) ⟨Nat.le_of_ble_eq_true rfl, Nat.le_of_ble_eq_true rfl⟩) ⟨xBS.blind, fun U9 hU9 hW9 => ⟨rfl, xB.mk hPc hK hDc hU9 hW9, hX.call hS hFc hU9 hW9⟩⟩ rfl rfl hl.1 rfl (lv_room (Nat.le_of_ble_eq_true rfl)) dL_fill_139 ⟨Nat.le_of_ble_eq_true rfl, Nat.le_of_ble_eq_true rfl⟩) hS (fun q _ h => hFc q h) hFc (fun r_68 _ t H1 locs ht hvm hw_69 hB hz1 hk1 hS => ?_)
              have hP := xSame hP hk1
              generalize H1 = H at hP hS ⊢
              have hP : va_P (xD g) vwCl (SW g ad ga (.int 0) (.int 0) (qz, cz, nv) aVc aCc aP aGc aYc aN aWc aK aS aT ++ [(q_24, .inl (xI g, nv, .inl (fun j => nI (bz j))))]) H := hP
              have hD : va_D A (SW g ad ga (.int 0) (.int 0) (qz, cz, nv) aVc aCc aP aGc aYc aN aWc aK aS aT ++ [(q_24, .inl (xI g, nv, .inl (fun j => nI (bz j))))]) := hD
              try dsimp only at hw_69
              refine lv_iload hx hb dL_fill_142 (lv_at hl 0 rfl) ?_
              refine lv_bipush (v := 9) hx hb dL_fill_144 (by decide) ?_
              refine lv_idiv hx hb dL_fill_146 (by decide) ?_
              refine lv_topi (fun v_70 ev => ?_)
              obtain rfl : v_70 = nI (c9 / 9) := ev.trans (nD (a := c9) (d := 9) (by omega) (by decide) (by decide) (by decide))
              refine lv_bipush (v := 7) hx hb dL_fill_147 (by decide) ?_
              refine lv_imul hx hb dL_fill_149 ?_
              refine lv_topi (fun v_71 ev => ?_)
              obtain rfl : v_71 = nI ((c9 / 9) * 7) := ev.trans (pk_mul (c9 / 9) 7)
              refine lv_ishr hx hb dL_fill_150 ?_
              refine lv_topi (fun x_72 ex_72 => ?_)
              refine lv_istore (lv' := [(6, .int x_72), (5, .int (nI c9)), (0, .ref (ad 0)), (1, .ref sb), (2, .int (nI nv)), (3, .int (nI nc)), (4, .ref q_24)]) hx hb dL_fill_151 hl (by decide) rfl (fun ls hl => ?_)
              refine lv_iload hx hb dL_fill_153 (lv_at hl 0 rfl) ?_
              refine lv_iload_n hx hb dL_fill_155 rfl (lv_at hl 4 rfl) ?_
              have hPc := hP.sub (ws' := []) [] rfl
              have hDc := hD.sub (ws' := []) [] (by decide) rfl
              have hFc := xFree hS hA
              refine va_calli (va_runS (As := [.int x_72, .int (nI nv)]) (rest := []) ⟨hx, hb, hml, hown, hts⟩ (l_below l g H.size x_72 nv (by first | assumption | omega) (by first | assumption | omega)) (va_cwS 2 hts gL_fill_L_below rfl rfl rfl (by decide +kernel) ⟨Nat.le_of_ble_eq_true rfl, Nat.le_of_ble_eq_true rfl⟩) ⟨xB.blind, fun U9 hU9 hW9 => ⟨rfl, xB.mk hPc hK hDc hU9 hW9⟩⟩ rfl rfl hl.1 rfl (lv_room (Nat.le_of_ble_eq_true rfl)) dL_fill_156 ⟨Nat.le_of_ble_eq_true rfl, Nat.le_of_ble_eq_true rfl⟩) hS (fun q _ h => hFc q h) hFc (fun r_73 _ t H1 locs ht hvm hw_74 hB hz1 hk1 hS => ?_)
              have hP := xSame hP hk1
              generalize H1 = H at hP hS ⊢
              have hP : va_P (xD g) vwCl (SW g ad ga (.int 0) (.int 0) (qz, cz, nv) aVc aCc aP aGc aYc aN aWc aK aS aT ++ [(q_24, .inl (xI g, nv, .inl (fun j => nI (bz j))))]) H := hP
              have hD : va_D A (SW g ad ga (.int 0) (.int 0) (qz, cz, nv) aVc aCc aP aGc aYc aN aWc aK aS aT ++ [(q_24, .inl (xI g, nv, .inl (fun j => nI (bz j))))]) := hD
              try dsimp only at hw_74
              obtain ⟨k_75, hk_75, rfl⟩ := hw_74
              have hfv := hvf k_75 (by omega)
              unfold vFit at hfv
              have hbv := hbz k_75 (by omega)
              refine lv_istore (lv' := [(7, .int (nI k_75)), (6, .int x_72), (5, .int (nI c9)), (0, .ref (ad 0)), (1, .ref sb), (2, .int (nI nv)), (3, .int (nI nc)), (4, .ref q_24)]) hx hb dL_fill_159 hl (by decide) rfl (fun ls hl => ?_)
              refine lv_aload_n hx hb dL_fill_161 rfl (lv_at hl 3 rfl) ?_
              refine lv_iload hx hb dL_fill_162 (lv_at hl 0 rfl) ?_
              refine lv_iload hx hb dL_fill_164 (lv_at hl 1 rfl) ?_
              refine lv_iconst (v := 2) hx hb dL_fill_166 (by decide) ?_
              refine lv_ishr hx hb dL_fill_167 ?_
              refine lv_topi (fun x_76 ex_76 => ?_)
              refine lv_aload hx hb dL_fill_168 (lv_at hl 7 rfl) ?_
              refine lv_iload hx hb dL_fill_170 (lv_at hl 0 rfl) ?_
              refine va_iald hx hb hK hP 140 0 rfl rfl (vp_in_nI (by omega) (by omega)) dL_fill_172 ?_
              refine lv_topi (fun v_77 ev => ?_)
              obtain rfl : v_77 = nI (bz k_75) := ev.trans (congrArg (fun q9 => nI (bz q9)) (nI_clamp (by omega)))
              have hPc := hP.sub (ws' := []) [] rfl
              have hDc := hD.sub (ws' := []) [] (by decide) rfl
              have hFc := xFree hS hA
              refine va_calli (va_runS (As := [.int x_76, .int (nI (bz k_75))]) (rest := [.int (nI k_75), .ref (ad 0)]) ⟨hx, hb, hml, hown, hts⟩ (l_below l g H.size x_76 (bz k_75) (by first | assumption | omega) (by first | assumption | omega)) (va_cwS 2 hts gL_fill_L_below rfl rfl rfl (by decide +kernel) ⟨Nat.le_of_ble_eq_true rfl, Nat.le_of_ble_eq_true rfl⟩) ⟨xB.blind, fun U9 hU9 hW9 => ⟨rfl, xB.mk hPc hK hDc hU9 hW9⟩⟩ rfl rfl hl.1 rfl (lv_room (Nat.le_of_ble_eq_true rfl)) dL_fill_173 ⟨Nat.le_of_ble_eq_true rfl, Nat.le_of_ble_eq_true rfl⟩) hS (fun q _ h => hFc q h) hFc (fun r_78 _ t H1 locs ht hvm hw_79 hB hz1 hk1 hS => ?_)
              have hP := xSame hP hk1
              generalize H1 = H at hP hS ⊢
              have hP : va_P (xD g) vwCl (SW g ad ga (.int 0) (.int 0) (qz, cz, nv) aVc aCc aP aGc aYc aN aWc aK aS aT ++ [(q_24, .inl (xI g, nv, .inl (fun j => nI (bz j))))]) H := hP
              have hD : va_D A (SW g ad ga (.int 0) (.int 0) (qz, cz, nv) aVc aCc aP aGc aYc aN aWc aK aS aT ++ [(q_24, .inl (xI g, nv, .inl (fun j => nI (bz j))))]) := hD
              try dsimp only at hw_79
              obtain ⟨k_80, hk_80, rfl⟩ := hw_79
              refine lv_iload hx hb dL_fill_176 (lv_at hl 1 rfl) ?_
              refine lv_iconst (v := 5) hx hb dL_fill_178 (by decide) ?_
              refine lv_ishr hx hb dL_fill_179 ?_
              refine lv_topi (fun x_81 ex_81 => ?_)
              refine lv_iconst (v := 2) hx hb dL_fill_180 (by decide) ?_
              have hPc := hP.sub (ws' := []) [] rfl
              have hDc := hD.sub (ws' := []) [] (by decide) rfl
              have hFc := xFree hS hA
              refine va_calli (va_runS (As := [.int x_81, .int 2]) (rest := [.int (nI k_80), .int (nI k_75), .ref (ad 0)]) ⟨hx, hb, hml, hown, hts⟩ (l_below l g H.size x_81 2 (by first | assumption | omega) (by first | assumption | omega)) (va_cwS 2 hts gL_fill_L_below rfl rfl rfl (by decide +kernel) ⟨Nat.le_of_ble_eq_true rfl, Nat.le_of_ble_eq_true rfl⟩) ⟨xB.blind, fun U9 hU9 hW9 => ⟨rfl, xB.mk hPc hK hDc hU9 hW9⟩⟩ rfl rfl hl.1 rfl (lv_room (Nat.le_of_ble_eq_true rfl)) dL_fill_181 ⟨Nat.le_of_ble_eq_true rfl, Nat.le_of_ble_eq_true rfl⟩) hS (fun q _ h => hFc q h) hFc (fun r_82 _ t H1 locs ht hvm hw_83 hB hz1 hk1 hS => ?_)
              have hP := xSame hP hk1
              generalize H1 = H at hP hS ⊢
              have hP : va_P (xD g) vwCl (SW g ad ga (.int 0) (.int 0) (qz, cz, nv) aVc aCc aP aGc aYc aN aWc aK aS aT ++ [(q_24, .inl (xI g, nv, .inl (fun j => nI (bz j))))]) H := hP
              have hD : va_D A (SW g ad ga (.int 0) (.int 0) (qz, cz, nv) aVc aCc aP aGc aYc aN aWc aK aS aT ++ [(q_24, .inl (xI g, nv, .inl (fun j => nI (bz j))))]) := hD
              try dsimp only at hw_83
              obtain ⟨k_84, hk_84, rfl⟩ := hw_83
              refine lv_if_ne (tgt := 191) hx hb dL_fill_184 (by decide) (fun c_85 => ?_) (fun c_85 => ?_)
              · have nc_85 := mt (nI_eq (a := k_84) (b := 0) (by omega) (by omega)).mpr c_85
                refine lv_iconst (v := 0) hx hb dL_fill_191 (by decide) ?_
                refine lv_iconst (v := 1) hx hb dL_fill_192 (by decide) ?_
                refine lv_iload hx hb dL_fill_193 (lv_at hl 1 rfl) ?_
                refine lv_iconst (v := 4) hx hb dL_fill_195 (by decide) ?_
                refine lv_ishr hx hb dL_fill_196 ?_
                refine lv_topi (fun x_86 ex_86 => ?_)
                refine lv_bipush (v := 40) hx hb dL_fill_197 (by decide) ?_
                have hPc := hP.sub (ws' := []) [] rfl
                have hDc := hD.sub (ws' := []) [] (by decide) rfl
                have hFc := xFree hS hA
                refine va_calli (va_runS (As := [.int x_86, .int 40]) (rest := [.int 1, .int 0, .int (nI k_80), .int (nI k_75), .ref (ad 0)]) ⟨hx, hb, hml, hown, hts⟩ (l_below l g H.size x_86 40 (by first | assumption | omega) (by first | assumption | omega)) (va_cwS 2 hts gL_fill_L_below rfl rfl rfl (by decide +kernel) ⟨Nat.le_of_ble_eq_true rfl, Nat.le_of_ble_eq_true rfl⟩) ⟨xB.blind, fun U9 hU9 hW9 => ⟨rfl, xB.mk hPc hK hDc hU9 hW9⟩⟩ rfl rfl hl.1 rfl (lv_room (Nat.le_of_ble_eq_true rfl)) dL_fill_199 ⟨Nat.le_of_ble_eq_true rfl, Nat.le_of_ble_eq_true rfl⟩) hS (fun q _ h => hFc q h) hFc (fun r_87 _ t H1 locs ht hvm hw_88 hB hz1 hk1 hS => ?_)
                have hP := xSame hP hk1
                generalize H1 = H at hP hS ⊢
                have hP : va_P (xD g) vwCl (SW g ad ga (.int 0) (.int 0) (qz, cz, nv) aVc aCc aP aGc aYc aN aWc aK aS aT ++ [(q_24, .inl (xI g, nv, .inl (fun j => nI (bz j))))]) H := hP
                have hD : va_D A (SW g ad ga (.int 0) (.int 0) (qz, cz, nv) aVc aCc aP aGc aYc aN aWc aK aS aT ++ [(q_24, .inl (xI g, nv, .inl (fun j => nI (bz j))))]) := hD
                try dsimp only at hw_88
                obtain ⟨k_89, hk_89, rfl⟩ := hw_88
                refine lv_iadd hx hb dL_fill_202 ?_
                refine lv_topi (fun v_90 ev => ?_)
                obtain rfl : v_90 = nI (1 + k_89) := ev.trans (nI_add 1 k_89)
                refine lv_iload hx hb dL_fill_203 (lv_at hl 1 rfl) ?_
                refine lv_iconst (v := 3) hx hb dL_fill_205 (by decide) ?_
                refine lv_ishr hx hb dL_fill_206 ?_
                refine lv_topi (fun x_91 ex_91 => ?_)
                refine lv_bipush (v := 12) hx hb dL_fill_207 (by decide) ?_
                have hPc := hP.sub (ws' := []) [] rfl
                have hDc := hD.sub (ws' := []) [] (by decide) rfl
                have hFc := xFree hS hA
                refine va_calli (va_runS (As := [.int x_91, .int 12]) (rest := [.int (nI (1 + k_89)), .int 0, .int (nI k_80), .int (nI k_75), .ref (ad 0)]) ⟨hx, hb, hml, hown, hts⟩ (l_below l g H.size x_91 12 (by first | assumption | omega) (by first | assumption | omega)) (va_cwS 2 hts gL_fill_L_below rfl rfl rfl (by decide +kernel) ⟨Nat.le_of_ble_eq_true rfl, Nat.le_of_ble_eq_true rfl⟩) ⟨xB.blind, fun U9 hU9 hW9 => ⟨rfl, xB.mk hPc hK hDc hU9 hW9⟩⟩ rfl rfl hl.1 rfl (lv_room (Nat.le_of_ble_eq_true rfl)) dL_fill_209 ⟨Nat.le_of_ble_eq_true rfl, Nat.le_of_ble_eq_true rfl⟩) hS (fun q _ h => hFc q h) hFc (fun r_92 _ t H1 locs ht hvm hw_93 hB hz1 hk1 hS => ?_)
                have hP := xSame hP hk1
                generalize H1 = H at hP hS ⊢
                have hP : va_P (xD g) vwCl (SW g ad ga (.int 0) (.int 0) (qz, cz, nv) aVc aCc aP aGc aYc aN aWc aK aS aT ++ [(q_24, .inl (xI g, nv, .inl (fun j => nI (bz j))))]) H := hP
                have hD : va_D A (SW g ad ga (.int 0) (.int 0) (qz, cz, nv) aVc aCc aP aGc aYc aN aWc aK aS aT ++ [(q_24, .inl (xI g, nv, .inl (fun j => nI (bz j))))]) := hD
                try dsimp only at hw_93
                obtain ⟨k_94, hk_94, rfl⟩ := hw_93
                have hwv := hwb k_75 k_80
                have hPc := xPl hP
                have hDc := xDl hD
                have hFc := xFl hD hS hA
                refine va_calli (va_runV (As := [.int (nI k_75), .int (nI k_80), .int 0, .int (nI (1 + k_89)), .int (nI k_94)]) (rest := []) ⟨hx, hb, hml, hown, hts⟩ (L_addContainer l g H.size ad ga (.int 0) (.int 0) (qz, cz, nv) aVc aCc aP aGc aYc aN aWc aK aS aT k_75 k_80 0 ((1 + k_89 : Nat) : Int) ((k_94 : Nat) : Int) (show xInv aVc aCc aP aGc aYc aN aWc aK aS aT from by first | assumption | omega) (show (nv) ≤ 6 from by first | assumption | omega) (show k_75 < (nv) from by first | assumption | omega) (show k_80 < (o_Vba aVc) k_75 from by first | assumption | omega) (show 0 = 0 ∨ 0 = 1 from by first | assumption | omega) (show 1 ≤ ((1 + k_89 : Nat) : Int) ∧ ((1 + k_89 : Nat) : Int) ≤ 40 from by first | assumption | omega) (show 0 ≤ ((k_94 : Nat) : Int) ∧ ((k_94 : Nat) : Int) ≤ 15 from by first | assumption | omega) (show (o_n aCc) < 24 from by first | assumption | omega) (show 1 ≤ (o_Vwa aVc) k_75 from by first | assumption | omega) (show (o_wbz aVc) k_75 k_80 ≤ 98 from by first | assumption | omega)) (cwV 5 hts gL_fill_X8_addContainer rfl rfl rfl (by decide +kernel) ⟨Nat.le_of_ble_eq_true rfl, Nat.le_of_ble_eq_true rfl⟩) ⟨xB.blind, va_recv hK hPc (ci := 8) (q0 := 0) rfl rfl, fun U9 hU9 hW9 => ⟨rfl, xB.mk hPc hK hDc hU9 hW9⟩⟩ rfl rfl hl.1 rfl (lv_room (Nat.le_of_ble_eq_true rfl)) dL_fill_212 ⟨Nat.le_of_ble_eq_true rfl, Nat.le_of_ble_eq_true rfl⟩) hS (fun q _ h => hFc q h) hFc (fun r_95 _ t H1 locs ht hvm hw_96 hB hz1 hk1 hS => ?_)
                obtain ⟨aV2_97, aC2_98, aG2_99, aY2_100, aW2_101, hc_102, hP1, hK1, hD1⟩ := hB
                rw [ht] at hP1
                have hInv : xInv aV2_97 aC2_98 aP aG2_99 aY2_100 aN aW2_101 aK aS aT := hc_102.1
                have hrel : vCon aVc k_75 k_80 aV2_97 ∧ o_sc aY2_100 = o_sc aYc ∧ aC2_98 = (o_n aCc + 1, nV (o_cve aCc) (o_n aCc) k_75, nV (o_cba aCc) (o_n aCc) k_80, zU (o_cex aCc) (o_n aCc) 0, zU (o_cwt aCc) (o_n aCc) ((1 + k_89 : Nat) : Int), zU (o_cwi aCc) (o_n aCc) ((k_94 : Nat) : Int), o_rmz aCc) := hc_102.2
                obtain ⟨hP, hD⟩ := xJl hP hD hk1 hFc hP1 hD1
                generalize H1 = H at hP hS ⊢
                have hP : va_P (xD g) vwCl (SW g ad ga (.int 0) (.int 0) (qz, cz, nv) aV2_97 aC2_98 aP aG2_99 aY2_100 aN aW2_101 aK aS aT ++ [(q_24, .inl (xI g, nv, .inl (fun j => nI (bz j))))]) H := hP
                have hD : va_D A (SW g ad ga (.int 0) (.int 0) (qz, cz, nv) aV2_97 aC2_98 aP aG2_99 aY2_100 aN aW2_101 aK aS aT ++ [(q_24, .inl (xI g, nv, .inl (fun j => nI (bz j))))]) := hD
                try dsimp only at hw_96
                obtain rfl : r_95 = nI (o_n aCc) := hw_96
                obtain ⟨hg1, hg2, hg3⟩ := vCon_fit hrel.1 hvf
                have hC9 := hrel.2.2
                have hcn2 : o_n aC2_98 = c9 + 1 := by rw [hC9]; show _ + 1 = _; rw [hcn]
                have hcs2 : ∀ x, x < c9 + 1 → o_cve aC2_98 x < nv ∧ o_cba aC2_98 x < o_Vba aV2_97 (o_cve aC2_98 x) := by intro x hx; rw [hC9, hg2]; dsimp only [o_cve, o_cba]; simp only [nV, hcn]; by_cases q : x = c9; (rw [if_pos q, if_pos q]; exact ⟨by omega, by omega⟩); (rw [if_neg q, if_neg q]; exact hcs x (by omega))
                refine lv_pop hx hb dL_fill_215 rfl ?_
                refine lv_iinc (v := nI (c9 + 1)) (lv' := [(5, .int (nI (c9 + 1))), (7, .int (nI k_75)), (6, .int x_72), (0, .ref (ad 0)), (1, .ref sb), (2, .int (nI nv)), (3, .int (nI nc)), (4, .ref q_24)]) hx hb dL_fill_216 hl (k := 2) rfl (nI_add c9 1) (by decide) rfl (fun ls hl => ?_)
                refine lv_goto (tgt := 125) hx hb dL_fill_219 (by decide) ?_
                exact ih125 (c9 + 1) aV2_97 aC2_98 aG2_99 aY2_100 aW2_101 _ _ _ (by omega) (by omega) hInv hcn2 hg1 (fun v hv => by rw [hg2]; exact hbz v hv) hcs2 (fun x y => by have z1 := hg3 x y; have z2 := hwb x y; omega) (by rw [hrel.2.1]; exact hsc) hP hD hS (lv_sub hl [0, 3, 4, 5, 6, 7] rfl)
              · have nc_85 := (nI_eq (a := k_84) (b := 0) (by omega) (by omega)).mp c_85
                refine lv_iconst (v := 1) hx hb dL_fill_187 (by decide) ?_
                refine lv_goto (tgt := 192) hx hb dL_fill_188 (by decide) ?_
                refine lv_iconst (v := 1) hx hb dL_fill_192 (by decide) ?_
                refine lv_iload hx hb dL_fill_193 (lv_at hl 1 rfl) ?_
                refine lv_iconst (v := 4) hx hb dL_fill_195 (by decide) ?_
                refine lv_ishr hx hb dL_fill_196 ?_
                refine lv_topi (fun x_103 ex_103 => ?_)
                refine lv_bipush (v := 40) hx hb dL_fill_197 (by decide) ?_
                have hPc := hP.sub (ws' := []) [] rfl
                have hDc := hD.sub (ws' := []) [] (by decide) rfl
                have hFc := xFree hS hA
                refine va_calli (va_runS (As := [.int x_103, .int 40]) (rest := [.int 1, .int 1, .int (nI k_80), .int (nI k_75), .ref (ad 0)]) ⟨hx, hb, hml, hown, hts⟩ (l_below l g H.size x_103 40 (by first | assumption | omega) (by first | assumption | omega)) (va_cwS 2 hts gL_fill_L_below rfl rfl rfl (by decide +kernel) ⟨Nat.le_of_ble_eq_true rfl, Nat.le_of_ble_eq_true rfl⟩) ⟨xB.blind, fun U9 hU9 hW9 => ⟨rfl, xB.mk hPc hK hDc hU9 hW9⟩⟩ rfl rfl hl.1 rfl (lv_room (Nat.le_of_ble_eq_true rfl)) dL_fill_199 ⟨Nat.le_of_ble_eq_true rfl, Nat.le_of_ble_eq_true rfl⟩) hS (fun q _ h => hFc q h) hFc (fun r_104 _ t H1 locs ht hvm hw_105 hB hz1 hk1 hS => ?_)
                have hP := xSame hP hk1
                generalize H1 = H at hP hS ⊢
                have hP : va_P (xD g) vwCl (SW g ad ga (.int 0) (.int 0) (qz, cz, nv) aVc aCc aP aGc aYc aN aWc aK aS aT ++ [(q_24, .inl (xI g, nv, .inl (fun j => nI (bz j))))]) H := hP
                have hD : va_D A (SW g ad ga (.int 0) (.int 0) (qz, cz, nv) aVc aCc aP aGc aYc aN aWc aK aS aT ++ [(q_24, .inl (xI g, nv, .inl (fun j => nI (bz j))))]) := hD
                try dsimp only at hw_105
                obtain ⟨k_106, hk_106, rfl⟩ := hw_105
                refine lv_iadd hx hb dL_fill_202 ?_
                refine lv_topi (fun v_107 ev => ?_)
                obtain rfl : v_107 = nI (1 + k_106) := ev.trans (nI_add 1 k_106)
                refine lv_iload hx hb dL_fill_203 (lv_at hl 1 rfl) ?_
                refine lv_iconst (v := 3) hx hb dL_fill_205 (by decide) ?_
                refine lv_ishr hx hb dL_fill_206 ?_
                refine lv_topi (fun x_108 ex_108 => ?_)
                refine lv_bipush (v := 12) hx hb dL_fill_207 (by decide) ?_
                have hPc := hP.sub (ws' := []) [] rfl
                have hDc := hD.sub (ws' := []) [] (by decide) rfl
                have hFc := xFree hS hA
                refine va_calli (va_runS (As := [.int x_108, .int 12]) (rest := [.int (nI (1 + k_106)), .int 1, .int (nI k_80), .int (nI k_75), .ref (ad 0)]) ⟨hx, hb, hml, hown, hts⟩ (l_below l g H.size x_108 12 (by first | assumption | omega) (by first | assumption | omega)) (va_cwS 2 hts gL_fill_L_below rfl rfl rfl (by decide +kernel) ⟨Nat.le_of_ble_eq_true rfl, Nat.le_of_ble_eq_true rfl⟩) ⟨xB.blind, fun U9 hU9 hW9 => ⟨rfl, xB.mk hPc hK hDc hU9 hW9⟩⟩ rfl rfl hl.1 rfl (lv_room (Nat.le_of_ble_eq_true rfl)) dL_fill_209 ⟨Nat.le_of_ble_eq_true rfl, Nat.le_of_ble_eq_true rfl⟩) hS (fun q _ h => hFc q h) hFc (fun r_109 _ t H1 locs ht hvm hw_110 hB hz1 hk1 hS => ?_)
                have hP := xSame hP hk1
                generalize H1 = H at hP hS ⊢
                have hP : va_P (xD g) vwCl (SW g ad ga (.int 0) (.int 0) (qz, cz, nv) aVc aCc aP aGc aYc aN aWc aK aS aT ++ [(q_24, .inl (xI g, nv, .inl (fun j => nI (bz j))))]) H := hP
                have hD : va_D A (SW g ad ga (.int 0) (.int 0) (qz, cz, nv) aVc aCc aP aGc aYc aN aWc aK aS aT ++ [(q_24, .inl (xI g, nv, .inl (fun j => nI (bz j))))]) := hD
                try dsimp only at hw_110
                obtain ⟨k_111, hk_111, rfl⟩ := hw_110
                have hwv := hwb k_75 k_80
                have hPc := xPl hP
                have hDc := xDl hD
                have hFc := xFl hD hS hA
                refine va_calli (va_runV (As := [.int (nI k_75), .int (nI k_80), .int 1, .int (nI (1 + k_106)), .int (nI k_111)]) (rest := []) ⟨hx, hb, hml, hown, hts⟩ (L_addContainer l g H.size ad ga (.int 0) (.int 0) (qz, cz, nv) aVc aCc aP aGc aYc aN aWc aK aS aT k_75 k_80 1 ((1 + k_106 : Nat) : Int) ((k_111 : Nat) : Int) (show xInv aVc aCc aP aGc aYc aN aWc aK aS aT from by first | assumption | omega) (show (nv) ≤ 6 from by first | assumption | omega) (show k_75 < (nv) from by first | assumption | omega) (show k_80 < (o_Vba aVc) k_75 from by first | assumption | omega) (show 1 = 0 ∨ 1 = 1 from by first | assumption | omega) (show 1 ≤ ((1 + k_106 : Nat) : Int) ∧ ((1 + k_106 : Nat) : Int) ≤ 40 from by first | assumption | omega) (show 0 ≤ ((k_111 : Nat) : Int) ∧ ((k_111 : Nat) : Int) ≤ 15 from by first | assumption | omega) (show (o_n aCc) < 24 from by first | assumption | omega) (show 1 ≤ (o_Vwa aVc) k_75 from by first | assumption | omega) (show (o_wbz aVc) k_75 k_80 ≤ 98 from by first | assumption | omega)) (cwV 5 hts gL_fill_X8_addContainer rfl rfl rfl (by decide +kernel) ⟨Nat.le_of_ble_eq_true rfl, Nat.le_of_ble_eq_true rfl⟩) ⟨xB.blind, va_recv hK hPc (ci := 8) (q0 := 0) rfl rfl, fun U9 hU9 hW9 => ⟨rfl, xB.mk hPc hK hDc hU9 hW9⟩⟩ rfl rfl hl.1 rfl (lv_room (Nat.le_of_ble_eq_true rfl)) dL_fill_212 ⟨Nat.le_of_ble_eq_true rfl, Nat.le_of_ble_eq_true rfl⟩) hS (fun q _ h => hFc q h) hFc (fun r_112 _ t H1 locs ht hvm hw_113 hB hz1 hk1 hS => ?_)
                obtain ⟨aV2_114, aC2_115, aG2_116, aY2_117, aW2_118, hc_119, hP1, hK1, hD1⟩ := hB
                rw [ht] at hP1
                have hInv : xInv aV2_114 aC2_115 aP aG2_116 aY2_117 aN aW2_118 aK aS aT := hc_119.1
                have hrel : vCon aVc k_75 k_80 aV2_114 ∧ o_sc aY2_117 = o_sc aYc ∧ aC2_115 = (o_n aCc + 1, nV (o_cve aCc) (o_n aCc) k_75, nV (o_cba aCc) (o_n aCc) k_80, zU (o_cex aCc) (o_n aCc) 1, zU (o_cwt aCc) (o_n aCc) ((1 + k_106 : Nat) : Int), zU (o_cwi aCc) (o_n aCc) ((k_111 : Nat) : Int), o_rmz aCc) := hc_119.2
                obtain ⟨hP, hD⟩ := xJl hP hD hk1 hFc hP1 hD1
                generalize H1 = H at hP hS ⊢
                have hP : va_P (xD g) vwCl (SW g ad ga (.int 0) (.int 0) (qz, cz, nv) aV2_114 aC2_115 aP aG2_116 aY2_117 aN aW2_118 aK aS aT ++ [(q_24, .inl (xI g, nv, .inl (fun j => nI (bz j))))]) H := hP
                have hD : va_D A (SW g ad ga (.int 0) (.int 0) (qz, cz, nv) aV2_114 aC2_115 aP aG2_116 aY2_117 aN aW2_118 aK aS aT ++ [(q_24, .inl (xI g, nv, .inl (fun j => nI (bz j))))]) := hD
                try dsimp only at hw_113
                obtain rfl : r_112 = nI (o_n aCc) := hw_113
                obtain ⟨hg1, hg2, hg3⟩ := vCon_fit hrel.1 hvf
                have hC9 := hrel.2.2
                have hcn2 : o_n aC2_115 = c9 + 1 := by rw [hC9]; show _ + 1 = _; rw [hcn]
                have hcs2 : ∀ x, x < c9 + 1 → o_cve aC2_115 x < nv ∧ o_cba aC2_115 x < o_Vba aV2_114 (o_cve aC2_115 x) := by intro x hx; rw [hC9, hg2]; dsimp only [o_cve, o_cba]; simp only [nV, hcn]; by_cases q : x = c9; (rw [if_pos q, if_pos q]; exact ⟨by omega, by omega⟩); (rw [if_neg q, if_neg q]; exact hcs x (by omega))
                refine lv_pop hx hb dL_fill_215 rfl ?_
                refine lv_iinc (v := nI (c9 + 1)) (lv' := [(5, .int (nI (c9 + 1))), (7, .int (nI k_75)), (6, .int x_72), (0, .ref (ad 0)), (1, .ref sb), (2, .int (nI nv)), (3, .int (nI nc)), (4, .ref q_24)]) hx hb dL_fill_216 hl (k := 2) rfl (nI_add c9 1) (by decide) rfl (fun ls hl => ?_)
                refine lv_goto (tgt := 125) hx hb dL_fill_219 (by decide) ?_
                exact ih125 (c9 + 1) aV2_114 aC2_115 aG2_116 aY2_117 aW2_118 _ _ _ (by omega) (by omega) hInv hcn2 hg1 (fun v hv => by rw [hg2]; exact hbz v hv) hcs2 (fun x y => by have z1 := hg3 x y; have z2 := hwb x y; omega) (by rw [hrel.2.1]; exact hsc) hP hD hS (lv_sub hl [0, 3, 4, 5, 6, 7] rfl)
        exact hloop125 (nc + 1) 0 aVk aC aGk aYk aWk _ _ _ (by omega) (Nat.zero_le _) hInv hn0 hvf hbz (fun x hx => absurd hx (Nat.not_lt_zero _)) (fun x y => by have z := hwb x y; omega) hsc hP hD hS (by rw [(show nI 0 = (0 : Int32) from by decide)]; exact lv_sub hl [0, 1, 2, 3, 4, 5] rfl)
      · have nc_25 := mt (nI_leI (a := nv) (b := k) (by omega) (by omega)).mpr c_25
        refine lv_aload_n hx hb dL_fill_50 rfl (lv_at hl 2 rfl) ?_
        refine lv_iconst (v := 1) hx hb dL_fill_51 (by decide) ?_
        refine lv_iload hx hb dL_fill_52 (lv_at hl 0 rfl) ?_
        refine lv_iadd hx hb dL_fill_54 ?_
        refine lv_topi (fun v_120 ev => ?_)
        obtain rfl : v_120 = nI (1 + k) := ev.trans (nI_add 1 k)
        have hPc := hP.sub (ws' := []) [] rfl
        have hDc := hD.sub (ws' := []) [] (by decide) rfl
        have hFc := xFree hS hA
        refine va_calli (va_runS (As := [.ref sb, .int (nI (1 + k))]) (rest := []) ⟨hx, hb, hml, hown, hts⟩ (l_cell l g H.size sb Ls xs (1 + k) (by first | assumption | omega) (by first | assumption | omega)) (va_cwS 2 hts gL_fill_L_cell rfl rfl rfl (by decide +kernel) ⟨Nat.le_of_ble_eq_true rfl, Nat.le_of_ble_eq_true rfl⟩) ⟨xBS.blind, fun U9 hU9 hW9 => ⟨rfl, xB.mk hPc hK hDc hU9 hW9, hX.call hS hFc hU9 hW9⟩⟩ rfl rfl hl.1 rfl (lv_room (Nat.le_of_ble_eq_true rfl)) dL_fill_55 ⟨Nat.le_of_ble_eq_true rfl, Nat.le_of_ble_eq_true rfl⟩) hS (fun q _ h => hFc q h) hFc (fun r_121 _ t H1 locs ht hvm hw_122 hB hz1 hk1 hS => ?_)
        have hP := xSame hP hk1
        generalize H1 = H at hP hS ⊢
        have hP : va_P (xD g) vwCl (SW g ad ga (.int 0) (.int 0) (qz, cz, k) aVk aC aP aGk aYk aN aWk aK aS aT ++ [(q_24, .inl (xI g, nv, .inl (fun j => nI (bz j))))]) H := hP
        have hD : va_D A (SW g ad ga (.int 0) (.int 0) (qz, cz, k) aVk aC aP aGk aYk aN aWk aK aS aT ++ [(q_24, .inl (xI g, nv, .inl (fun j => nI (bz j))))]) := hD
        try dsimp only at hw_122
        refine lv_istore (lv' := [(6, .int r_121), (5, .int (nI k)), (0, .ref (ad 0)), (1, .ref sb), (2, .int (nI nv)), (3, .int (nI nc)), (4, .ref q_24)]) hx hb dL_fill_58 hl (by decide) rfl (fun ls hl => ?_)
        refine lv_aload hx hb dL_fill_60 (lv_at hl 6 rfl) ?_
        refine lv_iload hx hb dL_fill_62 (lv_at hl 1 rfl) ?_
        refine lv_iconst (v := 1) hx hb dL_fill_64 (by decide) ?_
        refine lv_iload hx hb dL_fill_65 (lv_at hl 0 rfl) ?_
        refine lv_iconst (v := 5) hx hb dL_fill_67 (by decide) ?_
        refine lv_ishr hx hb dL_fill_68 ?_
        refine lv_topi (fun x_123 ex_123 => ?_)
        refine lv_bipush (v := 6) hx hb dL_fill_69 (by decide) ?_
        have hPc := hP.sub (ws' := []) [] rfl
        have hDc := hD.sub (ws' := []) [] (by decide) rfl
        have hFc := xFree hS hA
        refine va_calli (va_runS (As := [.int x_123, .int 6]) (rest := [.int 1, .int (nI k), .ref q_24]) ⟨hx, hb, hml, hown, hts⟩ (l_below l g H.size x_123 6 (by first | assumption | omega) (by first | assumption | omega)) (va_cwS 2 hts gL_fill_L_below rfl rfl rfl (by decide +kernel) ⟨Nat.le_of_ble_eq_true rfl, Nat.le_of_ble_eq_true rfl⟩) ⟨xB.blind, fun U9 hU9 hW9 => ⟨rfl, xB.mk hPc hK hDc hU9 hW9⟩⟩ rfl rfl hl.1 rfl (lv_room (Nat.le_of_ble_eq_true rfl)) dL_fill_71 ⟨Nat.le_of_ble_eq_true rfl, Nat.le_of_ble_eq_true rfl⟩) hS (fun q _ h => hFc q h) hFc (fun r_124 _ t H1 locs ht hvm hw_125 hB hz1 hk1 hS => ?_)
        have hP := xSame hP hk1
        generalize H1 = H at hP hS ⊢
        have hP : va_P (xD g) vwCl (SW g ad ga (.int 0) (.int 0) (qz, cz, k) aVk aC aP aGk aYk aN aWk aK aS aT ++ [(q_24, .inl (xI g, nv, .inl (fun j => nI (bz j))))]) H := hP
        have hD : va_D A (SW g ad ga (.int 0) (.int 0) (qz, cz, k) aVk aC aP aGk aYk aN aWk aK aS aT ++ [(q_24, .inl (xI g, nv, .inl (fun j => nI (bz j))))]) := hD
        try dsimp only at hw_125
        obtain ⟨k_126, hk_126, rfl⟩ := hw_125
        refine lv_iadd hx hb dL_fill_74 ?_
        refine lv_topi (fun v_127 ev => ?_)
        obtain rfl : v_127 = nI (1 + k_126) := ev.trans (nI_add 1 k_126)
        refine va_iast (x := nI (1 + k_126)) hx hb hK hP hD hS 140 0 rfl rfl (vp_in_nI (by omega) (by omega)) dL_fill_75 (fun H locs hP hD hS => ?_)
        rw [nU (f := bz) (k := k) (v := 1 + k_126) (nI_clamp (by omega)) rfl] at hP hD
        have hP : va_P (xD g) vwCl (SW g ad ga (.int 0) (.int 0) (qz, cz, k) aVk aC aP aGk aYk aN aWk aK aS aT ++ [(q_24, .inl (xI g, nv, .inl (fun j => nI ((nV bz k (1 + k_126)) j))))]) H := hP
        have hD : va_D A (SW g ad ga (.int 0) (.int 0) (qz, cz, k) aVk aC aP aGk aYk aN aWk aK aS aT ++ [(q_24, .inl (xI g, nv, .inl (fun j => nI ((nV bz k (1 + k_126)) j))))]) := hD
        refine lv_aload_n hx hb dL_fill_76 rfl (lv_at hl 2 rfl) ?_
        refine lv_iload hx hb dL_fill_77 (lv_at hl 0 rfl) ?_
        refine lv_bipush (v := 60) hx hb dL_fill_79 (by decide) ?_
        have hPc := hP.sub (ws' := []) [] rfl
        have hDc := hD.sub (ws' := []) [] (by decide) rfl
        have hFc := xFree hS hA
        refine va_calli (va_runS (As := [.int r_121, .int 60]) (rest := [.ref (ad 0)]) ⟨hx, hb, hml, hown, hts⟩ (l_below l g H.size r_121 60 (by first | assumption | omega) (by first | assumption | omega)) (va_cwS 2 hts gL_fill_L_below rfl rfl rfl (by decide +kernel) ⟨Nat.le_of_ble_eq_true rfl, Nat.le_of_ble_eq_true rfl⟩) ⟨xB.blind, fun U9 hU9 hW9 => ⟨rfl, xB.mk hPc hK hDc hU9 hW9⟩⟩ rfl rfl hl.1 rfl (lv_room (Nat.le_of_ble_eq_true rfl)) dL_fill_81 ⟨Nat.le_of_ble_eq_true rfl, Nat.le_of_ble_eq_true rfl⟩) hS (fun q _ h => hFc q h) hFc (fun r_128 _ t H1 locs ht hvm hw_129 hB hz1 hk1 hS => ?_)
        have hP := xSame hP hk1
        generalize H1 = H at hP hS ⊢
        have hP : va_P (xD g) vwCl (SW g ad ga (.int 0) (.int 0) (qz, cz, k) aVk aC aP aGk aYk aN aWk aK aS aT ++ [(q_24, .inl (xI g, nv, .inl (fun j => nI ((nV bz k (1 + k_126)) j))))]) H := hP
        have hD : va_D A (SW g ad ga (.int 0) (.int 0) (qz, cz, k) aVk aC aP aGk aYk aN aWk aK aS aT ++ [(q_24, .inl (xI g, nv, .inl (fun j => nI ((nV bz k (1 + k_126)) j))))]) := hD
        try dsimp only at hw_129
        obtain ⟨k_130, hk_130, rfl⟩ := hw_129
        refine lv_aload hx hb dL_fill_84 (lv_at hl 6 rfl) ?_
        refine lv_iload hx hb dL_fill_86 (lv_at hl 1 rfl) ?_
        refine va_iald hx hb hK hP 140 0 rfl rfl (vp_in_nI (by omega) (by omega)) dL_fill_88 ?_
        refine lv_topi (fun v_131 ev => ?_)
        obtain rfl : v_131 = nI ((nV bz k (1 + k_126)) k) := ev.trans (congrArg (fun q9 => nI ((nV bz k (1 + k_126)) q9)) (nI_clamp (by omega)))
        rw [show nI ((nV bz k (1 + k_126)) k) = nI (1 + k_126) from by simp only [nV, if_true]]
        refine lv_iconst (v := 1) hx hb dL_fill_89 (by decide) ?_
        refine lv_iload hx hb dL_fill_90 (lv_at hl 0 rfl) ?_
        refine lv_bipush (v := 8) hx hb dL_fill_92 (by decide) ?_
        refine lv_ishr hx hb dL_fill_94 ?_
        refine lv_topi (fun x_132 ex_132 => ?_)
        refine lv_bipush (v := 9) hx hb dL_fill_95 (by decide) ?_
        have hPc := hP.sub (ws' := []) [] rfl
        have hDc := hD.sub (ws' := []) [] (by decide) rfl
        have hFc := xFree hS hA
        refine va_calli (va_runS (As := [.int x_132, .int 9]) (rest := [.int 1, .int (nI (1 + k_126)), .int (nI k_130), .ref (ad 0)]) ⟨hx, hb, hml, hown, hts⟩ (l_below l g H.size x_132 9 (by first | assumption | omega) (by first | assumption | omega)) (va_cwS 2 hts gL_fill_L_below rfl rfl rfl (by decide +kernel) ⟨Nat.le_of_ble_eq_true rfl, Nat.le_of_ble_eq_true rfl⟩) ⟨xB.blind, fun U9 hU9 hW9 => ⟨rfl, xB.mk hPc hK hDc hU9 hW9⟩⟩ rfl rfl hl.1 rfl (lv_room (Nat.le_of_ble_eq_true rfl)) dL_fill_97 ⟨Nat.le_of_ble_eq_true rfl, Nat.le_of_ble_eq_true rfl⟩) hS (fun q _ h => hFc q h) hFc (fun r_133 _ t H1 locs ht hvm hw_134 hB hz1 hk1 hS => ?_)
        have hP := xSame hP hk1
        generalize H1 = H at hP hS ⊢
        have hP : va_P (xD g) vwCl (SW g ad ga (.int 0) (.int 0) (qz, cz, k) aVk aC aP aGk aYk aN aWk aK aS aT ++ [(q_24, .inl (xI g, nv, .inl (fun j => nI ((nV bz k (1 + k_126)) j))))]) H := hP
        have hD : va_D A (SW g ad ga (.int 0) (.int 0) (qz, cz, k) aVk aC aP aGk aYk aN aWk aK aS aT ++ [(q_24, .inl (xI g, nv, .inl (fun j => nI ((nV bz k (1 + k_126)) j))))]) := hD
        try dsimp only at hw_134
        obtain ⟨k_135, hk_135, rfl⟩ := hw_134
        refine lv_iadd hx hb dL_fill_100 ?_
        refine lv_topi (fun v_136 ev => ?_)
        obtain rfl : v_136 = nI (1 + k_135) := ev.trans (nI_add 1 k_135)
        refine lv_iconst (v := 1) hx hb dL_fill_101 (by decide) ?_
        refine lv_iload hx hb dL_fill_102 (lv_at hl 0 rfl) ?_
        refine lv_bipush (v := 11) hx hb dL_fill_104 (by decide) ?_
        refine lv_ishr hx hb dL_fill_106 ?_
        refine lv_topi (fun x_137 ex_137 => ?_)
        refine lv_iconst (v := 3) hx hb dL_fill_107 (by decide) ?_
        have hPc := hP.sub (ws' := []) [] rfl
        have hDc := hD.sub (ws' := []) [] (by decide) rfl
        have hFc := xFree hS hA
        refine va_calli (va_runS (As := [.int x_137, .int 3]) (rest := [.int 1, .int (nI (1 + k_135)), .int (nI (1 + k_126)), .int (nI k_130), .ref (ad 0)]) ⟨hx, hb, hml, hown, hts⟩ (l_below l g H.size x_137 3 (by first | assumption | omega) (by first | assumption | omega)) (va_cwS 2 hts gL_fill_L_below rfl rfl rfl (by decide +kernel) ⟨Nat.le_of_ble_eq_true rfl, Nat.le_of_ble_eq_true rfl⟩) ⟨xB.blind, fun U9 hU9 hW9 => ⟨rfl, xB.mk hPc hK hDc hU9 hW9⟩⟩ rfl rfl hl.1 rfl (lv_room (Nat.le_of_ble_eq_true rfl)) dL_fill_108 ⟨Nat.le_of_ble_eq_true rfl, Nat.le_of_ble_eq_true rfl⟩) hS (fun q _ h => hFc q h) hFc (fun r_138 _ t H1 locs ht hvm hw_139 hB hz1 hk1 hS => ?_)
        have hP := xSame hP hk1
        generalize H1 = H at hP hS ⊢
        have hP : va_P (xD g) vwCl (SW g ad ga (.int 0) (.int 0) (qz, cz, k) aVk aC aP aGk aYk aN aWk aK aS aT ++ [(q_24, .inl (xI g, nv, .inl (fun j => nI ((nV bz k (1 + k_126)) j))))]) H := hP
        have hD : va_D A (SW g ad ga (.int 0) (.int 0) (qz, cz, k) aVk aC aP aGk aYk aN aWk aK aS aT ++ [(q_24, .inl (xI g, nv, .inl (fun j => nI ((nV bz k (1 + k_126)) j))))]) := hD
        try dsimp only at hw_139
        obtain ⟨k_140, hk_140, rfl⟩ := hw_139
        refine lv_iadd hx hb dL_fill_111 ?_
        refine lv_topi (fun v_141 ev => ?_)
        obtain rfl : v_141 = nI (1 + k_140) := ev.trans (nI_add 1 k_140)
        have hPc := xPl hP
        have hDc := xDl hD
        have hFc := xFl hD hS hA
        refine va_calli (va_runV (As := [.int (nI k_130), .int (nI (1 + k_126)), .int (nI (1 + k_135)), .int (nI (1 + k_140))]) (rest := []) ⟨hx, hb, hml, hown, hts⟩ (L_addVessel l g H.size ad ga (.int 0) (.int 0) (qz, cz, k) aVk aC aP aGk aYk aN aWk aK aS aT ((k_130 : Nat) : Int) ((1 + k_135 : Nat) : Int) (1 + k_126) (1 + k_140) (show xInv aVk aC aP aGk aYk aN aWk aK aS aT from by first | assumption | omega) (show (k) < 6 from by first | assumption | omega) (show 0 ≤ ((k_130 : Nat) : Int) ∧ ((k_130 : Nat) : Int) ≤ 400 from by first | assumption | omega) (show 1 ≤ (1 + k_126) ∧ (1 + k_126) ≤ 10 from by first | assumption | omega) (show 1 ≤ ((1 + k_135 : Nat) : Int) ∧ ((1 + k_135 : Nat) : Int) ≤ 9 from by first | assumption | omega) (show 1 ≤ (1 + k_140) ∧ (1 + k_140) ≤ 4 from by first | assumption | omega)) (cwV 4 hts gL_fill_X8_addVessel rfl rfl rfl (by decide +kernel) ⟨Nat.le_of_ble_eq_true rfl, Nat.le_of_ble_eq_true rfl⟩) ⟨xB.blind, va_recv hK hPc (ci := 8) (q0 := 0) rfl rfl, fun U9 hU9 hW9 => ⟨rfl, xB.mk hPc hK hDc hU9 hW9⟩⟩ rfl rfl hl.1 rfl (lv_room (Nat.le_of_ble_eq_true rfl)) dL_fill_112 ⟨Nat.le_of_ble_eq_true rfl, Nat.le_of_ble_eq_true rfl⟩) hS (fun q _ h => hFc q h) hFc (fun r_142 _ t H1 locs ht hvm hw_143 hB hz1 hk1 hS => ?_)
        obtain ⟨aV2_144, aG2_145, aY2_146, aW2_147, hc_148, hP1, hK1, hD1⟩ := hB
        rw [ht] at hP1
        have hInv : xInv aV2_144 aC aP aG2_145 aY2_146 aN aW2_147 aK aS aT := hc_148.1
        have hrel : vAdd aVk (k) ((k_130 : Nat) : Int) (1 + k_126) ((1 + k_135 : Nat) : Int) (1 + k_140) aV2_144 ∧ o_sc aY2_146 = o_sc aYk := hc_148.2
        obtain ⟨hP, hD⟩ := xJl hP hD hk1 hFc hP1 hD1
        generalize H1 = H at hP hS ⊢
        have hP : va_P (xD g) vwCl (SW g ad ga (.int 0) (.int 0) (qz, cz, (k) + 1) aV2_144 aC aP aG2_145 aY2_146 aN aW2_147 aK aS aT ++ [(q_24, .inl (xI g, nv, .inl (fun j => nI ((nV bz k (1 + k_126)) j))))]) H := hP
        have hD : va_D A (SW g ad ga (.int 0) (.int 0) (qz, cz, (k) + 1) aV2_144 aC aP aG2_145 aY2_146 aN aW2_147 aK aS aT ++ [(q_24, .inl (xI g, nv, .inl (fun j => nI ((nV bz k (1 + k_126)) j))))]) := hD
        try dsimp only at hw_143
        obtain ⟨hf1, hf2, hf3, hf4⟩ := vAdd_fit hrel.1 (by omega) (by omega) hvf
        refine lv_pop hx hb dL_fill_115 rfl ?_
        refine lv_iinc (v := nI (k + 1)) (lv' := [(5, .int (nI (k + 1))), (6, .int r_121), (0, .ref (ad 0)), (1, .ref sb), (2, .int (nI nv)), (3, .int (nI nc)), (4, .ref q_24)]) hx hb dL_fill_116 hl (k := 1) rfl (nI_add k 1) (by decide) rfl (fun ls hl => ?_)
        refine lv_goto (tgt := 44) hx hb dL_fill_119 (by decide) ?_
        exact ih44 (k + 1) qz cz aV2_144 aG2_145 aY2_146 aW2_147 (nV bz k (1 + k_126)) _ _ _ (by omega) (by omega) hqz hcz hInv hf1 (fun v hv => by simp only [nV]; by_cases q : v = k; (rw [if_pos q, q]; exact hf3.symm); (rw [if_neg q, hf2 v q]; exact hbz v (by omega))) (by rw [hf4]; exact hwb) (by rw [hrel.2]; exact hsc) hP hD hS (lv_sub hl [0, 2, 3, 4, 5, 6] rfl)
  exact hloop44 (nv + 1) 0 (12 + k_5) (3 + k_17) aV aG2_21 aY2_22 aW (fun (_ : Nat) => (0 : Nat)) _ _ _ (by omega) (Nat.zero_le _) (by omega) (by omega) hInv (fun v hv => absurd hv (Nat.not_lt_zero _)) (fun v hv => absurd hv (Nat.not_lt_zero _)) hwb0 (by omega) hP hD hS (by rw [(show nI 0 = (0 : Int32) from by decide)]; exact lv_sub hl [0, 2, 3, 4, 5, 1] rfl)
