theorem goodIn_co {big b : List Cond} {c : Cond} (ha : GoodIn big [c]) (hb : GoodIn big b) : GoodIn big (c :: b) := fun w h => (List.mem_cons.mp h).elim (fun e => ha w (by rw [e]; exact List.mem_cons_self)) (hb w)
set_option maxRecDepth 20000 in
theorem ggL_checks_X1_foretold : GoodIn wsL_checks wsX1_foretold := goodIn_r _ [6, 7, 140, 141, 142, 143, 144, 145, 146, 147, 148, 149, 150, 151, 152, 153, 154] (by decide +kernel) (by decide +kernel)
set_option maxRecDepth 20000 in
theorem gL_checks_X1_foretold : GoodIn wsL_checks (wsV RL 38 RX1 yX1_foretold wsX1_foretold) := goodIn_app (goodIn_of _ (by decide +kernel)) ggL_checks_X1_foretold
set_option maxRecDepth 20000 in
theorem ggL_checks_X1_shift : GoodIn wsL_checks wsX1_shift := goodIn_r _ [11, 12, 140, 141, 142, 143, 144, 145, 146, 147, 148, 149, 150, 151, 152, 153, 154] (by decide +kernel) (by decide +kernel)
set_option maxRecDepth 20000 in
theorem gL_checks_X1_shift : GoodIn wsL_checks (wsV RL 52 RX1 yX1_shift wsX1_shift) := goodIn_app (goodIn_of _ (by decide +kernel)) ggL_checks_X1_shift
set_option maxRecDepth 20000 in
theorem ggL_checks_X1_stateOf : GoodIn wsL_checks wsX1_stateOf := goodIn_ca (goodIn_r _ [16, 17, 18, 19, 20, 21, 22, 5, 23, 7, 24, 25, 26, 140, 141, 142, 143, 144, 145, 146, 147, 148, 149, 150, 151, 152, 153, 154] (by decide +kernel) (by decide +kernel)) (goodIn_sub (fun _ h => List.mem_cons_of_mem _ (List.mem_append_left _ (List.mem_append_left _ (List.mem_append_right _ h)))) (by decide +kernel))
set_option maxRecDepth 20000 in
theorem gL_checks_X1_stateOf : GoodIn wsL_checks (wsV RL 62 RX1 yX1_stateOf wsX1_stateOf) := goodIn_app (goodIn_of _ (by decide +kernel)) ggL_checks_X1_stateOf
set_option maxRecDepth 20000 in
theorem ggL_checks_L_asks : GoodIn wsL_checks wsL_asks := goodIn_ca (goodIn_ca (goodIn_ca (goodIn_r _ [30, 31, 32, 33, 34, 35, 5, 36, 17, 18, 37, 38, 39, 40, 7, 24, 25, 26, 41, 42, 43, 44, 45, 46, 47, 19, 20, 21, 22, 23, 48, 49, 50, 51, 52, 53, 54, 55, 56, 12, 57, 58, 59, 60, 61, 62, 63, 64, 65, 66, 67, 68, 69, 70, 71, 72, 73, 74, 75, 76, 77, 78, 79, 80, 81, 82, 83, 84, 85, 86, 87, 88, 89, 90, 91, 92, 93, 94, 95, 96, 97, 98, 99, 100, 101, 29, 102, 103, 104, 105, 106, 107, 108, 109, 110, 111, 112, 113, 114, 115, 116, 117, 118, 119, 120, 121, 122, 123, 124, 125, 126, 140, 141, 142, 143, 144, 145, 146, 147, 148, 149, 150, 151, 152, 153, 154, 155, 156, 157, 158] (by decide +kernel) (by decide +kernel)) (goodIn_sub (fun _ h => List.mem_cons_of_mem _ (List.mem_append_left _ (List.mem_append_left _ (List.mem_append_right _ h)))) (by decide +kernel))) (goodIn_sub (fun _ h => List.mem_cons_of_mem _ (List.mem_append_left _ (List.mem_append_right _ h))) (by decide +kernel))) (goodIn_sub (fun _ h => List.mem_cons_of_mem _ (List.mem_append_right _ h)) (by decide +kernel))
set_option maxRecDepth 20000 in
theorem gL_checks_L_asks : GoodIn wsL_checks (va_wsS RL 58 yL_asks wsL_asks) := goodIn_app (goodIn_of _ (by decide +kernel)) ggL_checks_L_asks
set_option maxRecDepth 20000 in
theorem ggL_checks_X1_dayOf : GoodIn wsL_checks wsX1_dayOf := goodIn_ca (goodIn_r _ [130, 17, 18, 56, 20, 21, 22, 5, 23, 7, 24, 25, 26, 140, 141, 142, 143, 144, 145, 146, 147, 148, 149, 150, 151, 152, 153, 154] (by decide +kernel) (by decide +kernel)) (goodIn_sub (fun _ h => List.mem_cons_of_mem _ (List.mem_append_left _ (List.mem_append_left _ (List.mem_append_right _ h)))) (by decide +kernel))
set_option maxRecDepth 20000 in
theorem gL_checks_X1_dayOf : GoodIn wsL_checks (wsV RL 42 RX1 yX1_dayOf wsX1_dayOf) := goodIn_app (goodIn_of _ (by decide +kernel)) ggL_checks_X1_dayOf
set_option maxRecDepth 20000 in
theorem ggL_checks_L_follows : GoodIn wsL_checks wsL_follows := goodIn_ca (goodIn_r _ [133, 13, 14, 15, 5, 16, 17, 18, 19, 20, 21, 22, 23, 7, 24, 25, 26, 140, 141, 142, 143, 144, 145, 146, 147, 148, 149, 150, 151, 152, 153, 154] (by decide +kernel) (by decide +kernel)) (goodIn_sub (fun _ h => List.mem_cons_of_mem _ (List.mem_append_left _ (List.mem_append_left _ (List.mem_append_right _ h)))) (by decide +kernel))
set_option maxRecDepth 20000 in
theorem gL_checks_L_follows : GoodIn wsL_checks (va_wsS RL 89 yL_follows wsL_follows) := goodIn_app (goodIn_of _ (by decide +kernel)) ggL_checks_L_follows
set_option maxRecDepth 20000 in
theorem ggL_checks_L_next : GoodIn wsL_checks wsL_next := goodIn_r _ [136, 137, 138, 29, 139] (by decide +kernel) (by decide +kernel)
set_option maxRecDepth 20000 in
theorem gL_checks_L_next : GoodIn wsL_checks (va_wsS RL 45 yL_next wsL_next) := goodIn_app (goodIn_of _ (by decide +kernel)) ggL_checks_L_next
theorem dL_checks_0 : decode cL_checks 0 = .ok (.aload_n 0, 1) := by decide +kernel
theorem dL_checks_1 : decode cL_checks 1 = .ok (.invokevirtual 38, 3) := by decide +kernel
theorem dL_checks_4 : decode cL_checks 4 = .ok (.istore 4, 2) := by decide +kernel
theorem dL_checks_6 : decode cL_checks 6 = .ok (.aload_n 0, 1) := by decide +kernel
theorem dL_checks_7 : decode cL_checks 7 = .ok (.invokevirtual 52, 3) := by decide +kernel
theorem dL_checks_10 : decode cL_checks 10 = .ok (.istore 5, 2) := by decide +kernel
theorem dL_checks_12 : decode cL_checks 12 = .ok (.iconst 1, 1) := by decide +kernel
theorem dL_checks_13 : decode cL_checks 13 = .ok (.istore 6, 2) := by decide +kernel
theorem dL_checks_15 : decode cL_checks 15 = .ok (.iload_n 1, 1) := by decide +kernel
theorem dL_checks_16 : decode cL_checks 16 = .ok (.istore 7, 2) := by decide +kernel
theorem dL_checks_18 : decode cL_checks 18 = .ok (.iload 7, 2) := by decide +kernel
theorem dL_checks_20 : decode cL_checks 20 = .ok (.iload_n 1, 1) := by decide +kernel
theorem dL_checks_21 : decode cL_checks 21 = .ok (.iload_n 2, 1) := by decide +kernel
theorem dL_checks_22 : decode cL_checks 22 = .ok (.iadd, 1) := by decide +kernel
theorem dL_checks_23 : decode cL_checks 23 = .ok (.if_icmp .gt 37, 3) := by decide +kernel
theorem dL_checks_26 : decode cL_checks 26 = .ok (.iload 7, 2) := by decide +kernel
theorem dL_checks_28 : decode cL_checks 28 = .ok (.iload 4, 2) := by decide +kernel
theorem dL_checks_30 : decode cL_checks 30 = .ok (.if_icmp .ge 30, 3) := by decide +kernel
theorem dL_checks_33 : decode cL_checks 33 = .ok (.iload 6, 2) := by decide +kernel
theorem dL_checks_35 : decode cL_checks 35 = .ok (.ifCond .eq 16, 3) := by decide +kernel
theorem dL_checks_38 : decode cL_checks 38 = .ok (.aload_n 0, 1) := by decide +kernel
theorem dL_checks_39 : decode cL_checks 39 = .ok (.iload 7, 2) := by decide +kernel
theorem dL_checks_41 : decode cL_checks 41 = .ok (.invokevirtual 62, 3) := by decide +kernel
theorem dL_checks_44 : decode cL_checks 44 = .ok (.ifCond .ne 7, 3) := by decide +kernel
theorem dL_checks_47 : decode cL_checks 47 = .ok (.iconst 1, 1) := by decide +kernel
theorem dL_checks_48 : decode cL_checks 48 = .ok (.goto 4, 3) := by decide +kernel
theorem dL_checks_51 : decode cL_checks 51 = .ok (.iconst 0, 1) := by decide +kernel
theorem dL_checks_52 : decode cL_checks 52 = .ok (.istore 6, 2) := by decide +kernel
theorem dL_checks_54 : decode cL_checks 54 = .ok (.iinc 7 1, 3) := by decide +kernel
theorem dL_checks_57 : decode cL_checks 57 = .ok (.goto (-39), 3) := by decide +kernel
theorem dL_checks_60 : decode cL_checks 60 = .ok (.bipush 60, 2) := by decide +kernel
theorem dL_checks_62 : decode cL_checks 62 = .ok (.newarray .int, 2) := by decide +kernel
theorem dL_checks_64 : decode cL_checks 64 = .ok (.astore 7, 2) := by decide +kernel
theorem dL_checks_66 : decode cL_checks 66 = .ok (.iconst 0, 1) := by decide +kernel
theorem dL_checks_67 : decode cL_checks 67 = .ok (.istore 8, 2) := by decide +kernel
theorem dL_checks_69 : decode cL_checks 69 = .ok (.iload 8, 2) := by decide +kernel
theorem dL_checks_71 : decode cL_checks 71 = .ok (.iload 4, 2) := by decide +kernel
theorem dL_checks_73 : decode cL_checks 73 = .ok (.if_icmp .ge 27, 3) := by decide +kernel
theorem dL_checks_76 : decode cL_checks 76 = .ok (.iload 8, 2) := by decide +kernel
theorem dL_checks_78 : decode cL_checks 78 = .ok (.bipush 60, 2) := by decide +kernel
theorem dL_checks_80 : decode cL_checks 80 = .ok (.if_icmp .ge 20, 3) := by decide +kernel
theorem dL_checks_83 : decode cL_checks 83 = .ok (.aload 7, 2) := by decide +kernel
theorem dL_checks_85 : decode cL_checks 85 = .ok (.iload 8, 2) := by decide +kernel
theorem dL_checks_87 : decode cL_checks 87 = .ok (.aload_n 0, 1) := by decide +kernel
theorem dL_checks_88 : decode cL_checks 88 = .ok (.iload 8, 2) := by decide +kernel
theorem dL_checks_90 : decode cL_checks 90 = .ok (.invokevirtual 62, 3) := by decide +kernel
theorem dL_checks_93 : decode cL_checks 93 = .ok (.iastore, 1) := by decide +kernel
theorem dL_checks_94 : decode cL_checks 94 = .ok (.iinc 8 1, 3) := by decide +kernel
theorem dL_checks_97 : decode cL_checks 97 = .ok (.goto (-28), 3) := by decide +kernel
theorem dL_checks_100 : decode cL_checks 100 = .ok (.aload_n 0, 1) := by decide +kernel
theorem dL_checks_101 : decode cL_checks 101 = .ok (.iconst 0, 1) := by decide +kernel
theorem dL_checks_102 : decode cL_checks 102 = .ok (.iload_n 1, 1) := by decide +kernel
theorem dL_checks_103 : decode cL_checks 103 = .ok (.iload_n 2, 1) := by decide +kernel
theorem dL_checks_104 : decode cL_checks 104 = .ok (.invokestatic 58, 3) := by decide +kernel
theorem dL_checks_107 : decode cL_checks 107 = .ok (.istore 8, 2) := by decide +kernel
theorem dL_checks_109 : decode cL_checks 109 = .ok (.iload 6, 2) := by decide +kernel
theorem dL_checks_111 : decode cL_checks 111 = .ok (.ifCond .ne 34, 3) := by decide +kernel
theorem dL_checks_114 : decode cL_checks 114 = .ok (.iload 8, 2) := by decide +kernel
theorem dL_checks_116 : decode cL_checks 116 = .ok (.bipush (-8), 2) := by decide +kernel
theorem dL_checks_118 : decode cL_checks 118 = .ok (.if_icmp .ne 25, 3) := by decide +kernel
theorem dL_checks_121 : decode cL_checks 121 = .ok (.aload_n 0, 1) := by decide +kernel
theorem dL_checks_122 : decode cL_checks 122 = .ok (.invokevirtual 38, 3) := by decide +kernel
theorem dL_checks_125 : decode cL_checks 125 = .ok (.iload 4, 2) := by decide +kernel
theorem dL_checks_127 : decode cL_checks 127 = .ok (.if_icmp .ne 16, 3) := by decide +kernel
theorem dL_checks_130 : decode cL_checks 130 = .ok (.aload_n 0, 1) := by decide +kernel
theorem dL_checks_131 : decode cL_checks 131 = .ok (.invokevirtual 52, 3) := by decide +kernel
theorem dL_checks_134 : decode cL_checks 134 = .ok (.iload 5, 2) := by decide +kernel
theorem dL_checks_136 : decode cL_checks 136 = .ok (.if_icmp .ne 7, 3) := by decide +kernel
theorem dL_checks_139 : decode cL_checks 139 = .ok (.iconst 1, 1) := by decide +kernel
theorem dL_checks_140 : decode cL_checks 140 = .ok (.goto 4, 3) := by decide +kernel
theorem dL_checks_143 : decode cL_checks 143 = .ok (.iconst 0, 1) := by decide +kernel
theorem dL_checks_144 : decode cL_checks 144 = .ok (.ireturn, 1) := by decide +kernel
theorem dL_checks_145 : decode cL_checks 145 = .ok (.iload 8, 2) := by decide +kernel
theorem dL_checks_147 : decode cL_checks 147 = .ok (.aload_n 0, 1) := by decide +kernel
theorem dL_checks_148 : decode cL_checks 148 = .ok (.invokevirtual 38, 3) := by decide +kernel
theorem dL_checks_151 : decode cL_checks 151 = .ok (.if_icmp .ne 7, 3) := by decide +kernel
theorem dL_checks_154 : decode cL_checks 154 = .ok (.iconst 1, 1) := by decide +kernel
theorem dL_checks_155 : decode cL_checks 155 = .ok (.goto 4, 3) := by decide +kernel
theorem dL_checks_158 : decode cL_checks 158 = .ok (.iconst 0, 1) := by decide +kernel
theorem dL_checks_159 : decode cL_checks 159 = .ok (.istore 9, 2) := by decide +kernel
theorem dL_checks_161 : decode cL_checks 161 = .ok (.iconst 0, 1) := by decide +kernel
theorem dL_checks_162 : decode cL_checks 162 = .ok (.istore 10, 2) := by decide +kernel
theorem dL_checks_164 : decode cL_checks 164 = .ok (.iload 10, 2) := by decide +kernel
theorem dL_checks_166 : decode cL_checks 166 = .ok (.iload 8, 2) := by decide +kernel
theorem dL_checks_168 : decode cL_checks 168 = .ok (.if_icmp .ge 99, 3) := by decide +kernel
theorem dL_checks_171 : decode cL_checks 171 = .ok (.iload 9, 2) := by decide +kernel
theorem dL_checks_173 : decode cL_checks 173 = .ok (.ifCond .eq 94, 3) := by decide +kernel
theorem dL_checks_176 : decode cL_checks 176 = .ok (.iload 10, 2) := by decide +kernel
theorem dL_checks_178 : decode cL_checks 178 = .ok (.iload_n 1, 1) := by decide +kernel
theorem dL_checks_179 : decode cL_checks 179 = .ok (.if_icmp .ne 7, 3) := by decide +kernel
theorem dL_checks_182 : decode cL_checks 182 = .ok (.iconst 1, 1) := by decide +kernel
theorem dL_checks_183 : decode cL_checks 183 = .ok (.goto 44, 3) := by decide +kernel
theorem dL_checks_186 : decode cL_checks 186 = .ok (.iload 10, 2) := by decide +kernel
theorem dL_checks_188 : decode cL_checks 188 = .ok (.iload_n 1, 1) := by decide +kernel
theorem dL_checks_189 : decode cL_checks 189 = .ok (.if_icmp .le 15, 3) := by decide +kernel
theorem dL_checks_192 : decode cL_checks 192 = .ok (.iload 10, 2) := by decide +kernel
theorem dL_checks_194 : decode cL_checks 194 = .ok (.iload_n 1, 1) := by decide +kernel
theorem dL_checks_195 : decode cL_checks 195 = .ok (.iload_n 2, 1) := by decide +kernel
theorem dL_checks_196 : decode cL_checks 196 = .ok (.iadd, 1) := by decide +kernel
theorem dL_checks_197 : decode cL_checks 197 = .ok (.if_icmp .gt 7, 3) := by decide +kernel
theorem dL_checks_200 : decode cL_checks 200 = .ok (.iconst 2, 1) := by decide +kernel
theorem dL_checks_201 : decode cL_checks 201 = .ok (.goto 26, 3) := by decide +kernel
theorem dL_checks_204 : decode cL_checks 204 = .ok (.iload 10, 2) := by decide +kernel
theorem dL_checks_206 : decode cL_checks 206 = .ok (.iload 4, 2) := by decide +kernel
theorem dL_checks_208 : decode cL_checks 208 = .ok (.if_icmp .ge 18, 3) := by decide +kernel
theorem dL_checks_211 : decode cL_checks 211 = .ok (.iload 10, 2) := by decide +kernel
theorem dL_checks_213 : decode cL_checks 213 = .ok (.bipush 60, 2) := by decide +kernel
theorem dL_checks_215 : decode cL_checks 215 = .ok (.if_icmp .ge 11, 3) := by decide +kernel
theorem dL_checks_218 : decode cL_checks 218 = .ok (.aload 7, 2) := by decide +kernel
theorem dL_checks_220 : decode cL_checks 220 = .ok (.iload 10, 2) := by decide +kernel
theorem dL_checks_222 : decode cL_checks 222 = .ok (.iaload, 1) := by decide +kernel
theorem dL_checks_223 : decode cL_checks 223 = .ok (.goto 4, 3) := by decide +kernel
theorem dL_checks_226 : decode cL_checks 226 = .ok (.iconst 0, 1) := by decide +kernel
theorem dL_checks_227 : decode cL_checks 227 = .ok (.istore 11, 2) := by decide +kernel
theorem dL_checks_229 : decode cL_checks 229 = .ok (.aload_n 0, 1) := by decide +kernel
theorem dL_checks_230 : decode cL_checks 230 = .ok (.iload 10, 2) := by decide +kernel
theorem dL_checks_232 : decode cL_checks 232 = .ok (.invokevirtual 62, 3) := by decide +kernel
theorem dL_checks_235 : decode cL_checks 235 = .ok (.iload 11, 2) := by decide +kernel
theorem dL_checks_237 : decode cL_checks 237 = .ok (.if_icmp .eq 17, 3) := by decide +kernel
theorem dL_checks_240 : decode cL_checks 240 = .ok (.iload 10, 2) := by decide +kernel
theorem dL_checks_242 : decode cL_checks 242 = .ok (.bipush 60, 2) := by decide +kernel
theorem dL_checks_244 : decode cL_checks 244 = .ok (.if_icmp .lt 14, 3) := by decide +kernel
theorem dL_checks_247 : decode cL_checks 247 = .ok (.iload 10, 2) := by decide +kernel
theorem dL_checks_249 : decode cL_checks 249 = .ok (.iload 4, 2) := by decide +kernel
theorem dL_checks_251 : decode cL_checks 251 = .ok (.if_icmp .ge 7, 3) := by decide +kernel
theorem dL_checks_254 : decode cL_checks 254 = .ok (.iconst 1, 1) := by decide +kernel
theorem dL_checks_255 : decode cL_checks 255 = .ok (.goto 4, 3) := by decide +kernel
theorem dL_checks_258 : decode cL_checks 258 = .ok (.iconst 0, 1) := by decide +kernel
theorem dL_checks_259 : decode cL_checks 259 = .ok (.istore 9, 2) := by decide +kernel
theorem dL_checks_261 : decode cL_checks 261 = .ok (.iinc 10 1, 3) := by decide +kernel
theorem dL_checks_264 : decode cL_checks 264 = .ok (.goto (-100), 3) := by decide +kernel
theorem dL_checks_267 : decode cL_checks 267 = .ok (.aload_n 3, 1) := by decide +kernel
theorem dL_checks_268 : decode cL_checks 268 = .ok (.iconst 0, 1) := by decide +kernel
theorem dL_checks_269 : decode cL_checks 269 = .ok (.iaload, 1) := by decide +kernel
theorem dL_checks_270 : decode cL_checks 270 = .ok (.aload_n 0, 1) := by decide +kernel
theorem dL_checks_271 : decode cL_checks 271 = .ok (.iload_n 1, 1) := by decide +kernel
theorem dL_checks_272 : decode cL_checks 272 = .ok (.invokevirtual 42, 3) := by decide +kernel
theorem dL_checks_275 : decode cL_checks 275 = .ok (.isub, 1) := by decide +kernel
theorem dL_checks_276 : decode cL_checks 276 = .ok (.istore 10, 2) := by decide +kernel
theorem dL_checks_278 : decode cL_checks 278 = .ok (.aload_n 3, 1) := by decide +kernel
theorem dL_checks_279 : decode cL_checks 279 = .ok (.bipush 9, 2) := by decide +kernel
theorem dL_checks_281 : decode cL_checks 281 = .ok (.aload_n 3, 1) := by decide +kernel
theorem dL_checks_282 : decode cL_checks 282 = .ok (.bipush 9, 2) := by decide +kernel
theorem dL_checks_284 : decode cL_checks 284 = .ok (.iaload, 1) := by decide +kernel
theorem dL_checks_285 : decode cL_checks 285 = .ok (.ifCond .le 30, 3) := by decide +kernel
theorem dL_checks_288 : decode cL_checks 288 = .ok (.aload_n 0, 1) := by decide +kernel
theorem dL_checks_289 : decode cL_checks 289 = .ok (.aload_n 3, 1) := by decide +kernel
theorem dL_checks_290 : decode cL_checks 290 = .ok (.iload_n 1, 1) := by decide +kernel
theorem dL_checks_291 : decode cL_checks 291 = .ok (.invokestatic 89, 3) := by decide +kernel
theorem dL_checks_294 : decode cL_checks 294 = .ok (.ifCond .eq 21, 3) := by decide +kernel
theorem dL_checks_297 : decode cL_checks 297 = .ok (.iload 10, 2) := by decide +kernel
theorem dL_checks_299 : decode cL_checks 299 = .ok (.aload_n 3, 1) := by decide +kernel
theorem dL_checks_300 : decode cL_checks 300 = .ok (.bipush 8, 2) := by decide +kernel
theorem dL_checks_302 : decode cL_checks 302 = .ok (.iaload, 1) := by decide +kernel
theorem dL_checks_303 : decode cL_checks 303 = .ok (.if_icmp .ne 12, 3) := by decide +kernel
theorem dL_checks_306 : decode cL_checks 306 = .ok (.aload_n 3, 1) := by decide +kernel
theorem dL_checks_307 : decode cL_checks 307 = .ok (.bipush 9, 2) := by decide +kernel
theorem dL_checks_309 : decode cL_checks 309 = .ok (.iaload, 1) := by decide +kernel
theorem dL_checks_310 : decode cL_checks 310 = .ok (.iconst 1, 1) := by decide +kernel
theorem dL_checks_311 : decode cL_checks 311 = .ok (.iadd, 1) := by decide +kernel
theorem dL_checks_312 : decode cL_checks 312 = .ok (.goto 4, 3) := by decide +kernel
theorem dL_checks_315 : decode cL_checks 315 = .ok (.iconst 1, 1) := by decide +kernel
theorem dL_checks_316 : decode cL_checks 316 = .ok (.iastore, 1) := by decide +kernel
theorem dL_checks_317 : decode cL_checks 317 = .ok (.aload_n 3, 1) := by decide +kernel
theorem dL_checks_318 : decode cL_checks 318 = .ok (.bipush 7, 2) := by decide +kernel
theorem dL_checks_320 : decode cL_checks 320 = .ok (.iload_n 1, 1) := by decide +kernel
theorem dL_checks_321 : decode cL_checks 321 = .ok (.iastore, 1) := by decide +kernel
theorem dL_checks_322 : decode cL_checks 322 = .ok (.aload_n 3, 1) := by decide +kernel
theorem dL_checks_323 : decode cL_checks 323 = .ok (.bipush 8, 2) := by decide +kernel
theorem dL_checks_325 : decode cL_checks 325 = .ok (.iload 10, 2) := by decide +kernel
theorem dL_checks_327 : decode cL_checks 327 = .ok (.iastore, 1) := by decide +kernel
theorem dL_checks_328 : decode cL_checks 328 = .ok (.aload_n 3, 1) := by decide +kernel
theorem dL_checks_329 : decode cL_checks 329 = .ok (.bipush 9, 2) := by decide +kernel
theorem dL_checks_331 : decode cL_checks 331 = .ok (.iaload, 1) := by decide +kernel
theorem dL_checks_332 : decode cL_checks 332 = .ok (.iconst 3, 1) := by decide +kernel
theorem dL_checks_333 : decode cL_checks 333 = .ok (.if_icmp .lt 26, 3) := by decide +kernel
theorem dL_checks_336 : decode cL_checks 336 = .ok (.iload 10, 2) := by decide +kernel
theorem dL_checks_338 : decode cL_checks 338 = .ok (.ifCond .eq 21, 3) := by decide +kernel
theorem dL_checks_341 : decode cL_checks 341 = .ok (.iload 10, 2) := by decide +kernel
theorem dL_checks_343 : decode cL_checks 343 = .ok (.bipush (-15), 2) := by decide +kernel
theorem dL_checks_345 : decode cL_checks 345 = .ok (.if_icmp .lt 14, 3) := by decide +kernel
theorem dL_checks_348 : decode cL_checks 348 = .ok (.iload 10, 2) := by decide +kernel
theorem dL_checks_350 : decode cL_checks 350 = .ok (.bipush 15, 2) := by decide +kernel
theorem dL_checks_352 : decode cL_checks 352 = .ok (.if_icmp .gt 7, 3) := by decide +kernel
theorem dL_checks_355 : decode cL_checks 355 = .ok (.iconst 1, 1) := by decide +kernel
theorem dL_checks_356 : decode cL_checks 356 = .ok (.goto 4, 3) := by decide +kernel
theorem dL_checks_359 : decode cL_checks 359 = .ok (.iconst 0, 1) := by decide +kernel
theorem dL_checks_360 : decode cL_checks 360 = .ok (.istore 11, 2) := by decide +kernel
theorem dL_checks_362 : decode cL_checks 362 = .ok (.aload_n 3, 1) := by decide +kernel
theorem dL_checks_363 : decode cL_checks 363 = .ok (.bipush 9, 2) := by decide +kernel
theorem dL_checks_365 : decode cL_checks 365 = .ok (.iload 11, 2) := by decide +kernel
theorem dL_checks_367 : decode cL_checks 367 = .ok (.ifCond .eq 7, 3) := by decide +kernel
theorem dL_checks_370 : decode cL_checks 370 = .ok (.iconst 0, 1) := by decide +kernel
theorem dL_checks_371 : decode cL_checks 371 = .ok (.goto 7, 3) := by decide +kernel
theorem dL_checks_374 : decode cL_checks 374 = .ok (.aload_n 3, 1) := by decide +kernel
theorem dL_checks_375 : decode cL_checks 375 = .ok (.bipush 9, 2) := by decide +kernel
theorem dL_checks_377 : decode cL_checks 377 = .ok (.iaload, 1) := by decide +kernel
theorem dL_checks_378 : decode cL_checks 378 = .ok (.iastore, 1) := by decide +kernel
theorem dL_checks_379 : decode cL_checks 379 = .ok (.iload 4, 2) := by decide +kernel
theorem dL_checks_381 : decode cL_checks 381 = .ok (.iload_n 1, 1) := by decide +kernel
theorem dL_checks_382 : decode cL_checks 382 = .ok (.iload_n 2, 1) := by decide +kernel
theorem dL_checks_383 : decode cL_checks 383 = .ok (.iadd, 1) := by decide +kernel
theorem dL_checks_384 : decode cL_checks 384 = .ok (.if_icmp .gt 7, 3) := by decide +kernel
theorem dL_checks_387 : decode cL_checks 387 = .ok (.iconst 0, 1) := by decide +kernel
theorem dL_checks_388 : decode cL_checks 388 = .ok (.goto 5, 3) := by decide +kernel
theorem dL_checks_391 : decode cL_checks 391 = .ok (.iload 5, 2) := by decide +kernel
theorem dL_checks_393 : decode cL_checks 393 = .ok (.istore 12, 2) := by decide +kernel
theorem dL_checks_395 : decode cL_checks 395 = .ok (.iload 12, 2) := by decide +kernel
theorem dL_checks_397 : decode cL_checks 397 = .ok (.iload 11, 2) := by decide +kernel
theorem dL_checks_399 : decode cL_checks 399 = .ok (.ifCond .eq 8, 3) := by decide +kernel
theorem dL_checks_402 : decode cL_checks 402 = .ok (.iload 10, 2) := by decide +kernel
theorem dL_checks_404 : decode cL_checks 404 = .ok (.goto 4, 3) := by decide +kernel
theorem dL_checks_407 : decode cL_checks 407 = .ok (.iconst 0, 1) := by decide +kernel
theorem dL_checks_408 : decode cL_checks 408 = .ok (.iadd, 1) := by decide +kernel
theorem dL_checks_409 : decode cL_checks 409 = .ok (.istore 12, 2) := by decide +kernel
theorem dL_checks_411 : decode cL_checks 411 = .ok (.iload 8, 2) := by decide +kernel
theorem dL_checks_413 : decode cL_checks 413 = .ok (.iload 4, 2) := by decide +kernel
theorem dL_checks_415 : decode cL_checks 415 = .ok (.iload_n 1, 1) := by decide +kernel
theorem dL_checks_416 : decode cL_checks 416 = .ok (.iload_n 2, 1) := by decide +kernel
theorem dL_checks_417 : decode cL_checks 417 = .ok (.iadd, 1) := by decide +kernel
theorem dL_checks_418 : decode cL_checks 418 = .ok (.if_icmp .gt 11, 3) := by decide +kernel
theorem dL_checks_421 : decode cL_checks 421 = .ok (.iload_n 1, 1) := by decide +kernel
theorem dL_checks_422 : decode cL_checks 422 = .ok (.iload_n 2, 1) := by decide +kernel
theorem dL_checks_423 : decode cL_checks 423 = .ok (.iadd, 1) := by decide +kernel
theorem dL_checks_424 : decode cL_checks 424 = .ok (.iconst 1, 1) := by decide +kernel
theorem dL_checks_425 : decode cL_checks 425 = .ok (.iadd, 1) := by decide +kernel
theorem dL_checks_426 : decode cL_checks 426 = .ok (.goto 5, 3) := by decide +kernel
theorem dL_checks_429 : decode cL_checks 429 = .ok (.iload 4, 2) := by decide +kernel
theorem dL_checks_431 : decode cL_checks 431 = .ok (.if_icmp .le 7, 3) := by decide +kernel
theorem dL_checks_434 : decode cL_checks 434 = .ok (.iconst 1, 1) := by decide +kernel
theorem dL_checks_435 : decode cL_checks 435 = .ok (.goto 4, 3) := by decide +kernel
theorem dL_checks_438 : decode cL_checks 438 = .ok (.iconst 0, 1) := by decide +kernel
theorem dL_checks_439 : decode cL_checks 439 = .ok (.istore 13, 2) := by decide +kernel
theorem dL_checks_441 : decode cL_checks 441 = .ok (.iload 9, 2) := by decide +kernel
theorem dL_checks_443 : decode cL_checks 443 = .ok (.ifCond .eq 25, 3) := by decide +kernel
theorem dL_checks_446 : decode cL_checks 446 = .ok (.aload_n 0, 1) := by decide +kernel
theorem dL_checks_447 : decode cL_checks 447 = .ok (.invokevirtual 52, 3) := by decide +kernel
theorem dL_checks_450 : decode cL_checks 450 = .ok (.iload 13, 2) := by decide +kernel
theorem dL_checks_452 : decode cL_checks 452 = .ok (.ifCond .eq 7, 3) := by decide +kernel
theorem dL_checks_455 : decode cL_checks 455 = .ok (.iconst 0, 1) := by decide +kernel
theorem dL_checks_456 : decode cL_checks 456 = .ok (.goto 5, 3) := by decide +kernel
theorem dL_checks_459 : decode cL_checks 459 = .ok (.iload 12, 2) := by decide +kernel
theorem dL_checks_461 : decode cL_checks 461 = .ok (.if_icmp .ne 7, 3) := by decide +kernel
theorem dL_checks_464 : decode cL_checks 464 = .ok (.iconst 1, 1) := by decide +kernel
theorem dL_checks_465 : decode cL_checks 465 = .ok (.goto 4, 3) := by decide +kernel
theorem dL_checks_468 : decode cL_checks 468 = .ok (.iconst 0, 1) := by decide +kernel
theorem dL_checks_469 : decode cL_checks 469 = .ok (.istore 9, 2) := by decide +kernel
theorem dL_checks_471 : decode cL_checks 471 = .ok (.iload 4, 2) := by decide +kernel
theorem dL_checks_473 : decode cL_checks 473 = .ok (.istore 14, 2) := by decide +kernel
theorem dL_checks_475 : decode cL_checks 475 = .ok (.iload 14, 2) := by decide +kernel
theorem dL_checks_477 : decode cL_checks 477 = .ok (.iload 8, 2) := by decide +kernel
theorem dL_checks_479 : decode cL_checks 479 = .ok (.if_icmp .ge 115, 3) := by decide +kernel
theorem dL_checks_482 : decode cL_checks 482 = .ok (.iload 9, 2) := by decide +kernel
theorem dL_checks_484 : decode cL_checks 484 = .ok (.ifCond .eq 110, 3) := by decide +kernel
theorem dL_checks_487 : decode cL_checks 487 = .ok (.iload 14, 2) := by decide +kernel
theorem dL_checks_489 : decode cL_checks 489 = .ok (.iload 4, 2) := by decide +kernel
theorem dL_checks_491 : decode cL_checks 491 = .ok (.if_icmp .ne 16, 3) := by decide +kernel
theorem dL_checks_494 : decode cL_checks 494 = .ok (.iload 4, 2) := by decide +kernel
theorem dL_checks_496 : decode cL_checks 496 = .ok (.iload_n 1, 1) := by decide +kernel
theorem dL_checks_497 : decode cL_checks 497 = .ok (.iload_n 2, 1) := by decide +kernel
theorem dL_checks_498 : decode cL_checks 498 = .ok (.iadd, 1) := by decide +kernel
theorem dL_checks_499 : decode cL_checks 499 = .ok (.if_icmp .gt 8, 3) := by decide +kernel
theorem dL_checks_502 : decode cL_checks 502 = .ok (.iload 5, 2) := by decide +kernel
theorem dL_checks_504 : decode cL_checks 504 = .ok (.goto 32, 3) := by decide +kernel
theorem dL_checks_507 : decode cL_checks 507 = .ok (.iload 14, 2) := by decide +kernel
theorem dL_checks_509 : decode cL_checks 509 = .ok (.iload 4, 2) := by decide +kernel
theorem dL_checks_511 : decode cL_checks 511 = .ok (.iload_n 1, 1) := by decide +kernel
theorem dL_checks_512 : decode cL_checks 512 = .ok (.iload_n 2, 1) := by decide +kernel
theorem dL_checks_513 : decode cL_checks 513 = .ok (.iadd, 1) := by decide +kernel
theorem dL_checks_514 : decode cL_checks 514 = .ok (.if_icmp .gt 11, 3) := by decide +kernel
theorem dL_checks_517 : decode cL_checks 517 = .ok (.iload_n 1, 1) := by decide +kernel
theorem dL_checks_518 : decode cL_checks 518 = .ok (.iload_n 2, 1) := by decide +kernel
theorem dL_checks_519 : decode cL_checks 519 = .ok (.iadd, 1) := by decide +kernel
theorem dL_checks_520 : decode cL_checks 520 = .ok (.iconst 1, 1) := by decide +kernel
theorem dL_checks_521 : decode cL_checks 521 = .ok (.iadd, 1) := by decide +kernel
theorem dL_checks_522 : decode cL_checks 522 = .ok (.goto 5, 3) := by decide +kernel
theorem dL_checks_525 : decode cL_checks 525 = .ok (.iload 4, 2) := by decide +kernel
theorem dL_checks_527 : decode cL_checks 527 = .ok (.if_icmp .ne 8, 3) := by decide +kernel
theorem dL_checks_530 : decode cL_checks 530 = .ok (.iload 12, 2) := by decide +kernel
theorem dL_checks_532 : decode cL_checks 532 = .ok (.goto 4, 3) := by decide +kernel
theorem dL_checks_535 : decode cL_checks 535 = .ok (.iconst 0, 1) := by decide +kernel
theorem dL_checks_536 : decode cL_checks 536 = .ok (.istore 15, 2) := by decide +kernel
theorem dL_checks_538 : decode cL_checks 538 = .ok (.aload_n 0, 1) := by decide +kernel
theorem dL_checks_539 : decode cL_checks 539 = .ok (.iload 14, 2) := by decide +kernel
theorem dL_checks_541 : decode cL_checks 541 = .ok (.invokevirtual 42, 3) := by decide +kernel
theorem dL_checks_544 : decode cL_checks 544 = .ok (.aload_n 3, 1) := by decide +kernel
theorem dL_checks_545 : decode cL_checks 545 = .ok (.aload_n 0, 1) := by decide +kernel
theorem dL_checks_546 : decode cL_checks 546 = .ok (.iload 14, 2) := by decide +kernel
theorem dL_checks_548 : decode cL_checks 548 = .ok (.iconst 1, 1) := by decide +kernel
theorem dL_checks_549 : decode cL_checks 549 = .ok (.isub, 1) := by decide +kernel
theorem dL_checks_550 : decode cL_checks 550 = .ok (.invokevirtual 42, 3) := by decide +kernel
theorem dL_checks_553 : decode cL_checks 553 = .ok (.iload 15, 2) := by decide +kernel
theorem dL_checks_555 : decode cL_checks 555 = .ok (.invokestatic 45, 3) := by decide +kernel
theorem dL_checks_558 : decode cL_checks 558 = .ok (.if_icmp .ne 27, 3) := by decide +kernel
theorem dL_checks_561 : decode cL_checks 561 = .ok (.iload 14, 2) := by decide +kernel
theorem dL_checks_563 : decode cL_checks 563 = .ok (.iload_n 1, 1) := by decide +kernel
theorem dL_checks_564 : decode cL_checks 564 = .ok (.iload_n 2, 1) := by decide +kernel
theorem dL_checks_565 : decode cL_checks 565 = .ok (.iadd, 1) := by decide +kernel
theorem dL_checks_566 : decode cL_checks 566 = .ok (.if_icmp .le 15, 3) := by decide +kernel
theorem dL_checks_569 : decode cL_checks 569 = .ok (.aload_n 0, 1) := by decide +kernel
theorem dL_checks_570 : decode cL_checks 570 = .ok (.iload 14, 2) := by decide +kernel
theorem dL_checks_572 : decode cL_checks 572 = .ok (.invokevirtual 42, 3) := by decide +kernel
theorem dL_checks_575 : decode cL_checks 575 = .ok (.aload_n 3, 1) := by decide +kernel
theorem dL_checks_576 : decode cL_checks 576 = .ok (.iconst 0, 1) := by decide +kernel
theorem dL_checks_577 : decode cL_checks 577 = .ok (.iaload, 1) := by decide +kernel
theorem dL_checks_578 : decode cL_checks 578 = .ok (.if_icmp .gt 7, 3) := by decide +kernel
theorem dL_checks_581 : decode cL_checks 581 = .ok (.iconst 1, 1) := by decide +kernel
theorem dL_checks_582 : decode cL_checks 582 = .ok (.goto 4, 3) := by decide +kernel
theorem dL_checks_585 : decode cL_checks 585 = .ok (.iconst 0, 1) := by decide +kernel
theorem dL_checks_586 : decode cL_checks 586 = .ok (.istore 9, 2) := by decide +kernel
theorem dL_checks_588 : decode cL_checks 588 = .ok (.iinc 14 1, 3) := by decide +kernel
theorem dL_checks_591 : decode cL_checks 591 = .ok (.goto (-116), 3) := by decide +kernel
theorem dL_checks_594 : decode cL_checks 594 = .ok (.iload 9, 2) := by decide +kernel
theorem dL_checks_596 : decode cL_checks 596 = .ok (.ifCond .eq 37, 3) := by decide +kernel
theorem dL_checks_599 : decode cL_checks 599 = .ok (.iload 8, 2) := by decide +kernel
theorem dL_checks_601 : decode cL_checks 601 = .ok (.sipush 200, 3) := by decide +kernel
theorem dL_checks_604 : decode cL_checks 604 = .ok (.if_icmp .eq 25, 3) := by decide +kernel
theorem dL_checks_607 : decode cL_checks 607 = .ok (.aload_n 3, 1) := by decide +kernel
theorem dL_checks_608 : decode cL_checks 608 = .ok (.aload_n 0, 1) := by decide +kernel
theorem dL_checks_609 : decode cL_checks 609 = .ok (.iload 8, 2) := by decide +kernel
theorem dL_checks_611 : decode cL_checks 611 = .ok (.iconst 1, 1) := by decide +kernel
theorem dL_checks_612 : decode cL_checks 612 = .ok (.isub, 1) := by decide +kernel
theorem dL_checks_613 : decode cL_checks 613 = .ok (.invokevirtual 42, 3) := by decide +kernel
theorem dL_checks_616 : decode cL_checks 616 = .ok (.aload_n 0, 1) := by decide +kernel
theorem dL_checks_617 : decode cL_checks 617 = .ok (.invokevirtual 52, 3) := by decide +kernel
theorem dL_checks_620 : decode cL_checks 620 = .ok (.invokestatic 45, 3) := by decide +kernel
theorem dL_checks_623 : decode cL_checks 623 = .ok (.aload_n 3, 1) := by decide +kernel
theorem dL_checks_624 : decode cL_checks 624 = .ok (.iconst 0, 1) := by decide +kernel
theorem dL_checks_625 : decode cL_checks 625 = .ok (.iaload, 1) := by decide +kernel
theorem dL_checks_626 : decode cL_checks 626 = .ok (.if_icmp .le 7, 3) := by decide +kernel
theorem dL_checks_629 : decode cL_checks 629 = .ok (.iconst 1, 1) := by decide +kernel
theorem dL_checks_630 : decode cL_checks 630 = .ok (.goto 4, 3) := by decide +kernel
theorem dL_checks_633 : decode cL_checks 633 = .ok (.iconst 0, 1) := by decide +kernel
theorem dL_checks_634 : decode cL_checks 634 = .ok (.ireturn, 1) := by decide +kernel
set_option maxRecDepth 20000 in
theorem ggL_rounds_X1_foretold : GoodIn wsL_rounds wsX1_foretold := goodIn_r _ [6, 7, 48, 49, 50, 51, 52, 53, 54, 55, 56, 57, 58, 59, 60, 61, 62] (by decide +kernel) (by decide +kernel)
set_option maxRecDepth 20000 in
theorem gL_rounds_X1_foretold : GoodIn wsL_rounds (wsV RL 38 RX1 yX1_foretold wsX1_foretold) := goodIn_app (goodIn_of _ (by decide +kernel)) ggL_rounds_X1_foretold
set_option maxRecDepth 20000 in
theorem ggL_rounds_X1_claimsOf : GoodIn wsL_rounds wsX1_claimsOf := goodIn_ca (goodIn_r _ [11, 12, 13, 14, 15, 16, 17, 5, 18, 7, 19, 20, 21, 48, 49, 50, 51, 52, 53, 54, 55, 56, 57, 58, 59, 60, 61, 62] (by decide +kernel) (by decide +kernel)) (goodIn_sub (fun _ h => List.mem_cons_of_mem _ (List.mem_append_right _ h)) (by decide +kernel))
set_option maxRecDepth 20000 in
theorem gL_rounds_X1_claimsOf : GoodIn wsL_rounds (wsV RL 49 RX1 yX1_claimsOf wsX1_claimsOf) := goodIn_app (goodIn_of _ (by decide +kernel)) ggL_rounds_X1_claimsOf
set_option maxRecDepth 20000 in
theorem ggL_rounds_X1_stateOf : GoodIn wsL_rounds wsX1_stateOf := goodIn_ca (goodIn_r _ [25, 12, 13, 26, 15, 16, 17, 5, 18, 7, 19, 20, 21, 48, 49, 50, 51, 52, 53, 54, 55, 56, 57, 58, 59, 60, 61, 62] (by decide +kernel) (by decide +kernel)) (goodIn_sub (fun _ h => List.mem_cons_of_mem _ (List.mem_append_right _ h)) (by decide +kernel))
set_option maxRecDepth 20000 in
theorem gL_rounds_X1_stateOf : GoodIn wsL_rounds (wsV RL 62 RX1 yX1_stateOf wsX1_stateOf) := goodIn_app (goodIn_of _ (by decide +kernel)) ggL_rounds_X1_stateOf
set_option maxRecDepth 20000 in
theorem ggL_rounds_X1_round : GoodIn wsL_rounds wsX1_round := goodIn_r _ [30, 14, 31, 32, 26, 33, 34, 35, 5, 36, 37, 38, 15, 16, 17, 18, 7, 19, 20, 21, 39, 40, 41, 42, 43, 48, 49, 50, 51, 52, 53, 54, 55, 56, 57, 58, 59, 60, 61, 62] (by decide +kernel) (by decide +kernel)
set_option maxRecDepth 20000 in
theorem gL_rounds_X1_round : GoodIn wsL_rounds (wsV RL 93 RX1 yX1_round wsX1_round) := goodIn_app (goodIn_of _ (by decide +kernel)) ggL_rounds_X1_round
set_option maxRecDepth 20000 in
theorem ggL_rounds_X1_dayOf : GoodIn wsL_rounds wsX1_dayOf := goodIn_ca (goodIn_r _ [47, 12, 13, 37, 15, 16, 17, 5, 18, 7, 19, 20, 21, 48, 49, 50, 51, 52, 53, 54, 55, 56, 57, 58, 59, 60, 61, 62] (by decide +kernel) (by decide +kernel)) (goodIn_sub (fun _ h => List.mem_cons_of_mem _ (List.mem_append_right _ h)) (by decide +kernel))
set_option maxRecDepth 20000 in
theorem gL_rounds_X1_dayOf : GoodIn wsL_rounds (wsV RL 42 RX1 yX1_dayOf wsX1_dayOf) := goodIn_app (goodIn_of _ (by decide +kernel)) ggL_rounds_X1_dayOf
theorem dL_rounds_0 : decode cL_rounds 0 = .ok (.aload_n 0, 1) := by decide +kernel
theorem dL_rounds_1 : decode cL_rounds 1 = .ok (.invokevirtual 38, 3) := by decide +kernel
theorem dL_rounds_4 : decode cL_rounds 4 = .ok (.istore_n 3, 1) := by decide +kernel
theorem dL_rounds_5 : decode cL_rounds 5 = .ok (.iconst 0, 1) := by decide +kernel
theorem dL_rounds_6 : decode cL_rounds 6 = .ok (.istore 4, 2) := by decide +kernel
theorem dL_rounds_8 : decode cL_rounds 8 = .ok (.bipush 60, 2) := by decide +kernel
theorem dL_rounds_10 : decode cL_rounds 10 = .ok (.newarray .int, 2) := by decide +kernel
theorem dL_rounds_12 : decode cL_rounds 12 = .ok (.astore 5, 2) := by decide +kernel
theorem dL_rounds_14 : decode cL_rounds 14 = .ok (.bipush 60, 2) := by decide +kernel
theorem dL_rounds_16 : decode cL_rounds 16 = .ok (.newarray .int, 2) := by decide +kernel
theorem dL_rounds_18 : decode cL_rounds 18 = .ok (.astore 6, 2) := by decide +kernel
theorem dL_rounds_20 : decode cL_rounds 20 = .ok (.iconst 0, 1) := by decide +kernel
theorem dL_rounds_21 : decode cL_rounds 21 = .ok (.istore 7, 2) := by decide +kernel
theorem dL_rounds_23 : decode cL_rounds 23 = .ok (.iload 7, 2) := by decide +kernel
theorem dL_rounds_25 : decode cL_rounds 25 = .ok (.iload_n 3, 1) := by decide +kernel
theorem dL_rounds_26 : decode cL_rounds 26 = .ok (.if_icmp .ge 38, 3) := by decide +kernel
theorem dL_rounds_29 : decode cL_rounds 29 = .ok (.iload 7, 2) := by decide +kernel
theorem dL_rounds_31 : decode cL_rounds 31 = .ok (.bipush 60, 2) := by decide +kernel
theorem dL_rounds_33 : decode cL_rounds 33 = .ok (.if_icmp .ge 31, 3) := by decide +kernel
theorem dL_rounds_36 : decode cL_rounds 36 = .ok (.aload 5, 2) := by decide +kernel
theorem dL_rounds_38 : decode cL_rounds 38 = .ok (.iload 7, 2) := by decide +kernel
theorem dL_rounds_40 : decode cL_rounds 40 = .ok (.aload_n 0, 1) := by decide +kernel
theorem dL_rounds_41 : decode cL_rounds 41 = .ok (.iload 7, 2) := by decide +kernel
theorem dL_rounds_43 : decode cL_rounds 43 = .ok (.invokevirtual 49, 3) := by decide +kernel
theorem dL_rounds_46 : decode cL_rounds 46 = .ok (.iastore, 1) := by decide +kernel
theorem dL_rounds_47 : decode cL_rounds 47 = .ok (.aload 6, 2) := by decide +kernel
theorem dL_rounds_49 : decode cL_rounds 49 = .ok (.iload 7, 2) := by decide +kernel
theorem dL_rounds_51 : decode cL_rounds 51 = .ok (.aload_n 0, 1) := by decide +kernel
theorem dL_rounds_52 : decode cL_rounds 52 = .ok (.iload 7, 2) := by decide +kernel
theorem dL_rounds_54 : decode cL_rounds 54 = .ok (.invokevirtual 62, 3) := by decide +kernel
theorem dL_rounds_57 : decode cL_rounds 57 = .ok (.iastore, 1) := by decide +kernel
theorem dL_rounds_58 : decode cL_rounds 58 = .ok (.iinc 7 1, 3) := by decide +kernel
theorem dL_rounds_61 : decode cL_rounds 61 = .ok (.goto (-38), 3) := by decide +kernel
theorem dL_rounds_64 : decode cL_rounds 64 = .ok (.aload_n 0, 1) := by decide +kernel
theorem dL_rounds_65 : decode cL_rounds 65 = .ok (.invokevirtual 93, 3) := by decide +kernel
theorem dL_rounds_68 : decode cL_rounds 68 = .ok (.istore 7, 2) := by decide +kernel
theorem dL_rounds_70 : decode cL_rounds 70 = .ok (.aload_n 0, 1) := by decide +kernel
theorem dL_rounds_71 : decode cL_rounds 71 = .ok (.invokevirtual 38, 3) := by decide +kernel
theorem dL_rounds_74 : decode cL_rounds 74 = .ok (.iload_n 3, 1) := by decide +kernel
theorem dL_rounds_75 : decode cL_rounds 75 = .ok (.if_icmp .ne 7, 3) := by decide +kernel
theorem dL_rounds_78 : decode cL_rounds 78 = .ok (.iconst 1, 1) := by decide +kernel
theorem dL_rounds_79 : decode cL_rounds 79 = .ok (.goto 4, 3) := by decide +kernel
theorem dL_rounds_82 : decode cL_rounds 82 = .ok (.iconst 0, 1) := by decide +kernel
theorem dL_rounds_83 : decode cL_rounds 83 = .ok (.istore 8, 2) := by decide +kernel
theorem dL_rounds_85 : decode cL_rounds 85 = .ok (.iconst 0, 1) := by decide +kernel
theorem dL_rounds_86 : decode cL_rounds 86 = .ok (.istore 9, 2) := by decide +kernel
theorem dL_rounds_88 : decode cL_rounds 88 = .ok (.iload 9, 2) := by decide +kernel
theorem dL_rounds_90 : decode cL_rounds 90 = .ok (.iload_n 3, 1) := by decide +kernel
theorem dL_rounds_91 : decode cL_rounds 91 = .ok (.if_icmp .ge 193, 3) := by decide +kernel
theorem dL_rounds_94 : decode cL_rounds 94 = .ok (.iload 9, 2) := by decide +kernel
theorem dL_rounds_96 : decode cL_rounds 96 = .ok (.bipush 60, 2) := by decide +kernel
theorem dL_rounds_98 : decode cL_rounds 98 = .ok (.if_icmp .ge 186, 3) := by decide +kernel
theorem dL_rounds_101 : decode cL_rounds 101 = .ok (.iload 8, 2) := by decide +kernel
theorem dL_rounds_103 : decode cL_rounds 103 = .ok (.ifCond .eq 181, 3) := by decide +kernel
theorem dL_rounds_106 : decode cL_rounds 106 = .ok (.aload 6, 2) := by decide +kernel
theorem dL_rounds_108 : decode cL_rounds 108 = .ok (.iload 9, 2) := by decide +kernel
theorem dL_rounds_110 : decode cL_rounds 110 = .ok (.iaload, 1) := by decide +kernel
theorem dL_rounds_111 : decode cL_rounds 111 = .ok (.ifCond .ne 47, 3) := by decide +kernel
theorem dL_rounds_114 : decode cL_rounds 114 = .ok (.aload_n 1, 1) := by decide +kernel
theorem dL_rounds_115 : decode cL_rounds 115 = .ok (.iconst 0, 1) := by decide +kernel
theorem dL_rounds_116 : decode cL_rounds 116 = .ok (.iaload, 1) := by decide +kernel
theorem dL_rounds_117 : decode cL_rounds 117 = .ok (.aload_n 0, 1) := by decide +kernel
theorem dL_rounds_118 : decode cL_rounds 118 = .ok (.iload 9, 2) := by decide +kernel
theorem dL_rounds_120 : decode cL_rounds 120 = .ok (.invokevirtual 42, 3) := by decide +kernel
theorem dL_rounds_123 : decode cL_rounds 123 = .ok (.isub, 1) := by decide +kernel
theorem dL_rounds_124 : decode cL_rounds 124 = .ok (.aload_n 1, 1) := by decide +kernel
theorem dL_rounds_125 : decode cL_rounds 125 = .ok (.iconst 5, 1) := by decide +kernel
theorem dL_rounds_126 : decode cL_rounds 126 = .ok (.iaload, 1) := by decide +kernel
theorem dL_rounds_127 : decode cL_rounds 127 = .ok (.if_icmp .le 31, 3) := by decide +kernel
theorem dL_rounds_130 : decode cL_rounds 130 = .ok (.aload_n 2, 1) := by decide +kernel
theorem dL_rounds_131 : decode cL_rounds 131 = .ok (.iload 9, 2) := by decide +kernel
theorem dL_rounds_133 : decode cL_rounds 133 = .ok (.iaload, 1) := by decide +kernel
theorem dL_rounds_134 : decode cL_rounds 134 = .ok (.ifCond .eq 20, 3) := by decide +kernel
theorem dL_rounds_137 : decode cL_rounds 137 = .ok (.aload_n 1, 1) := by decide +kernel
theorem dL_rounds_138 : decode cL_rounds 138 = .ok (.iconst 0, 1) := by decide +kernel
theorem dL_rounds_139 : decode cL_rounds 139 = .ok (.iaload, 1) := by decide +kernel
theorem dL_rounds_140 : decode cL_rounds 140 = .ok (.aload_n 2, 1) := by decide +kernel
theorem dL_rounds_141 : decode cL_rounds 141 = .ok (.iload 9, 2) := by decide +kernel
theorem dL_rounds_143 : decode cL_rounds 143 = .ok (.iaload, 1) := by decide +kernel
theorem dL_rounds_144 : decode cL_rounds 144 = .ok (.isub, 1) := by decide +kernel
theorem dL_rounds_145 : decode cL_rounds 145 = .ok (.iconst 1, 1) := by decide +kernel
theorem dL_rounds_146 : decode cL_rounds 146 = .ok (.iadd, 1) := by decide +kernel
theorem dL_rounds_147 : decode cL_rounds 147 = .ok (.aload_n 1, 1) := by decide +kernel
theorem dL_rounds_148 : decode cL_rounds 148 = .ok (.bipush 6, 2) := by decide +kernel
theorem dL_rounds_150 : decode cL_rounds 150 = .ok (.iaload, 1) := by decide +kernel
theorem dL_rounds_151 : decode cL_rounds 151 = .ok (.if_icmp .lt 7, 3) := by decide +kernel
theorem dL_rounds_154 : decode cL_rounds 154 = .ok (.iconst 1, 1) := by decide +kernel
theorem dL_rounds_155 : decode cL_rounds 155 = .ok (.goto 4, 3) := by decide +kernel
theorem dL_rounds_158 : decode cL_rounds 158 = .ok (.iconst 0, 1) := by decide +kernel
theorem dL_rounds_159 : decode cL_rounds 159 = .ok (.istore 10, 2) := by decide +kernel
theorem dL_rounds_161 : decode cL_rounds 161 = .ok (.iload 10, 2) := by decide +kernel
theorem dL_rounds_163 : decode cL_rounds 163 = .ok (.ifCond .eq 16, 3) := by decide +kernel
theorem dL_rounds_166 : decode cL_rounds 166 = .ok (.aload 5, 2) := by decide +kernel
theorem dL_rounds_168 : decode cL_rounds 168 = .ok (.iload 9, 2) := by decide +kernel
theorem dL_rounds_170 : decode cL_rounds 170 = .ok (.iaload, 1) := by decide +kernel
theorem dL_rounds_171 : decode cL_rounds 171 = .ok (.iconst 3, 1) := by decide +kernel
theorem dL_rounds_172 : decode cL_rounds 172 = .ok (.if_icmp .ge 7, 3) := by decide +kernel
theorem dL_rounds_175 : decode cL_rounds 175 = .ok (.iconst 1, 1) := by decide +kernel
theorem dL_rounds_176 : decode cL_rounds 176 = .ok (.goto 4, 3) := by decide +kernel
theorem dL_rounds_179 : decode cL_rounds 179 = .ok (.iconst 0, 1) := by decide +kernel
theorem dL_rounds_180 : decode cL_rounds 180 = .ok (.istore 11, 2) := by decide +kernel
theorem dL_rounds_182 : decode cL_rounds 182 = .ok (.iload 4, 2) := by decide +kernel
theorem dL_rounds_184 : decode cL_rounds 184 = .ok (.iload 11, 2) := by decide +kernel
theorem dL_rounds_186 : decode cL_rounds 186 = .ok (.ifCond .eq 7, 3) := by decide +kernel
theorem dL_rounds_189 : decode cL_rounds 189 = .ok (.iconst 1, 1) := by decide +kernel
theorem dL_rounds_190 : decode cL_rounds 190 = .ok (.goto 4, 3) := by decide +kernel
theorem dL_rounds_193 : decode cL_rounds 193 = .ok (.iconst 0, 1) := by decide +kernel
theorem dL_rounds_194 : decode cL_rounds 194 = .ok (.iadd, 1) := by decide +kernel
theorem dL_rounds_195 : decode cL_rounds 195 = .ok (.istore 4, 2) := by decide +kernel
theorem dL_rounds_197 : decode cL_rounds 197 = .ok (.aload_n 2, 1) := by decide +kernel
theorem dL_rounds_198 : decode cL_rounds 198 = .ok (.iload 9, 2) := by decide +kernel
theorem dL_rounds_200 : decode cL_rounds 200 = .ok (.iload 11, 2) := by decide +kernel
theorem dL_rounds_202 : decode cL_rounds 202 = .ok (.ifCond .eq 11, 3) := by decide +kernel
theorem dL_rounds_205 : decode cL_rounds 205 = .ok (.aload_n 1, 1) := by decide +kernel
theorem dL_rounds_206 : decode cL_rounds 206 = .ok (.iconst 0, 1) := by decide +kernel
theorem dL_rounds_207 : decode cL_rounds 207 = .ok (.iaload, 1) := by decide +kernel
theorem dL_rounds_208 : decode cL_rounds 208 = .ok (.iconst 1, 1) := by decide +kernel
theorem dL_rounds_209 : decode cL_rounds 209 = .ok (.iadd, 1) := by decide +kernel
theorem dL_rounds_210 : decode cL_rounds 210 = .ok (.goto 7, 3) := by decide +kernel
theorem dL_rounds_213 : decode cL_rounds 213 = .ok (.aload_n 2, 1) := by decide +kernel
theorem dL_rounds_214 : decode cL_rounds 214 = .ok (.iload 9, 2) := by decide +kernel
theorem dL_rounds_216 : decode cL_rounds 216 = .ok (.iaload, 1) := by decide +kernel
theorem dL_rounds_217 : decode cL_rounds 217 = .ok (.iastore, 1) := by decide +kernel
theorem dL_rounds_218 : decode cL_rounds 218 = .ok (.aload_n 0, 1) := by decide +kernel
theorem dL_rounds_219 : decode cL_rounds 219 = .ok (.iload 9, 2) := by decide +kernel
theorem dL_rounds_221 : decode cL_rounds 221 = .ok (.invokevirtual 49, 3) := by decide +kernel
theorem dL_rounds_224 : decode cL_rounds 224 = .ok (.aload 5, 2) := by decide +kernel
theorem dL_rounds_226 : decode cL_rounds 226 = .ok (.iload 9, 2) := by decide +kernel
theorem dL_rounds_228 : decode cL_rounds 228 = .ok (.iaload, 1) := by decide +kernel
theorem dL_rounds_229 : decode cL_rounds 229 = .ok (.iload 11, 2) := by decide +kernel
theorem dL_rounds_231 : decode cL_rounds 231 = .ok (.ifCond .eq 7, 3) := by decide +kernel
theorem dL_rounds_234 : decode cL_rounds 234 = .ok (.iconst 1, 1) := by decide +kernel
theorem dL_rounds_235 : decode cL_rounds 235 = .ok (.goto 4, 3) := by decide +kernel
theorem dL_rounds_238 : decode cL_rounds 238 = .ok (.iconst 0, 1) := by decide +kernel
theorem dL_rounds_239 : decode cL_rounds 239 = .ok (.iadd, 1) := by decide +kernel
theorem dL_rounds_240 : decode cL_rounds 240 = .ok (.if_icmp .ne 35, 3) := by decide +kernel
theorem dL_rounds_243 : decode cL_rounds 243 = .ok (.aload_n 0, 1) := by decide +kernel
theorem dL_rounds_244 : decode cL_rounds 244 = .ok (.iload 9, 2) := by decide +kernel
theorem dL_rounds_246 : decode cL_rounds 246 = .ok (.invokevirtual 62, 3) := by decide +kernel
theorem dL_rounds_249 : decode cL_rounds 249 = .ok (.iload 10, 2) := by decide +kernel
theorem dL_rounds_251 : decode cL_rounds 251 = .ok (.ifCond .eq 12, 3) := by decide +kernel
theorem dL_rounds_254 : decode cL_rounds 254 = .ok (.iload 11, 2) := by decide +kernel
theorem dL_rounds_256 : decode cL_rounds 256 = .ok (.ifCond .ne 7, 3) := by decide +kernel
theorem dL_rounds_259 : decode cL_rounds 259 = .ok (.iconst 3, 1) := by decide +kernel
theorem dL_rounds_260 : decode cL_rounds 260 = .ok (.goto 8, 3) := by decide +kernel
theorem dL_rounds_263 : decode cL_rounds 263 = .ok (.aload 6, 2) := by decide +kernel
theorem dL_rounds_265 : decode cL_rounds 265 = .ok (.iload 9, 2) := by decide +kernel
theorem dL_rounds_267 : decode cL_rounds 267 = .ok (.iaload, 1) := by decide +kernel
theorem dL_rounds_268 : decode cL_rounds 268 = .ok (.if_icmp .ne 7, 3) := by decide +kernel
theorem dL_rounds_271 : decode cL_rounds 271 = .ok (.iconst 1, 1) := by decide +kernel
theorem dL_rounds_272 : decode cL_rounds 272 = .ok (.goto 4, 3) := by decide +kernel
theorem dL_rounds_275 : decode cL_rounds 275 = .ok (.iconst 0, 1) := by decide +kernel
theorem dL_rounds_276 : decode cL_rounds 276 = .ok (.istore 8, 2) := by decide +kernel
theorem dL_rounds_278 : decode cL_rounds 278 = .ok (.iinc 9 1, 3) := by decide +kernel
theorem dL_rounds_281 : decode cL_rounds 281 = .ok (.goto (-193), 3) := by decide +kernel
theorem dL_rounds_284 : decode cL_rounds 284 = .ok (.iload 8, 2) := by decide +kernel
theorem dL_rounds_286 : decode cL_rounds 286 = .ok (.ifCond .eq 33, 3) := by decide +kernel
theorem dL_rounds_289 : decode cL_rounds 289 = .ok (.iload_n 3, 1) := by decide +kernel
theorem dL_rounds_290 : decode cL_rounds 290 = .ok (.bipush 60, 2) := by decide +kernel
theorem dL_rounds_292 : decode cL_rounds 292 = .ok (.if_icmp .gt 10, 3) := by decide +kernel
theorem dL_rounds_295 : decode cL_rounds 295 = .ok (.iload 7, 2) := by decide +kernel
theorem dL_rounds_297 : decode cL_rounds 297 = .ok (.iload 4, 2) := by decide +kernel
theorem dL_rounds_299 : decode cL_rounds 299 = .ok (.if_icmp .ne 20, 3) := by decide +kernel
theorem dL_rounds_302 : decode cL_rounds 302 = .ok (.iload_n 3, 1) := by decide +kernel
theorem dL_rounds_303 : decode cL_rounds 303 = .ok (.bipush 60, 2) := by decide +kernel
theorem dL_rounds_305 : decode cL_rounds 305 = .ok (.if_icmp .gt 10, 3) := by decide +kernel
theorem dL_rounds_308 : decode cL_rounds 308 = .ok (.aload_n 0, 1) := by decide +kernel
theorem dL_rounds_309 : decode cL_rounds 309 = .ok (.invokevirtual 93, 3) := by decide +kernel
theorem dL_rounds_312 : decode cL_rounds 312 = .ok (.ifCond .ne 7, 3) := by decide +kernel
theorem dL_rounds_315 : decode cL_rounds 315 = .ok (.iconst 1, 1) := by decide +kernel
theorem dL_rounds_316 : decode cL_rounds 316 = .ok (.goto 4, 3) := by decide +kernel
theorem dL_rounds_319 : decode cL_rounds 319 = .ok (.iconst 0, 1) := by decide +kernel
theorem dL_rounds_320 : decode cL_rounds 320 = .ok (.ireturn, 1) := by decide +kernel
set_option maxRecDepth 20000 in
theorem ggL_step_X1_foretold : GoodIn wsL_step wsX1_foretold := goodIn_r _ [5, 6, 196, 197, 198, 199, 200, 201, 202, 203, 204, 205, 206, 207, 208, 209, 210] (by decide +kernel) (by decide +kernel)
set_option maxRecDepth 20000 in
theorem gL_step_X1_foretold : GoodIn wsL_step (wsV RL 38 RX1 yX1_foretold wsX1_foretold) := goodIn_app (goodIn_of _ (by decide +kernel)) ggL_step_X1_foretold
set_option maxRecDepth 20000 in
theorem ggL_step_X1_shift : GoodIn wsL_step wsX1_shift := goodIn_r _ [10, 11, 196, 197, 198, 199, 200, 201, 202, 203, 204, 205, 206, 207, 208, 209, 210] (by decide +kernel) (by decide +kernel)
set_option maxRecDepth 20000 in
theorem gL_step_X1_shift : GoodIn wsL_step (wsV RL 52 RX1 yX1_shift wsX1_shift) := goodIn_app (goodIn_of _ (by decide +kernel)) ggL_step_X1_shift
set_option maxRecDepth 20000 in
theorem ggL_step_X1_stateOf : GoodIn wsL_step wsX1_stateOf := goodIn_ca (goodIn_r _ [15, 16, 17, 18, 19, 20, 21, 4, 22, 6, 23, 24, 25, 196, 197, 198, 199, 200, 201, 202, 203, 204, 205, 206, 207, 208, 209, 210] (by decide +kernel) (by decide +kernel)) (goodIn_sub (fun _ h => List.mem_cons_of_mem _ (List.mem_append_left _ (List.mem_append_left _ (List.mem_append_right _ h)))) (by decide +kernel))
set_option maxRecDepth 20000 in
theorem gL_step_X1_stateOf : GoodIn wsL_step (wsV RL 62 RX1 yX1_stateOf wsX1_stateOf) := goodIn_app (goodIn_of _ (by decide +kernel)) ggL_step_X1_stateOf
set_option maxRecDepth 100000 in
theorem bgL_step_checks_1 : GoodIn wsL_step wsL_checks_r1 := goodIn_sub (List.forall_mem_cons.mpr ⟨List.mem_of_getElem? (i := 30) rfl, List.forall_mem_cons.mpr ⟨List.mem_of_getElem? (i := 1) rfl, List.forall_mem_cons.mpr ⟨List.mem_of_getElem? (i := 2) rfl, List.forall_mem_cons.mpr ⟨List.mem_of_getElem? (i := 3) rfl, List.forall_mem_cons.mpr ⟨List.mem_of_getElem? (i := 4) rfl, List.forall_mem_cons.mpr ⟨List.mem_of_getElem? (i := 5) rfl, List.forall_mem_cons.mpr ⟨List.mem_of_getElem? (i := 6) rfl, List.forall_mem_cons.mpr ⟨List.mem_of_getElem? (i := 7) rfl, List.forall_mem_cons.mpr ⟨List.mem_of_getElem? (i := 8) rfl, List.forall_mem_cons.mpr ⟨List.mem_of_getElem? (i := 9) rfl, List.forall_mem_cons.mpr ⟨List.mem_of_getElem? (i := 10) rfl, List.forall_mem_cons.mpr ⟨List.mem_of_getElem? (i := 11) rfl, List.forall_mem_cons.mpr ⟨List.mem_of_getElem? (i := 12) rfl, List.forall_mem_cons.mpr ⟨List.mem_of_getElem? (i := 13) rfl, List.forall_mem_cons.mpr ⟨List.mem_of_getElem? (i := 14) rfl, List.forall_mem_cons.mpr ⟨List.mem_of_getElem? (i := 15) rfl, List.forall_mem_cons.mpr ⟨List.mem_of_getElem? (i := 16) rfl, List.forall_mem_cons.mpr ⟨List.mem_of_getElem? (i := 17) rfl, List.forall_mem_cons.mpr ⟨List.mem_of_getElem? (i := 18) rfl, List.forall_mem_cons.mpr ⟨List.mem_of_getElem? (i := 19) rfl, List.forall_mem_cons.mpr ⟨List.mem_of_getElem? (i := 20) rfl, List.forall_mem_cons.mpr ⟨List.mem_of_getElem? (i := 21) rfl, List.forall_mem_cons.mpr ⟨List.mem_of_getElem? (i := 22) rfl, List.forall_mem_cons.mpr ⟨List.mem_of_getElem? (i := 23) rfl, fun _ h => absurd h List.not_mem_nil⟩⟩⟩⟩⟩⟩⟩⟩⟩⟩⟩⟩⟩⟩⟩⟩⟩⟩⟩⟩⟩⟩⟩⟩) (by decide +kernel)
set_option maxRecDepth 100000 in
theorem bgL_step_checks_2 : GoodIn wsL_step wsL_checks_r2 := goodIn_sub (List.forall_mem_cons.mpr ⟨List.mem_of_getElem? (i := 24) rfl, List.forall_mem_cons.mpr ⟨List.mem_of_getElem? (i := 25) rfl, List.forall_mem_cons.mpr ⟨List.mem_of_getElem? (i := 31) rfl, List.forall_mem_cons.mpr ⟨List.mem_of_getElem? (i := 32) rfl, List.forall_mem_cons.mpr ⟨List.mem_of_getElem? (i := 28) rfl, List.forall_mem_cons.mpr ⟨List.mem_of_getElem? (i := 33) rfl, List.forall_mem_cons.mpr ⟨List.mem_of_getElem? (i := 34) rfl, List.forall_mem_cons.mpr ⟨List.mem_of_getElem? (i := 35) rfl, List.forall_mem_cons.mpr ⟨List.mem_of_getElem? (i := 36) rfl, List.forall_mem_cons.mpr ⟨List.mem_of_getElem? (i := 37) rfl, List.forall_mem_cons.mpr ⟨List.mem_of_getElem? (i := 38) rfl, List.forall_mem_cons.mpr ⟨List.mem_of_getElem? (i := 39) rfl, List.forall_mem_cons.mpr ⟨List.mem_of_getElem? (i := 40) rfl, List.forall_mem_cons.mpr ⟨List.mem_of_getElem? (i := 41) rfl, List.forall_mem_cons.mpr ⟨List.mem_of_getElem? (i := 42) rfl, List.forall_mem_cons.mpr ⟨List.mem_of_getElem? (i := 43) rfl, List.forall_mem_cons.mpr ⟨List.mem_of_getElem? (i := 44) rfl, List.forall_mem_cons.mpr ⟨List.mem_of_getElem? (i := 45) rfl, List.forall_mem_cons.mpr ⟨List.mem_of_getElem? (i := 46) rfl, List.forall_mem_cons.mpr ⟨List.mem_of_getElem? (i := 47) rfl, List.forall_mem_cons.mpr ⟨List.mem_of_getElem? (i := 48) rfl, List.forall_mem_cons.mpr ⟨List.mem_of_getElem? (i := 49) rfl, List.forall_mem_cons.mpr ⟨List.mem_of_getElem? (i := 50) rfl, List.forall_mem_cons.mpr ⟨List.mem_of_getElem? (i := 51) rfl, fun _ h => absurd h List.not_mem_nil⟩⟩⟩⟩⟩⟩⟩⟩⟩⟩⟩⟩⟩⟩⟩⟩⟩⟩⟩⟩⟩⟩⟩⟩) (by decide +kernel)
set_option maxRecDepth 100000 in
theorem bgL_step_checks_3 : GoodIn wsL_step wsL_checks_r3 := goodIn_sub (List.forall_mem_cons.mpr ⟨List.mem_of_getElem? (i := 52) rfl, List.forall_mem_cons.mpr ⟨List.mem_of_getElem? (i := 53) rfl, List.forall_mem_cons.mpr ⟨List.mem_of_getElem? (i := 54) rfl, List.forall_mem_cons.mpr ⟨List.mem_of_getElem? (i := 55) rfl, List.forall_mem_cons.mpr ⟨List.mem_of_getElem? (i := 56) rfl, List.forall_mem_cons.mpr ⟨List.mem_of_getElem? (i := 57) rfl, List.forall_mem_cons.mpr ⟨List.mem_of_getElem? (i := 58) rfl, List.forall_mem_cons.mpr ⟨List.mem_of_getElem? (i := 59) rfl, List.forall_mem_cons.mpr ⟨List.mem_of_getElem? (i := 60) rfl, List.forall_mem_cons.mpr ⟨List.mem_of_getElem? (i := 61) rfl, List.forall_mem_cons.mpr ⟨List.mem_of_getElem? (i := 62) rfl, List.forall_mem_cons.mpr ⟨List.mem_of_getElem? (i := 63) rfl, List.forall_mem_cons.mpr ⟨List.mem_of_getElem? (i := 64) rfl, List.forall_mem_cons.mpr ⟨List.mem_of_getElem? (i := 65) rfl, List.forall_mem_cons.mpr ⟨List.mem_of_getElem? (i := 66) rfl, List.forall_mem_cons.mpr ⟨List.mem_of_getElem? (i := 67) rfl, List.forall_mem_cons.mpr ⟨List.mem_of_getElem? (i := 68) rfl, List.forall_mem_cons.mpr ⟨List.mem_of_getElem? (i := 69) rfl, List.forall_mem_cons.mpr ⟨List.mem_of_getElem? (i := 70) rfl, List.forall_mem_cons.mpr ⟨List.mem_of_getElem? (i := 71) rfl, List.forall_mem_cons.mpr ⟨List.mem_of_getElem? (i := 72) rfl, List.forall_mem_cons.mpr ⟨List.mem_of_getElem? (i := 73) rfl, List.forall_mem_cons.mpr ⟨List.mem_of_getElem? (i := 74) rfl, List.forall_mem_cons.mpr ⟨List.mem_of_getElem? (i := 75) rfl, fun _ h => absurd h List.not_mem_nil⟩⟩⟩⟩⟩⟩⟩⟩⟩⟩⟩⟩⟩⟩⟩⟩⟩⟩⟩⟩⟩⟩⟩⟩) (by decide +kernel)
set_option maxRecDepth 100000 in
theorem bgL_step_checks_4 : GoodIn wsL_step wsL_checks_r4 := goodIn_sub (List.forall_mem_cons.mpr ⟨List.mem_of_getElem? (i := 76) rfl, List.forall_mem_cons.mpr ⟨List.mem_of_getElem? (i := 77) rfl, List.forall_mem_cons.mpr ⟨List.mem_of_getElem? (i := 78) rfl, List.forall_mem_cons.mpr ⟨List.mem_of_getElem? (i := 79) rfl, List.forall_mem_cons.mpr ⟨List.mem_of_getElem? (i := 80) rfl, List.forall_mem_cons.mpr ⟨List.mem_of_getElem? (i := 81) rfl, List.forall_mem_cons.mpr ⟨List.mem_of_getElem? (i := 82) rfl, List.forall_mem_cons.mpr ⟨List.mem_of_getElem? (i := 83) rfl, List.forall_mem_cons.mpr ⟨List.mem_of_getElem? (i := 84) rfl, List.forall_mem_cons.mpr ⟨List.mem_of_getElem? (i := 85) rfl, List.forall_mem_cons.mpr ⟨List.mem_of_getElem? (i := 86) rfl, List.forall_mem_cons.mpr ⟨List.mem_of_getElem? (i := 87) rfl, List.forall_mem_cons.mpr ⟨List.mem_of_getElem? (i := 88) rfl, List.forall_mem_cons.mpr ⟨List.mem_of_getElem? (i := 89) rfl, List.forall_mem_cons.mpr ⟨List.mem_of_getElem? (i := 90) rfl, List.forall_mem_cons.mpr ⟨List.mem_of_getElem? (i := 91) rfl, List.forall_mem_cons.mpr ⟨List.mem_of_getElem? (i := 92) rfl, List.forall_mem_cons.mpr ⟨List.mem_of_getElem? (i := 93) rfl, List.forall_mem_cons.mpr ⟨List.mem_of_getElem? (i := 94) rfl, List.forall_mem_cons.mpr ⟨List.mem_of_getElem? (i := 95) rfl, List.forall_mem_cons.mpr ⟨List.mem_of_getElem? (i := 96) rfl, List.forall_mem_cons.mpr ⟨List.mem_of_getElem? (i := 97) rfl, List.forall_mem_cons.mpr ⟨List.mem_of_getElem? (i := 98) rfl, List.forall_mem_cons.mpr ⟨List.mem_of_getElem? (i := 99) rfl, fun _ h => absurd h List.not_mem_nil⟩⟩⟩⟩⟩⟩⟩⟩⟩⟩⟩⟩⟩⟩⟩⟩⟩⟩⟩⟩⟩⟩⟩⟩) (by decide +kernel)
set_option maxRecDepth 100000 in
theorem bgL_step_checks_5 : GoodIn wsL_step wsL_checks_r5 := goodIn_sub (List.forall_mem_cons.mpr ⟨List.mem_of_getElem? (i := 100) rfl, List.forall_mem_cons.mpr ⟨List.mem_of_getElem? (i := 101) rfl, List.forall_mem_cons.mpr ⟨List.mem_of_getElem? (i := 102) rfl, List.forall_mem_cons.mpr ⟨List.mem_of_getElem? (i := 103) rfl, List.forall_mem_cons.mpr ⟨List.mem_of_getElem? (i := 104) rfl, List.forall_mem_cons.mpr ⟨List.mem_of_getElem? (i := 105) rfl, List.forall_mem_cons.mpr ⟨List.mem_of_getElem? (i := 106) rfl, List.forall_mem_cons.mpr ⟨List.mem_of_getElem? (i := 107) rfl, List.forall_mem_cons.mpr ⟨List.mem_of_getElem? (i := 108) rfl, List.forall_mem_cons.mpr ⟨List.mem_of_getElem? (i := 109) rfl, List.forall_mem_cons.mpr ⟨List.mem_of_getElem? (i := 110) rfl, List.forall_mem_cons.mpr ⟨List.mem_of_getElem? (i := 111) rfl, List.forall_mem_cons.mpr ⟨List.mem_of_getElem? (i := 112) rfl, List.forall_mem_cons.mpr ⟨List.mem_of_getElem? (i := 113) rfl, List.forall_mem_cons.mpr ⟨List.mem_of_getElem? (i := 114) rfl, List.forall_mem_cons.mpr ⟨List.mem_of_getElem? (i := 115) rfl, List.forall_mem_cons.mpr ⟨List.mem_of_getElem? (i := 116) rfl, List.forall_mem_cons.mpr ⟨List.mem_of_getElem? (i := 117) rfl, List.forall_mem_cons.mpr ⟨List.mem_of_getElem? (i := 118) rfl, List.forall_mem_cons.mpr ⟨List.mem_of_getElem? (i := 119) rfl, List.forall_mem_cons.mpr ⟨List.mem_of_getElem? (i := 120) rfl, List.forall_mem_cons.mpr ⟨List.mem_of_getElem? (i := 121) rfl, List.forall_mem_cons.mpr ⟨List.mem_of_getElem? (i := 122) rfl, List.forall_mem_cons.mpr ⟨List.mem_of_getElem? (i := 123) rfl, fun _ h => absurd h List.not_mem_nil⟩⟩⟩⟩⟩⟩⟩⟩⟩⟩⟩⟩⟩⟩⟩⟩⟩⟩⟩⟩⟩⟩⟩⟩) (by decide +kernel)
set_option maxRecDepth 100000 in
theorem bgL_step_checks_6 : GoodIn wsL_step wsL_checks_r6 := goodIn_sub (List.forall_mem_cons.mpr ⟨List.mem_of_getElem? (i := 124) rfl, List.forall_mem_cons.mpr ⟨List.mem_of_getElem? (i := 125) rfl, List.forall_mem_cons.mpr ⟨List.mem_of_getElem? (i := 126) rfl, List.forall_mem_cons.mpr ⟨List.mem_of_getElem? (i := 127) rfl, List.forall_mem_cons.mpr ⟨List.mem_of_getElem? (i := 128) rfl, List.forall_mem_cons.mpr ⟨List.mem_of_getElem? (i := 129) rfl, List.forall_mem_cons.mpr ⟨List.mem_of_getElem? (i := 130) rfl, List.forall_mem_cons.mpr ⟨List.mem_of_getElem? (i := 131) rfl, List.forall_mem_cons.mpr ⟨List.mem_of_getElem? (i := 132) rfl, List.forall_mem_cons.mpr ⟨List.mem_of_getElem? (i := 133) rfl, List.forall_mem_cons.mpr ⟨List.mem_of_getElem? (i := 134) rfl, List.forall_mem_cons.mpr ⟨List.mem_of_getElem? (i := 135) rfl, List.forall_mem_cons.mpr ⟨List.mem_of_getElem? (i := 136) rfl, List.forall_mem_cons.mpr ⟨List.mem_of_getElem? (i := 137) rfl, List.forall_mem_cons.mpr ⟨List.mem_of_getElem? (i := 138) rfl, List.forall_mem_cons.mpr ⟨List.mem_of_getElem? (i := 139) rfl, List.forall_mem_cons.mpr ⟨List.mem_of_getElem? (i := 140) rfl, List.forall_mem_cons.mpr ⟨List.mem_of_getElem? (i := 141) rfl, List.forall_mem_cons.mpr ⟨List.mem_of_getElem? (i := 142) rfl, fun _ h => absurd h List.not_mem_nil⟩⟩⟩⟩⟩⟩⟩⟩⟩⟩⟩⟩⟩⟩⟩⟩⟩⟩⟩) (by decide +kernel)
set_option maxRecDepth 100000 in
theorem bcL_step_checks : GoodIn wsL_step [.code yL_checks cL_checks 16 (some .boolean)] := goodIn_sub (List.forall_mem_cons.mpr ⟨List.mem_of_getElem? (i := 29) rfl, fun _ h => absurd h List.not_mem_nil⟩) (by decide +kernel)
set_option maxRecDepth 100000 in
theorem ggL_step_L_checks : GoodIn wsL_step wsL_checks := goodIn_ca (goodIn_ca (goodIn_ca (goodIn_ca (goodIn_ca (goodIn_co bcL_step_checks (goodIn_app bgL_step_checks_1 (goodIn_app bgL_step_checks_2 (goodIn_app bgL_step_checks_3 (goodIn_app bgL_step_checks_4 (goodIn_app bgL_step_checks_5 (bgL_step_checks_6))))))) (goodIn_sub (fun _ h => List.mem_cons_of_mem _ (List.mem_append_left _ (List.mem_append_left _ (List.mem_append_left _ (List.mem_append_left _ (List.mem_append_right _ h)))))) (by decide +kernel))) (goodIn_sub (fun _ h => List.mem_cons_of_mem _ (List.mem_append_left _ (List.mem_append_left _ (List.mem_append_left _ (List.mem_append_right _ h))))) (by decide +kernel))) (goodIn_sub (fun _ h => List.mem_cons_of_mem _ (List.mem_append_left _ (List.mem_append_left _ (List.mem_append_right _ h)))) (by decide +kernel))) (goodIn_sub (fun _ h => List.mem_cons_of_mem _ (List.mem_append_left _ (List.mem_append_right _ h))) (by decide +kernel))) (goodIn_sub (fun _ h => List.mem_cons_of_mem _ (List.mem_append_right _ h)) (by decide +kernel))
set_option maxRecDepth 20000 in
theorem gL_step_L_checks : GoodIn wsL_step (va_wsS RL 96 yL_checks wsL_checks) := goodIn_app (goodIn_of _ (by decide +kernel)) ggL_step_L_checks
set_option maxRecDepth 20000 in
theorem ggL_step_L_asks : GoodIn wsL_step wsL_asks := goodIn_ca (goodIn_ca (goodIn_ca (goodIn_r _ [33, 34, 35, 36, 37, 38, 4, 39, 16, 17, 40, 41, 42, 43, 6, 23, 24, 25, 44, 45, 46, 47, 48, 49, 50, 18, 19, 20, 21, 22, 51, 52, 53, 54, 55, 56, 57, 58, 59, 11, 60, 61, 62, 63, 64, 65, 66, 67, 68, 69, 70, 71, 72, 73, 74, 75, 76, 77, 78, 79, 80, 81, 82, 83, 84, 85, 86, 87, 88, 89, 90, 91, 92, 93, 94, 95, 96, 97, 98, 99, 100, 101, 102, 103, 104, 28, 105, 106, 107, 108, 109, 110, 111, 112, 113, 114, 115, 116, 117, 118, 119, 120, 121, 122, 123, 124, 125, 126, 127, 128, 129, 196, 197, 198, 199, 200, 201, 202, 203, 204, 205, 206, 207, 208, 209, 210, 211, 212, 213, 214] (by decide +kernel) (by decide +kernel)) (goodIn_sub (fun _ h => List.mem_cons_of_mem _ (List.mem_append_left _ (List.mem_append_left _ (List.mem_append_right _ h)))) (by decide +kernel))) (goodIn_sub (fun _ h => List.mem_cons_of_mem _ (List.mem_append_left _ (List.mem_append_right _ h))) (by decide +kernel))) (goodIn_sub (fun _ h => List.mem_cons_of_mem _ (List.mem_append_right _ h)) (by decide +kernel))
set_option maxRecDepth 20000 in
theorem gL_step_L_asks : GoodIn wsL_step (va_wsS RL 58 yL_asks wsL_asks) := goodIn_app (goodIn_of _ (by decide +kernel)) ggL_step_L_asks
set_option maxRecDepth 20000 in
theorem ggL_step_L_rounds : GoodIn wsL_step wsL_rounds := goodIn_ca (goodIn_r _ [145, 30, 1, 2, 3, 4, 5, 6, 146, 147, 148, 149, 16, 17, 150, 19, 20, 21, 22, 23, 24, 25, 12, 13, 14, 15, 18, 151, 152, 153, 154, 155, 88, 156, 157, 158, 159, 59, 160, 161, 162, 163, 164, 165, 130, 131, 132, 133, 196, 197, 198, 199, 200, 201, 202, 203, 204, 205, 206, 207, 208, 209, 210] (by decide +kernel) (by decide +kernel)) (goodIn_sub (fun _ h => List.mem_cons_of_mem _ (List.mem_append_left _ (List.mem_append_left _ (List.mem_append_right _ h)))) (by decide +kernel))
set_option maxRecDepth 20000 in
theorem gL_step_L_rounds : GoodIn wsL_step (va_wsS RL 100 yL_rounds wsL_rounds) := goodIn_app (goodIn_of _ (by decide +kernel)) ggL_step_L_rounds
set_option maxRecDepth 20000 in
theorem ggL_step_X1_setClaims : GoodIn wsL_step wsX1_setClaims := goodIn_ca (goodIn_r _ [169, 40, 41, 160, 165, 44, 45, 4, 46, 196, 197, 198, 199, 200, 201, 202, 203, 204, 205, 206, 207, 208, 209, 210] (by decide +kernel) (by decide +kernel)) (goodIn_sub (fun _ h => List.mem_cons_of_mem _ (List.mem_append_left _ (List.mem_append_right _ h))) (by decide +kernel))
set_option maxRecDepth 20000 in
theorem gL_step_X1_setClaims : GoodIn wsL_step (wsV RL 104 RX1 yX1_setClaims wsX1_setClaims) := goodIn_app (goodIn_of _ (by decide +kernel)) ggL_step_X1_setClaims
set_option maxRecDepth 20000 in
theorem ggL_step_X1_setPattern : GoodIn wsL_step wsX1_setPattern := goodIn_ca (goodIn_r _ [173, 40, 41, 64, 44, 45, 4, 46, 174, 175, 176, 68, 177, 70, 178, 179, 79, 99, 100, 101, 102, 6, 88, 60, 61, 62, 63, 59, 11, 23, 24, 25, 65, 66, 67, 69, 71, 72, 73, 74, 75, 76, 77, 78, 55, 56, 57, 58, 196, 197, 198, 199, 200, 201, 202, 203, 204, 205, 206, 207, 208, 209, 210, 211, 212, 213, 214] (by decide +kernel) (by decide +kernel)) (goodIn_sub (fun _ h => List.mem_cons_of_mem _ (List.mem_append_left _ (List.mem_append_right _ h))) (by decide +kernel))
set_option maxRecDepth 20000 in
theorem gL_step_X1_setPattern : GoodIn wsL_step (wsV RL 108 RX1 yX1_setPattern wsX1_setPattern) := goodIn_app (goodIn_of _ (by decide +kernel)) ggL_step_X1_setPattern
set_option maxRecDepth 20000 in
theorem ggL_step_L_areForetold : GoodIn wsL_step wsL_areForetold := goodIn_ca (goodIn_r _ [182, 1, 2, 3, 4, 5, 6, 130, 131, 132, 133, 16, 17, 59, 19, 20, 21, 22, 23, 24, 25, 137, 138, 28, 139, 140, 141, 142, 146, 147, 148, 149, 150, 7, 8, 9, 10, 11, 196, 197, 198, 199, 200, 201, 202, 203, 204, 205, 206, 207, 208, 209, 210] (by decide +kernel) (by decide +kernel)) (goodIn_sub (fun _ h => List.mem_cons_of_mem _ (List.mem_append_left _ (List.mem_append_left _ (List.mem_append_right _ h)))) (by decide +kernel))
set_option maxRecDepth 20000 in
theorem gL_step_L_areForetold : GoodIn wsL_step (va_wsS RL 112 yL_areForetold wsL_areForetold) := goodIn_app (goodIn_of _ (by decide +kernel)) ggL_step_L_areForetold
set_option maxRecDepth 20000 in
theorem ggL_step_L_isThere : GoodIn wsL_step wsL_isThere := goodIn_r _ [185] (by decide +kernel) (by decide +kernel)
set_option maxRecDepth 20000 in
theorem gL_step_L_isThere : GoodIn wsL_step (va_wsS RL 69 yL_isThere wsL_isThere) := goodIn_app (goodIn_of _ (by decide +kernel)) ggL_step_L_isThere
set_option maxRecDepth 20000 in
theorem ggL_step_X1_give : GoodIn wsL_step wsX1_give := goodIn_ca (goodIn_r _ [189, 40, 41, 190, 191, 23, 24, 4, 25, 44, 45, 46, 196, 197, 198, 199, 200, 201, 202, 203, 204, 205, 206, 207, 208, 209, 210] (by decide +kernel) (by decide +kernel)) (goodIn_sub (fun _ h => List.mem_cons_of_mem _ (List.mem_append_left _ (List.mem_append_right _ h))) (by decide +kernel))
set_option maxRecDepth 20000 in
theorem gL_step_X1_give : GoodIn wsL_step (wsV RL 116 RX1 yX1_give wsX1_give) := goodIn_app (goodIn_of _ (by decide +kernel)) ggL_step_X1_give
set_option maxRecDepth 20000 in
theorem ggL_step_X1_advance : GoodIn wsL_step wsX1_advance := goodIn_ca (goodIn_ca (goodIn_r _ [195, 40, 41, 42, 43, 88, 44, 45, 4, 46, 99, 100, 101, 102, 6, 60, 61, 62, 63, 64, 59, 11, 23, 24, 25, 65, 66, 67, 68, 69, 70, 71, 72, 73, 74, 75, 76, 77, 78, 79, 55, 56, 57, 58, 196, 197, 198, 199, 200, 201, 202, 203, 204, 205, 206, 207, 208, 209, 210, 211, 212, 213, 214] (by decide +kernel) (by decide +kernel)) (goodIn_sub (fun _ h => List.mem_cons_of_mem _ (List.mem_append_left _ (List.mem_append_right _ h))) (by decide +kernel))) (goodIn_sub (fun _ h => List.mem_cons_of_mem _ (List.mem_append_right _ h)) (by decide +kernel))
set_option maxRecDepth 20000 in
theorem gL_step_X1_advance : GoodIn wsL_step (wsV RL 119 RX1 yX1_advance wsX1_advance) := goodIn_app (goodIn_of _ (by decide +kernel)) ggL_step_X1_advance
theorem dL_step_0 : decode cL_step 0 = .ok (.aload_n 0, 1) := by decide +kernel
theorem dL_step_1 : decode cL_step 1 = .ok (.invokevirtual 38, 3) := by decide +kernel
theorem dL_step_4 : decode cL_step 4 = .ok (.istore 7, 2) := by decide +kernel
theorem dL_step_6 : decode cL_step 6 = .ok (.aload_n 0, 1) := by decide +kernel
theorem dL_step_7 : decode cL_step 7 = .ok (.invokevirtual 52, 3) := by decide +kernel
theorem dL_step_10 : decode cL_step 10 = .ok (.istore 8, 2) := by decide +kernel
theorem dL_step_12 : decode cL_step 12 = .ok (.iload_n 1, 1) := by decide +kernel
theorem dL_step_13 : decode cL_step 13 = .ok (.iconst 5, 1) := by decide +kernel
theorem dL_step_14 : decode cL_step 14 = .ok (.if_icmp .ge 94, 3) := by decide +kernel
theorem dL_step_17 : decode cL_step 17 = .ok (.iconst 0, 1) := by decide +kernel
theorem dL_step_18 : decode cL_step 18 = .ok (.istore 9, 2) := by decide +kernel
theorem dL_step_20 : decode cL_step 20 = .ok (.iload 9, 2) := by decide +kernel
theorem dL_step_22 : decode cL_step 22 = .ok (.iload 7, 2) := by decide +kernel
theorem dL_step_24 : decode cL_step 24 = .ok (.if_icmp .ge 18, 3) := by decide +kernel
theorem dL_step_27 : decode cL_step 27 = .ok (.aload_n 0, 1) := by decide +kernel
theorem dL_step_28 : decode cL_step 28 = .ok (.iload 9, 2) := by decide +kernel
theorem dL_step_30 : decode cL_step 30 = .ok (.invokevirtual 62, 3) := by decide +kernel
theorem dL_step_33 : decode cL_step 33 = .ok (.ifCond .eq 9, 3) := by decide +kernel
theorem dL_step_36 : decode cL_step 36 = .ok (.iinc 9 1, 3) := by decide +kernel
theorem dL_step_39 : decode cL_step 39 = .ok (.goto (-19), 3) := by decide +kernel
theorem dL_step_42 : decode cL_step 42 = .ok (.iload_n 3, 1) := by decide +kernel
theorem dL_step_43 : decode cL_step 43 = .ok (.bipush 6, 2) := by decide +kernel
theorem dL_step_45 : decode cL_step 45 = .ok (.irem, 1) := by decide +kernel
theorem dL_step_46 : decode cL_step 46 = .ok (.ifCond .ne 12, 3) := by decide +kernel
theorem dL_step_49 : decode cL_step 49 = .ok (.iload_n 2, 1) := by decide +kernel
theorem dL_step_50 : decode cL_step 50 = .ok (.iload 7, 2) := by decide +kernel
theorem dL_step_52 : decode cL_step 52 = .ok (.iconst 3, 1) := by decide +kernel
theorem dL_step_53 : decode cL_step 53 = .ok (.iadd, 1) := by decide +kernel
theorem dL_step_54 : decode cL_step 54 = .ok (.irem, 1) := by decide +kernel
theorem dL_step_55 : decode cL_step 55 = .ok (.goto 5, 3) := by decide +kernel
theorem dL_step_58 : decode cL_step 58 = .ok (.iload 9, 2) := by decide +kernel
theorem dL_step_60 : decode cL_step 60 = .ok (.istore 9, 2) := by decide +kernel
theorem dL_step_62 : decode cL_step 62 = .ok (.iload_n 2, 1) := by decide +kernel
theorem dL_step_63 : decode cL_step 63 = .ok (.iconst 4, 1) := by decide +kernel
theorem dL_step_64 : decode cL_step 64 = .ok (.irem, 1) := by decide +kernel
theorem dL_step_65 : decode cL_step 65 = .ok (.ifCond .ne 11, 3) := by decide +kernel
theorem dL_step_68 : decode cL_step 68 = .ok (.iload_n 2, 1) := by decide +kernel
theorem dL_step_69 : decode cL_step 69 = .ok (.iconst 4, 1) := by decide +kernel
theorem dL_step_70 : decode cL_step 70 = .ok (.idiv, 1) := by decide +kernel
theorem dL_step_71 : decode cL_step 71 = .ok (.iconst 3, 1) := by decide +kernel
theorem dL_step_72 : decode cL_step 72 = .ok (.irem, 1) := by decide +kernel
theorem dL_step_73 : decode cL_step 73 = .ok (.goto 4, 3) := by decide +kernel
theorem dL_step_76 : decode cL_step 76 = .ok (.iconst 0, 1) := by decide +kernel
theorem dL_step_77 : decode cL_step 77 = .ok (.istore 10, 2) := by decide +kernel
theorem dL_step_79 : decode cL_step 79 = .ok (.iload 9, 2) := by decide +kernel
theorem dL_step_81 : decode cL_step 81 = .ok (.iload 10, 2) := by decide +kernel
theorem dL_step_83 : decode cL_step 83 = .ok (.iadd, 1) := by decide +kernel
theorem dL_step_84 : decode cL_step 84 = .ok (.bipush 57, 2) := by decide +kernel
theorem dL_step_86 : decode cL_step 86 = .ok (.if_icmp .gt 16, 3) := by decide +kernel
theorem dL_step_89 : decode cL_step 89 = .ok (.aload_n 0, 1) := by decide +kernel
theorem dL_step_90 : decode cL_step 90 = .ok (.iload 9, 2) := by decide +kernel
theorem dL_step_92 : decode cL_step 92 = .ok (.iload 10, 2) := by decide +kernel
theorem dL_step_94 : decode cL_step 94 = .ok (.aload 4, 2) := by decide +kernel
theorem dL_step_96 : decode cL_step 96 = .ok (.invokestatic 96, 3) := by decide +kernel
theorem dL_step_99 : decode cL_step 99 = .ok (.ifCond .eq 7, 3) := by decide +kernel
theorem dL_step_102 : decode cL_step 102 = .ok (.iconst 1, 1) := by decide +kernel
theorem dL_step_103 : decode cL_step 103 = .ok (.goto 4, 3) := by decide +kernel
theorem dL_step_106 : decode cL_step 106 = .ok (.iconst 0, 1) := by decide +kernel
theorem dL_step_107 : decode cL_step 107 = .ok (.ireturn, 1) := by decide +kernel
theorem dL_step_108 : decode cL_step 108 = .ok (.iload_n 1, 1) := by decide +kernel
theorem dL_step_109 : decode cL_step 109 = .ok (.iconst 5, 1) := by decide +kernel
theorem dL_step_110 : decode cL_step 110 = .ok (.if_icmp .ne 97, 3) := by decide +kernel
theorem dL_step_113 : decode cL_step 113 = .ok (.iload_n 2, 1) := by decide +kernel
theorem dL_step_114 : decode cL_step 114 = .ok (.iload 7, 2) := by decide +kernel
theorem dL_step_116 : decode cL_step 116 = .ok (.iconst 1, 1) := by decide +kernel
theorem dL_step_117 : decode cL_step 117 = .ok (.iadd, 1) := by decide +kernel
theorem dL_step_118 : decode cL_step 118 = .ok (.irem, 1) := by decide +kernel
theorem dL_step_119 : decode cL_step 119 = .ok (.istore 9, 2) := by decide +kernel
theorem dL_step_121 : decode cL_step 121 = .ok (.iload 9, 2) := by decide +kernel
theorem dL_step_123 : decode cL_step 123 = .ok (.iload 7, 2) := by decide +kernel
theorem dL_step_125 : decode cL_step 125 = .ok (.if_icmp .ge 12, 3) := by decide +kernel
theorem dL_step_128 : decode cL_step 128 = .ok (.aload_n 0, 1) := by decide +kernel
theorem dL_step_129 : decode cL_step 129 = .ok (.iload 9, 2) := by decide +kernel
theorem dL_step_131 : decode cL_step 131 = .ok (.invokevirtual 62, 3) := by decide +kernel
theorem dL_step_134 : decode cL_step 134 = .ok (.goto 4, 3) := by decide +kernel
theorem dL_step_137 : decode cL_step 137 = .ok (.iconst (-1), 1) := by decide +kernel
theorem dL_step_138 : decode cL_step 138 = .ok (.istore 10, 2) := by decide +kernel
theorem dL_step_140 : decode cL_step 140 = .ok (.aload_n 0, 1) := by decide +kernel
theorem dL_step_141 : decode cL_step 141 = .ok (.iconst 1, 1) := by decide +kernel
theorem dL_step_142 : decode cL_step 142 = .ok (.iload 9, 2) := by decide +kernel
theorem dL_step_144 : decode cL_step 144 = .ok (.iconst 0, 1) := by decide +kernel
theorem dL_step_145 : decode cL_step 145 = .ok (.invokestatic 58, 3) := by decide +kernel
theorem dL_step_148 : decode cL_step 148 = .ok (.istore 11, 2) := by decide +kernel
theorem dL_step_150 : decode cL_step 150 = .ok (.iload 11, 2) := by decide +kernel
theorem dL_step_152 : decode cL_step 152 = .ok (.iload 10, 2) := by decide +kernel
theorem dL_step_154 : decode cL_step 154 = .ok (.iconst (-1), 1) := by decide +kernel
theorem dL_step_155 : decode cL_step 155 = .ok (.if_icmp .ne 8, 3) := by decide +kernel
theorem dL_step_158 : decode cL_step 158 = .ok (.bipush (-7), 2) := by decide +kernel
theorem dL_step_160 : decode cL_step 160 = .ok (.goto 14, 3) := by decide +kernel
theorem dL_step_163 : decode cL_step 163 = .ok (.iload 10, 2) := by decide +kernel
theorem dL_step_165 : decode cL_step 165 = .ok (.ifCond .ne 7, 3) := by decide +kernel
theorem dL_step_168 : decode cL_step 168 = .ok (.iconst 0, 1) := by decide +kernel
theorem dL_step_169 : decode cL_step 169 = .ok (.goto 5, 3) := by decide +kernel
theorem dL_step_172 : decode cL_step 172 = .ok (.bipush (-8), 2) := by decide +kernel
theorem dL_step_174 : decode cL_step 174 = .ok (.if_icmp .ne 31, 3) := by decide +kernel
theorem dL_step_177 : decode cL_step 177 = .ok (.iload 10, 2) := by decide +kernel
theorem dL_step_179 : decode cL_step 179 = .ok (.ifCond .ne 13, 3) := by decide +kernel
theorem dL_step_182 : decode cL_step 182 = .ok (.aload_n 0, 1) := by decide +kernel
theorem dL_step_183 : decode cL_step 183 = .ok (.iload 9, 2) := by decide +kernel
theorem dL_step_185 : decode cL_step 185 = .ok (.invokevirtual 62, 3) := by decide +kernel
theorem dL_step_188 : decode cL_step 188 = .ok (.iconst 3, 1) := by decide +kernel
theorem dL_step_189 : decode cL_step 189 = .ok (.if_icmp .ne 16, 3) := by decide +kernel
theorem dL_step_192 : decode cL_step 192 = .ok (.aload_n 0, 1) := by decide +kernel
theorem dL_step_193 : decode cL_step 193 = .ok (.invokevirtual 38, 3) := by decide +kernel
theorem dL_step_196 : decode cL_step 196 = .ok (.iload 7, 2) := by decide +kernel
theorem dL_step_198 : decode cL_step 198 = .ok (.if_icmp .ne 7, 3) := by decide +kernel
theorem dL_step_201 : decode cL_step 201 = .ok (.iconst 1, 1) := by decide +kernel
theorem dL_step_202 : decode cL_step 202 = .ok (.goto 4, 3) := by decide +kernel
theorem dL_step_205 : decode cL_step 205 = .ok (.iconst 0, 1) := by decide +kernel
theorem dL_step_206 : decode cL_step 206 = .ok (.ireturn, 1) := by decide +kernel
theorem dL_step_207 : decode cL_step 207 = .ok (.iload_n 1, 1) := by decide +kernel
theorem dL_step_208 : decode cL_step 208 = .ok (.bipush 6, 2) := by decide +kernel
theorem dL_step_210 : decode cL_step 210 = .ok (.if_icmp .ne 12, 3) := by decide +kernel
theorem dL_step_213 : decode cL_step 213 = .ok (.aload_n 0, 1) := by decide +kernel
theorem dL_step_214 : decode cL_step 214 = .ok (.aload 4, 2) := by decide +kernel
theorem dL_step_216 : decode cL_step 216 = .ok (.aload 5, 2) := by decide +kernel
theorem dL_step_218 : decode cL_step 218 = .ok (.invokestatic 100, 3) := by decide +kernel
theorem dL_step_221 : decode cL_step 221 = .ok (.ireturn, 1) := by decide +kernel
theorem dL_step_222 : decode cL_step 222 = .ok (.iload_n 1, 1) := by decide +kernel
theorem dL_step_223 : decode cL_step 223 = .ok (.bipush 7, 2) := by decide +kernel
theorem dL_step_225 : decode cL_step 225 = .ok (.if_icmp .ne 50, 3) := by decide +kernel
theorem dL_step_228 : decode cL_step 228 = .ok (.aload 4, 2) := by decide +kernel
theorem dL_step_230 : decode cL_step 230 = .ok (.iconst 5, 1) := by decide +kernel
theorem dL_step_231 : decode cL_step 231 = .ok (.iload_n 3, 1) := by decide +kernel
theorem dL_step_232 : decode cL_step 232 = .ok (.bipush 20, 2) := by decide +kernel
theorem dL_step_234 : decode cL_step 234 = .ok (.irem, 1) := by decide +kernel
theorem dL_step_235 : decode cL_step 235 = .ok (.iastore, 1) := by decide +kernel
theorem dL_step_236 : decode cL_step 236 = .ok (.aload 4, 2) := by decide +kernel
theorem dL_step_238 : decode cL_step 238 = .ok (.bipush 6, 2) := by decide +kernel
theorem dL_step_240 : decode cL_step 240 = .ok (.iconst 1, 1) := by decide +kernel
theorem dL_step_241 : decode cL_step 241 = .ok (.iload_n 2, 1) := by decide +kernel
theorem dL_step_242 : decode cL_step 242 = .ok (.bipush 40, 2) := by decide +kernel
theorem dL_step_244 : decode cL_step 244 = .ok (.irem, 1) := by decide +kernel
theorem dL_step_245 : decode cL_step 245 = .ok (.iadd, 1) := by decide +kernel
theorem dL_step_246 : decode cL_step 246 = .ok (.iastore, 1) := by decide +kernel
theorem dL_step_247 : decode cL_step 247 = .ok (.aload_n 0, 1) := by decide +kernel
theorem dL_step_248 : decode cL_step 248 = .ok (.aload 4, 2) := by decide +kernel
theorem dL_step_250 : decode cL_step 250 = .ok (.iconst 5, 1) := by decide +kernel
theorem dL_step_251 : decode cL_step 251 = .ok (.iaload, 1) := by decide +kernel
theorem dL_step_252 : decode cL_step 252 = .ok (.aload 4, 2) := by decide +kernel
theorem dL_step_254 : decode cL_step 254 = .ok (.bipush 6, 2) := by decide +kernel
theorem dL_step_256 : decode cL_step 256 = .ok (.iaload, 1) := by decide +kernel
theorem dL_step_257 : decode cL_step 257 = .ok (.invokevirtual 104, 3) := by decide +kernel
theorem dL_step_260 : decode cL_step 260 = .ok (.aload_n 0, 1) := by decide +kernel
theorem dL_step_261 : decode cL_step 261 = .ok (.invokevirtual 38, 3) := by decide +kernel
theorem dL_step_264 : decode cL_step 264 = .ok (.iload 7, 2) := by decide +kernel
theorem dL_step_266 : decode cL_step 266 = .ok (.if_icmp .ne 7, 3) := by decide +kernel
theorem dL_step_269 : decode cL_step 269 = .ok (.iconst 1, 1) := by decide +kernel
theorem dL_step_270 : decode cL_step 270 = .ok (.goto 4, 3) := by decide +kernel
theorem dL_step_273 : decode cL_step 273 = .ok (.iconst 0, 1) := by decide +kernel
theorem dL_step_274 : decode cL_step 274 = .ok (.ireturn, 1) := by decide +kernel
theorem dL_step_275 : decode cL_step 275 = .ok (.iload_n 1, 1) := by decide +kernel
theorem dL_step_276 : decode cL_step 276 = .ok (.bipush 8, 2) := by decide +kernel
theorem dL_step_278 : decode cL_step 278 = .ok (.if_icmp .ne 100, 3) := by decide +kernel
theorem dL_step_281 : decode cL_step 281 = .ok (.aload 4, 2) := by decide +kernel
theorem dL_step_283 : decode cL_step 283 = .ok (.iconst 1, 1) := by decide +kernel
theorem dL_step_284 : decode cL_step 284 = .ok (.bipush 20, 2) := by decide +kernel
theorem dL_step_286 : decode cL_step 286 = .ok (.iload_n 2, 1) := by decide +kernel
theorem dL_step_287 : decode cL_step 287 = .ok (.bipush 71, 2) := by decide +kernel
theorem dL_step_289 : decode cL_step 289 = .ok (.irem, 1) := by decide +kernel
theorem dL_step_290 : decode cL_step 290 = .ok (.iadd, 1) := by decide +kernel
theorem dL_step_291 : decode cL_step 291 = .ok (.iastore, 1) := by decide +kernel
theorem dL_step_292 : decode cL_step 292 = .ok (.aload 4, 2) := by decide +kernel
theorem dL_step_294 : decode cL_step 294 = .ok (.iconst 2, 1) := by decide +kernel
theorem dL_step_295 : decode cL_step 295 = .ok (.iconst 1, 1) := by decide +kernel
theorem dL_step_296 : decode cL_step 296 = .ok (.iload_n 3, 1) := by decide +kernel
theorem dL_step_297 : decode cL_step 297 = .ok (.bipush 20, 2) := by decide +kernel
theorem dL_step_299 : decode cL_step 299 = .ok (.irem, 1) := by decide +kernel
theorem dL_step_300 : decode cL_step 300 = .ok (.iadd, 1) := by decide +kernel
theorem dL_step_301 : decode cL_step 301 = .ok (.iastore, 1) := by decide +kernel
theorem dL_step_302 : decode cL_step 302 = .ok (.aload 4, 2) := by decide +kernel
theorem dL_step_304 : decode cL_step 304 = .ok (.iconst 3, 1) := by decide +kernel
theorem dL_step_305 : decode cL_step 305 = .ok (.iload_n 2, 1) := by decide +kernel
theorem dL_step_306 : decode cL_step 306 = .ok (.bipush 71, 2) := by decide +kernel
theorem dL_step_308 : decode cL_step 308 = .ok (.idiv, 1) := by decide +kernel
theorem dL_step_309 : decode cL_step 309 = .ok (.iconst 2, 1) := by decide +kernel
theorem dL_step_310 : decode cL_step 310 = .ok (.irem, 1) := by decide +kernel
theorem dL_step_311 : decode cL_step 311 = .ok (.iastore, 1) := by decide +kernel
theorem dL_step_312 : decode cL_step 312 = .ok (.aload 4, 2) := by decide +kernel
theorem dL_step_314 : decode cL_step 314 = .ok (.iconst 4, 1) := by decide +kernel
theorem dL_step_315 : decode cL_step 315 = .ok (.iload_n 3, 1) := by decide +kernel
theorem dL_step_316 : decode cL_step 316 = .ok (.bipush 20, 2) := by decide +kernel
theorem dL_step_318 : decode cL_step 318 = .ok (.idiv, 1) := by decide +kernel
theorem dL_step_319 : decode cL_step 319 = .ok (.iconst 3, 1) := by decide +kernel
theorem dL_step_320 : decode cL_step 320 = .ok (.irem, 1) := by decide +kernel
theorem dL_step_321 : decode cL_step 321 = .ok (.ifCond .ne 7, 3) := by decide +kernel
theorem dL_step_324 : decode cL_step 324 = .ok (.iconst 0, 1) := by decide +kernel
theorem dL_step_325 : decode cL_step 325 = .ok (.goto 11, 3) := by decide +kernel
theorem dL_step_328 : decode cL_step 328 = .ok (.iload_n 3, 1) := by decide +kernel
theorem dL_step_329 : decode cL_step 329 = .ok (.bipush 60, 2) := by decide +kernel
theorem dL_step_331 : decode cL_step 331 = .ok (.idiv, 1) := by decide +kernel
theorem dL_step_332 : decode cL_step 332 = .ok (.sipush 4095, 3) := by decide +kernel
theorem dL_step_335 : decode cL_step 335 = .ok (.irem, 1) := by decide +kernel
theorem dL_step_336 : decode cL_step 336 = .ok (.iastore, 1) := by decide +kernel
theorem dL_step_337 : decode cL_step 337 = .ok (.aload_n 0, 1) := by decide +kernel
theorem dL_step_338 : decode cL_step 338 = .ok (.aload 4, 2) := by decide +kernel
theorem dL_step_340 : decode cL_step 340 = .ok (.iconst 1, 1) := by decide +kernel
theorem dL_step_341 : decode cL_step 341 = .ok (.iaload, 1) := by decide +kernel
theorem dL_step_342 : decode cL_step 342 = .ok (.aload 4, 2) := by decide +kernel
theorem dL_step_344 : decode cL_step 344 = .ok (.iconst 2, 1) := by decide +kernel
theorem dL_step_345 : decode cL_step 345 = .ok (.iaload, 1) := by decide +kernel
theorem dL_step_346 : decode cL_step 346 = .ok (.aload 4, 2) := by decide +kernel
theorem dL_step_348 : decode cL_step 348 = .ok (.iconst 3, 1) := by decide +kernel
theorem dL_step_349 : decode cL_step 349 = .ok (.iaload, 1) := by decide +kernel
theorem dL_step_350 : decode cL_step 350 = .ok (.iconst 1, 1) := by decide +kernel
theorem dL_step_351 : decode cL_step 351 = .ok (.if_icmp .ne 7, 3) := by decide +kernel
theorem dL_step_354 : decode cL_step 354 = .ok (.iconst 1, 1) := by decide +kernel
theorem dL_step_355 : decode cL_step 355 = .ok (.goto 4, 3) := by decide +kernel
theorem dL_step_358 : decode cL_step 358 = .ok (.iconst 0, 1) := by decide +kernel
theorem dL_step_359 : decode cL_step 359 = .ok (.aload 4, 2) := by decide +kernel
theorem dL_step_361 : decode cL_step 361 = .ok (.iconst 4, 1) := by decide +kernel
theorem dL_step_362 : decode cL_step 362 = .ok (.iaload, 1) := by decide +kernel
theorem dL_step_363 : decode cL_step 363 = .ok (.invokevirtual 108, 3) := by decide +kernel
theorem dL_step_366 : decode cL_step 366 = .ok (.aload_n 0, 1) := by decide +kernel
theorem dL_step_367 : decode cL_step 367 = .ok (.aload 4, 2) := by decide +kernel
theorem dL_step_369 : decode cL_step 369 = .ok (.iload 7, 2) := by decide +kernel
theorem dL_step_371 : decode cL_step 371 = .ok (.iload 8, 2) := by decide +kernel
theorem dL_step_373 : decode cL_step 373 = .ok (.iconst 0, 1) := by decide +kernel
theorem dL_step_374 : decode cL_step 374 = .ok (.invokestatic 112, 3) := by decide +kernel
theorem dL_step_377 : decode cL_step 377 = .ok (.ireturn, 1) := by decide +kernel
theorem dL_step_378 : decode cL_step 378 = .ok (.iload_n 1, 1) := by decide +kernel
theorem dL_step_379 : decode cL_step 379 = .ok (.bipush 9, 2) := by decide +kernel
theorem dL_step_381 : decode cL_step 381 = .ok (.if_icmp .ne 113, 3) := by decide +kernel
theorem dL_step_384 : decode cL_step 384 = .ok (.iload_n 2, 1) := by decide +kernel
theorem dL_step_385 : decode cL_step 385 = .ok (.bipush 80, 2) := by decide +kernel
theorem dL_step_387 : decode cL_step 387 = .ok (.irem, 1) := by decide +kernel
theorem dL_step_388 : decode cL_step 388 = .ok (.istore 9, 2) := by decide +kernel
theorem dL_step_390 : decode cL_step 390 = .ok (.iload 9, 2) := by decide +kernel
theorem dL_step_392 : decode cL_step 392 = .ok (.iload_n 3, 1) := by decide +kernel
theorem dL_step_393 : decode cL_step 393 = .ok (.bipush 10, 2) := by decide +kernel
theorem dL_step_395 : decode cL_step 395 = .ok (.irem, 1) := by decide +kernel
theorem dL_step_396 : decode cL_step 396 = .ok (.iadd, 1) := by decide +kernel
theorem dL_step_397 : decode cL_step 397 = .ok (.istore 10, 2) := by decide +kernel
theorem dL_step_399 : decode cL_step 399 = .ok (.iconst 0, 1) := by decide +kernel
theorem dL_step_400 : decode cL_step 400 = .ok (.istore 11, 2) := by decide +kernel
theorem dL_step_402 : decode cL_step 402 = .ok (.iconst 0, 1) := by decide +kernel
theorem dL_step_403 : decode cL_step 403 = .ok (.istore 12, 2) := by decide +kernel
theorem dL_step_405 : decode cL_step 405 = .ok (.iload 12, 2) := by decide +kernel
theorem dL_step_407 : decode cL_step 407 = .ok (.sipush 200, 3) := by decide +kernel
theorem dL_step_410 : decode cL_step 410 = .ok (.if_icmp .ge 65, 3) := by decide +kernel
theorem dL_step_413 : decode cL_step 413 = .ok (.aload 6, 2) := by decide +kernel
theorem dL_step_415 : decode cL_step 415 = .ok (.iload 12, 2) := by decide +kernel
theorem dL_step_417 : decode cL_step 417 = .ok (.bipush 50, 2) := by decide +kernel
theorem dL_step_419 : decode cL_step 419 = .ok (.idiv, 1) := by decide +kernel
theorem dL_step_420 : decode cL_step 420 = .ok (.dup2, 1) := by decide +kernel
theorem dL_step_421 : decode cL_step 421 = .ok (.laload, 1) := by decide +kernel
theorem dL_step_422 : decode cL_step 422 = .ok (.iload 12, 2) := by decide +kernel
theorem dL_step_424 : decode cL_step 424 = .ok (.iload 9, 2) := by decide +kernel
theorem dL_step_426 : decode cL_step 426 = .ok (.if_icmp .lt 20, 3) := by decide +kernel
theorem dL_step_429 : decode cL_step 429 = .ok (.iload 12, 2) := by decide +kernel
theorem dL_step_431 : decode cL_step 431 = .ok (.iload 10, 2) := by decide +kernel
theorem dL_step_433 : decode cL_step 433 = .ok (.if_icmp .gt 13, 3) := by decide +kernel
theorem dL_step_436 : decode cL_step 436 = .ok (.lconst 1, 1) := by decide +kernel
theorem dL_step_437 : decode cL_step 437 = .ok (.iload 12, 2) := by decide +kernel
theorem dL_step_439 : decode cL_step 439 = .ok (.bipush 50, 2) := by decide +kernel
theorem dL_step_441 : decode cL_step 441 = .ok (.irem, 1) := by decide +kernel
theorem dL_step_442 : decode cL_step 442 = .ok (.lshl, 1) := by decide +kernel
theorem dL_step_443 : decode cL_step 443 = .ok (.goto 4, 3) := by decide +kernel
theorem dL_step_446 : decode cL_step 446 = .ok (.lconst 0, 1) := by decide +kernel
theorem dL_step_447 : decode cL_step 447 = .ok (.lor, 1) := by decide +kernel
theorem dL_step_448 : decode cL_step 448 = .ok (.lastore, 1) := by decide +kernel
theorem dL_step_449 : decode cL_step 449 = .ok (.iload 11, 2) := by decide +kernel
theorem dL_step_451 : decode cL_step 451 = .ok (.aload 6, 2) := by decide +kernel
theorem dL_step_453 : decode cL_step 453 = .ok (.iload 12, 2) := by decide +kernel
theorem dL_step_455 : decode cL_step 455 = .ok (.invokestatic 69, 3) := by decide +kernel
theorem dL_step_458 : decode cL_step 458 = .ok (.ifCond .eq 7, 3) := by decide +kernel
theorem dL_step_461 : decode cL_step 461 = .ok (.iconst 1, 1) := by decide +kernel
theorem dL_step_462 : decode cL_step 462 = .ok (.goto 4, 3) := by decide +kernel
theorem dL_step_465 : decode cL_step 465 = .ok (.iconst 0, 1) := by decide +kernel
theorem dL_step_466 : decode cL_step 466 = .ok (.iadd, 1) := by decide +kernel
theorem dL_step_467 : decode cL_step 467 = .ok (.istore 11, 2) := by decide +kernel
theorem dL_step_469 : decode cL_step 469 = .ok (.iinc 12 1, 3) := by decide +kernel
theorem dL_step_472 : decode cL_step 472 = .ok (.goto (-67), 3) := by decide +kernel
theorem dL_step_475 : decode cL_step 475 = .ok (.aload_n 0, 1) := by decide +kernel
theorem dL_step_476 : decode cL_step 476 = .ok (.iload 9, 2) := by decide +kernel
theorem dL_step_478 : decode cL_step 478 = .ok (.iload 10, 2) := by decide +kernel
theorem dL_step_480 : decode cL_step 480 = .ok (.invokevirtual 116, 3) := by decide +kernel
theorem dL_step_483 : decode cL_step 483 = .ok (.iload 11, 2) := by decide +kernel
theorem dL_step_485 : decode cL_step 485 = .ok (.if_icmp .ne 7, 3) := by decide +kernel
theorem dL_step_488 : decode cL_step 488 = .ok (.iconst 1, 1) := by decide +kernel
theorem dL_step_489 : decode cL_step 489 = .ok (.goto 4, 3) := by decide +kernel
theorem dL_step_492 : decode cL_step 492 = .ok (.iconst 0, 1) := by decide +kernel
theorem dL_step_493 : decode cL_step 493 = .ok (.ireturn, 1) := by decide +kernel
theorem dL_step_494 : decode cL_step 494 = .ok (.iconst 1, 1) := by decide +kernel
theorem dL_step_495 : decode cL_step 495 = .ok (.iload_n 2, 1) := by decide +kernel
theorem dL_step_496 : decode cL_step 496 = .ok (.iload_n 3, 1) := by decide +kernel
theorem dL_step_497 : decode cL_step 497 = .ok (.iconst 3, 1) := by decide +kernel
theorem dL_step_498 : decode cL_step 498 = .ok (.irem, 1) := by decide +kernel
theorem dL_step_499 : decode cL_step 499 = .ok (.ifCond .ne 8, 3) := by decide +kernel
theorem dL_step_502 : decode cL_step 502 = .ok (.bipush 60, 2) := by decide +kernel
theorem dL_step_504 : decode cL_step 504 = .ok (.goto 5, 3) := by decide +kernel
theorem dL_step_507 : decode cL_step 507 = .ok (.bipush 20, 2) := by decide +kernel
theorem dL_step_509 : decode cL_step 509 = .ok (.irem, 1) := by decide +kernel
theorem dL_step_510 : decode cL_step 510 = .ok (.iadd, 1) := by decide +kernel
theorem dL_step_511 : decode cL_step 511 = .ok (.istore 9, 2) := by decide +kernel
theorem dL_step_513 : decode cL_step 513 = .ok (.aload 4, 2) := by decide +kernel
theorem dL_step_515 : decode cL_step 515 = .ok (.iconst 0, 1) := by decide +kernel
theorem dL_step_516 : decode cL_step 516 = .ok (.dup2, 1) := by decide +kernel
theorem dL_step_517 : decode cL_step 517 = .ok (.iaload, 1) := by decide +kernel
theorem dL_step_518 : decode cL_step 518 = .ok (.iload 9, 2) := by decide +kernel
theorem dL_step_520 : decode cL_step 520 = .ok (.iadd, 1) := by decide +kernel
theorem dL_step_521 : decode cL_step 521 = .ok (.iastore, 1) := by decide +kernel
theorem dL_step_522 : decode cL_step 522 = .ok (.aload_n 0, 1) := by decide +kernel
theorem dL_step_523 : decode cL_step 523 = .ok (.iload 9, 2) := by decide +kernel
theorem dL_step_525 : decode cL_step 525 = .ok (.invokevirtual 119, 3) := by decide +kernel
theorem dL_step_528 : decode cL_step 528 = .ok (.aload 4, 2) := by decide +kernel
theorem dL_step_530 : decode cL_step 530 = .ok (.iconst 0, 1) := by decide +kernel
theorem dL_step_531 : decode cL_step 531 = .ok (.iaload, 1) := by decide +kernel
theorem dL_step_532 : decode cL_step 532 = .ok (.if_icmp .ne 21, 3) := by decide +kernel
theorem dL_step_535 : decode cL_step 535 = .ok (.aload_n 0, 1) := by decide +kernel
theorem dL_step_536 : decode cL_step 536 = .ok (.aload 4, 2) := by decide +kernel
theorem dL_step_538 : decode cL_step 538 = .ok (.iload 7, 2) := by decide +kernel
theorem dL_step_540 : decode cL_step 540 = .ok (.iload 8, 2) := by decide +kernel
theorem dL_step_542 : decode cL_step 542 = .ok (.iconst 0, 1) := by decide +kernel
theorem dL_step_543 : decode cL_step 543 = .ok (.invokestatic 112, 3) := by decide +kernel
theorem dL_step_546 : decode cL_step 546 = .ok (.ifCond .eq 7, 3) := by decide +kernel
theorem dL_step_549 : decode cL_step 549 = .ok (.iconst 1, 1) := by decide +kernel
theorem dL_step_550 : decode cL_step 550 = .ok (.goto 4, 3) := by decide +kernel
theorem dL_step_553 : decode cL_step 553 = .ok (.iconst 0, 1) := by decide +kernel
theorem dL_step_554 : decode cL_step 554 = .ok (.ireturn, 1) := by decide +kernel
set_option maxRecDepth 20000 in
theorem ggL_desk_X1_init : GoodIn wsL_desk wsX1_init := goodIn_r _ [9, 10, 11, 12, 13, 14, 15, 16, 17, 18, 4, 19, 20, 21, 22, 23, 24, 25, 26, 27, 28, 29, 30, 31, 32, 33, 34, 282, 283, 284, 285, 267, 268, 269, 270, 271, 272, 273, 274, 275, 276, 277, 278, 279, 280, 281] (by decide +kernel) (by decide +kernel)
set_option maxRecDepth 20000 in
theorem gL_desk_X1_init : GoodIn wsL_desk (wsX1_init) := ggL_desk_X1_init
set_option maxRecDepth 20000 in
theorem ggL_desk_X1_foretold : GoodIn wsL_desk wsX1_foretold := goodIn_r _ [38, 25, 267, 268, 269, 270, 271, 272, 273, 274, 275, 276, 277, 278, 279, 280, 281] (by decide +kernel) (by decide +kernel)
set_option maxRecDepth 20000 in
theorem gL_desk_X1_foretold : GoodIn wsL_desk (wsV RL 38 RX1 yX1_foretold wsX1_foretold) := goodIn_app (goodIn_of _ (by decide +kernel)) ggL_desk_X1_foretold
set_option maxRecDepth 20000 in
theorem ggL_desk_L_draw : GoodIn wsL_desk wsL_draw := goodIn_r _ [42, 43, 44, 45] (by decide +kernel) (by decide +kernel)
set_option maxRecDepth 20000 in
theorem gL_desk_L_draw : GoodIn wsL_desk (va_wsS RL 124 yL_draw wsL_draw) := goodIn_app (goodIn_of _ (by decide +kernel)) ggL_desk_L_draw
set_option maxRecDepth 100000 in
theorem bgL_desk_step_1 : GoodIn wsL_desk wsL_step_r1 := goodIn_sub (List.forall_mem_cons.mpr ⟨List.mem_of_getElem? (i := 35) rfl, List.forall_mem_cons.mpr ⟨List.mem_of_getElem? (i := 36) rfl, List.forall_mem_cons.mpr ⟨List.mem_of_getElem? (i := 37) rfl, List.forall_mem_cons.mpr ⟨List.mem_of_getElem? (i := 3) rfl, List.forall_mem_cons.mpr ⟨List.mem_of_getElem? (i := 38) rfl, List.forall_mem_cons.mpr ⟨List.mem_of_getElem? (i := 25) rfl, List.forall_mem_cons.mpr ⟨List.mem_of_getElem? (i := 49) rfl, List.forall_mem_cons.mpr ⟨List.mem_of_getElem? (i := 50) rfl, List.forall_mem_cons.mpr ⟨List.mem_of_getElem? (i := 51) rfl, List.forall_mem_cons.mpr ⟨List.mem_of_getElem? (i := 52) rfl, List.forall_mem_cons.mpr ⟨List.mem_of_getElem? (i := 53) rfl, List.forall_mem_cons.mpr ⟨List.mem_of_getElem? (i := 54) rfl, List.forall_mem_cons.mpr ⟨List.mem_of_getElem? (i := 55) rfl, List.forall_mem_cons.mpr ⟨List.mem_of_getElem? (i := 56) rfl, List.forall_mem_cons.mpr ⟨List.mem_of_getElem? (i := 57) rfl, List.forall_mem_cons.mpr ⟨List.mem_of_getElem? (i := 58) rfl, List.forall_mem_cons.mpr ⟨List.mem_of_getElem? (i := 59) rfl, List.forall_mem_cons.mpr ⟨List.mem_of_getElem? (i := 20) rfl, List.forall_mem_cons.mpr ⟨List.mem_of_getElem? (i := 60) rfl, List.forall_mem_cons.mpr ⟨List.mem_of_getElem? (i := 61) rfl, List.forall_mem_cons.mpr ⟨List.mem_of_getElem? (i := 62) rfl, List.forall_mem_cons.mpr ⟨List.mem_of_getElem? (i := 63) rfl, List.forall_mem_cons.mpr ⟨List.mem_of_getElem? (i := 64) rfl, List.forall_mem_cons.mpr ⟨List.mem_of_getElem? (i := 65) rfl, fun _ h => absurd h List.not_mem_nil⟩⟩⟩⟩⟩⟩⟩⟩⟩⟩⟩⟩⟩⟩⟩⟩⟩⟩⟩⟩⟩⟩⟩⟩) (by decide +kernel)
set_option maxRecDepth 100000 in
theorem bgL_desk_step_2 : GoodIn wsL_desk wsL_step_r2 := goodIn_sub (List.forall_mem_cons.mpr ⟨List.mem_of_getElem? (i := 66) rfl, List.forall_mem_cons.mpr ⟨List.mem_of_getElem? (i := 67) rfl, List.forall_mem_cons.mpr ⟨List.mem_of_getElem? (i := 68) rfl, List.forall_mem_cons.mpr ⟨List.mem_of_getElem? (i := 41) rfl, List.forall_mem_cons.mpr ⟨List.mem_of_getElem? (i := 69) rfl, List.forall_mem_cons.mpr ⟨List.mem_of_getElem? (i := 4) rfl, List.forall_mem_cons.mpr ⟨List.mem_of_getElem? (i := 70) rfl, List.forall_mem_cons.mpr ⟨List.mem_of_getElem? (i := 71) rfl, List.forall_mem_cons.mpr ⟨List.mem_of_getElem? (i := 72) rfl, List.forall_mem_cons.mpr ⟨List.mem_of_getElem? (i := 73) rfl, List.forall_mem_cons.mpr ⟨List.mem_of_getElem? (i := 74) rfl, List.forall_mem_cons.mpr ⟨List.mem_of_getElem? (i := 75) rfl, List.forall_mem_cons.mpr ⟨List.mem_of_getElem? (i := 76) rfl, List.forall_mem_cons.mpr ⟨List.mem_of_getElem? (i := 77) rfl, List.forall_mem_cons.mpr ⟨List.mem_of_getElem? (i := 78) rfl, List.forall_mem_cons.mpr ⟨List.mem_of_getElem? (i := 79) rfl, List.forall_mem_cons.mpr ⟨List.mem_of_getElem? (i := 80) rfl, List.forall_mem_cons.mpr ⟨List.mem_of_getElem? (i := 81) rfl, List.forall_mem_cons.mpr ⟨List.mem_of_getElem? (i := 82) rfl, List.forall_mem_cons.mpr ⟨List.mem_of_getElem? (i := 83) rfl, List.forall_mem_cons.mpr ⟨List.mem_of_getElem? (i := 84) rfl, List.forall_mem_cons.mpr ⟨List.mem_of_getElem? (i := 85) rfl, List.forall_mem_cons.mpr ⟨List.mem_of_getElem? (i := 86) rfl, List.forall_mem_cons.mpr ⟨List.mem_of_getElem? (i := 87) rfl, fun _ h => absurd h List.not_mem_nil⟩⟩⟩⟩⟩⟩⟩⟩⟩⟩⟩⟩⟩⟩⟩⟩⟩⟩⟩⟩⟩⟩⟩⟩) (by decide +kernel)
set_option maxRecDepth 100000 in
theorem bgL_desk_step_3 : GoodIn wsL_desk wsL_step_r3 := goodIn_sub (List.forall_mem_cons.mpr ⟨List.mem_of_getElem? (i := 88) rfl, List.forall_mem_cons.mpr ⟨List.mem_of_getElem? (i := 89) rfl, List.forall_mem_cons.mpr ⟨List.mem_of_getElem? (i := 90) rfl, List.forall_mem_cons.mpr ⟨List.mem_of_getElem? (i := 91) rfl, List.forall_mem_cons.mpr ⟨List.mem_of_getElem? (i := 92) rfl, List.forall_mem_cons.mpr ⟨List.mem_of_getElem? (i := 93) rfl, List.forall_mem_cons.mpr ⟨List.mem_of_getElem? (i := 94) rfl, List.forall_mem_cons.mpr ⟨List.mem_of_getElem? (i := 95) rfl, List.forall_mem_cons.mpr ⟨List.mem_of_getElem? (i := 96) rfl, List.forall_mem_cons.mpr ⟨List.mem_of_getElem? (i := 97) rfl, List.forall_mem_cons.mpr ⟨List.mem_of_getElem? (i := 19) rfl, List.forall_mem_cons.mpr ⟨List.mem_of_getElem? (i := 98) rfl, List.forall_mem_cons.mpr ⟨List.mem_of_getElem? (i := 99) rfl, List.forall_mem_cons.mpr ⟨List.mem_of_getElem? (i := 100) rfl, List.forall_mem_cons.mpr ⟨List.mem_of_getElem? (i := 101) rfl, List.forall_mem_cons.mpr ⟨List.mem_of_getElem? (i := 16) rfl, List.forall_mem_cons.mpr ⟨List.mem_of_getElem? (i := 102) rfl, List.forall_mem_cons.mpr ⟨List.mem_of_getElem? (i := 103) rfl, List.forall_mem_cons.mpr ⟨List.mem_of_getElem? (i := 104) rfl, List.forall_mem_cons.mpr ⟨List.mem_of_getElem? (i := 15) rfl, List.forall_mem_cons.mpr ⟨List.mem_of_getElem? (i := 105) rfl, List.forall_mem_cons.mpr ⟨List.mem_of_getElem? (i := 31) rfl, List.forall_mem_cons.mpr ⟨List.mem_of_getElem? (i := 106) rfl, List.forall_mem_cons.mpr ⟨List.mem_of_getElem? (i := 107) rfl, fun _ h => absurd h List.not_mem_nil⟩⟩⟩⟩⟩⟩⟩⟩⟩⟩⟩⟩⟩⟩⟩⟩⟩⟩⟩⟩⟩⟩⟩⟩) (by decide +kernel)
set_option maxRecDepth 100000 in
theorem bgL_desk_step_4 : GoodIn wsL_desk wsL_step_r4 := goodIn_sub (List.forall_mem_cons.mpr ⟨List.mem_of_getElem? (i := 108) rfl, List.forall_mem_cons.mpr ⟨List.mem_of_getElem? (i := 109) rfl, List.forall_mem_cons.mpr ⟨List.mem_of_getElem? (i := 110) rfl, List.forall_mem_cons.mpr ⟨List.mem_of_getElem? (i := 111) rfl, List.forall_mem_cons.mpr ⟨List.mem_of_getElem? (i := 112) rfl, List.forall_mem_cons.mpr ⟨List.mem_of_getElem? (i := 113) rfl, List.forall_mem_cons.mpr ⟨List.mem_of_getElem? (i := 34) rfl, List.forall_mem_cons.mpr ⟨List.mem_of_getElem? (i := 114) rfl, List.forall_mem_cons.mpr ⟨List.mem_of_getElem? (i := 115) rfl, List.forall_mem_cons.mpr ⟨List.mem_of_getElem? (i := 116) rfl, List.forall_mem_cons.mpr ⟨List.mem_of_getElem? (i := 117) rfl, List.forall_mem_cons.mpr ⟨List.mem_of_getElem? (i := 118) rfl, List.forall_mem_cons.mpr ⟨List.mem_of_getElem? (i := 119) rfl, List.forall_mem_cons.mpr ⟨List.mem_of_getElem? (i := 120) rfl, List.forall_mem_cons.mpr ⟨List.mem_of_getElem? (i := 121) rfl, List.forall_mem_cons.mpr ⟨List.mem_of_getElem? (i := 122) rfl, List.forall_mem_cons.mpr ⟨List.mem_of_getElem? (i := 123) rfl, List.forall_mem_cons.mpr ⟨List.mem_of_getElem? (i := 124) rfl, List.forall_mem_cons.mpr ⟨List.mem_of_getElem? (i := 26) rfl, List.forall_mem_cons.mpr ⟨List.mem_of_getElem? (i := 125) rfl, List.forall_mem_cons.mpr ⟨List.mem_of_getElem? (i := 126) rfl, List.forall_mem_cons.mpr ⟨List.mem_of_getElem? (i := 127) rfl, List.forall_mem_cons.mpr ⟨List.mem_of_getElem? (i := 128) rfl, List.forall_mem_cons.mpr ⟨List.mem_of_getElem? (i := 129) rfl, fun _ h => absurd h List.not_mem_nil⟩⟩⟩⟩⟩⟩⟩⟩⟩⟩⟩⟩⟩⟩⟩⟩⟩⟩⟩⟩⟩⟩⟩⟩) (by decide +kernel)
set_option maxRecDepth 100000 in
theorem bgL_desk_step_5 : GoodIn wsL_desk wsL_step_r5 := goodIn_sub (List.forall_mem_cons.mpr ⟨List.mem_of_getElem? (i := 130) rfl, List.forall_mem_cons.mpr ⟨List.mem_of_getElem? (i := 131) rfl, List.forall_mem_cons.mpr ⟨List.mem_of_getElem? (i := 132) rfl, List.forall_mem_cons.mpr ⟨List.mem_of_getElem? (i := 133) rfl, List.forall_mem_cons.mpr ⟨List.mem_of_getElem? (i := 134) rfl, List.forall_mem_cons.mpr ⟨List.mem_of_getElem? (i := 135) rfl, List.forall_mem_cons.mpr ⟨List.mem_of_getElem? (i := 136) rfl, List.forall_mem_cons.mpr ⟨List.mem_of_getElem? (i := 137) rfl, List.forall_mem_cons.mpr ⟨List.mem_of_getElem? (i := 138) rfl, List.forall_mem_cons.mpr ⟨List.mem_of_getElem? (i := 139) rfl, List.forall_mem_cons.mpr ⟨List.mem_of_getElem? (i := 140) rfl, List.forall_mem_cons.mpr ⟨List.mem_of_getElem? (i := 141) rfl, List.forall_mem_cons.mpr ⟨List.mem_of_getElem? (i := 142) rfl, List.forall_mem_cons.mpr ⟨List.mem_of_getElem? (i := 143) rfl, List.forall_mem_cons.mpr ⟨List.mem_of_getElem? (i := 144) rfl, List.forall_mem_cons.mpr ⟨List.mem_of_getElem? (i := 145) rfl, List.forall_mem_cons.mpr ⟨List.mem_of_getElem? (i := 146) rfl, List.forall_mem_cons.mpr ⟨List.mem_of_getElem? (i := 147) rfl, List.forall_mem_cons.mpr ⟨List.mem_of_getElem? (i := 148) rfl, List.forall_mem_cons.mpr ⟨List.mem_of_getElem? (i := 149) rfl, List.forall_mem_cons.mpr ⟨List.mem_of_getElem? (i := 150) rfl, List.forall_mem_cons.mpr ⟨List.mem_of_getElem? (i := 151) rfl, List.forall_mem_cons.mpr ⟨List.mem_of_getElem? (i := 152) rfl, List.forall_mem_cons.mpr ⟨List.mem_of_getElem? (i := 153) rfl, fun _ h => absurd h List.not_mem_nil⟩⟩⟩⟩⟩⟩⟩⟩⟩⟩⟩⟩⟩⟩⟩⟩⟩⟩⟩⟩⟩⟩⟩⟩) (by decide +kernel)
set_option maxRecDepth 100000 in
theorem bgL_desk_step_6 : GoodIn wsL_desk wsL_step_r6 := goodIn_sub (List.forall_mem_cons.mpr ⟨List.mem_of_getElem? (i := 154) rfl, List.forall_mem_cons.mpr ⟨List.mem_of_getElem? (i := 155) rfl, List.forall_mem_cons.mpr ⟨List.mem_of_getElem? (i := 156) rfl, List.forall_mem_cons.mpr ⟨List.mem_of_getElem? (i := 157) rfl, List.forall_mem_cons.mpr ⟨List.mem_of_getElem? (i := 158) rfl, List.forall_mem_cons.mpr ⟨List.mem_of_getElem? (i := 159) rfl, List.forall_mem_cons.mpr ⟨List.mem_of_getElem? (i := 160) rfl, List.forall_mem_cons.mpr ⟨List.mem_of_getElem? (i := 161) rfl, List.forall_mem_cons.mpr ⟨List.mem_of_getElem? (i := 162) rfl, List.forall_mem_cons.mpr ⟨List.mem_of_getElem? (i := 163) rfl, List.forall_mem_cons.mpr ⟨List.mem_of_getElem? (i := 164) rfl, List.forall_mem_cons.mpr ⟨List.mem_of_getElem? (i := 165) rfl, List.forall_mem_cons.mpr ⟨List.mem_of_getElem? (i := 166) rfl, List.forall_mem_cons.mpr ⟨List.mem_of_getElem? (i := 167) rfl, List.forall_mem_cons.mpr ⟨List.mem_of_getElem? (i := 168) rfl, List.forall_mem_cons.mpr ⟨List.mem_of_getElem? (i := 169) rfl, List.forall_mem_cons.mpr ⟨List.mem_of_getElem? (i := 170) rfl, List.forall_mem_cons.mpr ⟨List.mem_of_getElem? (i := 171) rfl, List.forall_mem_cons.mpr ⟨List.mem_of_getElem? (i := 172) rfl, List.forall_mem_cons.mpr ⟨List.mem_of_getElem? (i := 173) rfl, List.forall_mem_cons.mpr ⟨List.mem_of_getElem? (i := 174) rfl, List.forall_mem_cons.mpr ⟨List.mem_of_getElem? (i := 175) rfl, List.forall_mem_cons.mpr ⟨List.mem_of_getElem? (i := 176) rfl, List.forall_mem_cons.mpr ⟨List.mem_of_getElem? (i := 177) rfl, fun _ h => absurd h List.not_mem_nil⟩⟩⟩⟩⟩⟩⟩⟩⟩⟩⟩⟩⟩⟩⟩⟩⟩⟩⟩⟩⟩⟩⟩⟩) (by decide +kernel)
set_option maxRecDepth 100000 in
theorem bgL_desk_step_7 : GoodIn wsL_desk wsL_step_r7 := goodIn_sub (List.forall_mem_cons.mpr ⟨List.mem_of_getElem? (i := 178) rfl, List.forall_mem_cons.mpr ⟨List.mem_of_getElem? (i := 179) rfl, List.forall_mem_cons.mpr ⟨List.mem_of_getElem? (i := 180) rfl, List.forall_mem_cons.mpr ⟨List.mem_of_getElem? (i := 181) rfl, List.forall_mem_cons.mpr ⟨List.mem_of_getElem? (i := 182) rfl, List.forall_mem_cons.mpr ⟨List.mem_of_getElem? (i := 21) rfl, List.forall_mem_cons.mpr ⟨List.mem_of_getElem? (i := 183) rfl, List.forall_mem_cons.mpr ⟨List.mem_of_getElem? (i := 184) rfl, List.forall_mem_cons.mpr ⟨List.mem_of_getElem? (i := 185) rfl, List.forall_mem_cons.mpr ⟨List.mem_of_getElem? (i := 186) rfl, List.forall_mem_cons.mpr ⟨List.mem_of_getElem? (i := 22) rfl, List.forall_mem_cons.mpr ⟨List.mem_of_getElem? (i := 187) rfl, List.forall_mem_cons.mpr ⟨List.mem_of_getElem? (i := 188) rfl, List.forall_mem_cons.mpr ⟨List.mem_of_getElem? (i := 189) rfl, List.forall_mem_cons.mpr ⟨List.mem_of_getElem? (i := 190) rfl, List.forall_mem_cons.mpr ⟨List.mem_of_getElem? (i := 17) rfl, List.forall_mem_cons.mpr ⟨List.mem_of_getElem? (i := 191) rfl, List.forall_mem_cons.mpr ⟨List.mem_of_getElem? (i := 192) rfl, List.forall_mem_cons.mpr ⟨List.mem_of_getElem? (i := 193) rfl, List.forall_mem_cons.mpr ⟨List.mem_of_getElem? (i := 194) rfl, List.forall_mem_cons.mpr ⟨List.mem_of_getElem? (i := 18) rfl, List.forall_mem_cons.mpr ⟨List.mem_of_getElem? (i := 195) rfl, List.forall_mem_cons.mpr ⟨List.mem_of_getElem? (i := 196) rfl, List.forall_mem_cons.mpr ⟨List.mem_of_getElem? (i := 197) rfl, fun _ h => absurd h List.not_mem_nil⟩⟩⟩⟩⟩⟩⟩⟩⟩⟩⟩⟩⟩⟩⟩⟩⟩⟩⟩⟩⟩⟩⟩⟩) (by decide +kernel)
set_option maxRecDepth 100000 in
theorem bgL_desk_step_8 : GoodIn wsL_desk wsL_step_r8 := goodIn_sub (List.forall_mem_cons.mpr ⟨List.mem_of_getElem? (i := 198) rfl, List.forall_mem_cons.mpr ⟨List.mem_of_getElem? (i := 199) rfl, List.forall_mem_cons.mpr ⟨List.mem_of_getElem? (i := 200) rfl, List.forall_mem_cons.mpr ⟨List.mem_of_getElem? (i := 201) rfl, List.forall_mem_cons.mpr ⟨List.mem_of_getElem? (i := 202) rfl, List.forall_mem_cons.mpr ⟨List.mem_of_getElem? (i := 203) rfl, List.forall_mem_cons.mpr ⟨List.mem_of_getElem? (i := 204) rfl, List.forall_mem_cons.mpr ⟨List.mem_of_getElem? (i := 205) rfl, List.forall_mem_cons.mpr ⟨List.mem_of_getElem? (i := 206) rfl, List.forall_mem_cons.mpr ⟨List.mem_of_getElem? (i := 32) rfl, List.forall_mem_cons.mpr ⟨List.mem_of_getElem? (i := 33) rfl, List.forall_mem_cons.mpr ⟨List.mem_of_getElem? (i := 207) rfl, List.forall_mem_cons.mpr ⟨List.mem_of_getElem? (i := 208) rfl, List.forall_mem_cons.mpr ⟨List.mem_of_getElem? (i := 209) rfl, List.forall_mem_cons.mpr ⟨List.mem_of_getElem? (i := 210) rfl, List.forall_mem_cons.mpr ⟨List.mem_of_getElem? (i := 211) rfl, List.forall_mem_cons.mpr ⟨List.mem_of_getElem? (i := 212) rfl, List.forall_mem_cons.mpr ⟨List.mem_of_getElem? (i := 213) rfl, List.forall_mem_cons.mpr ⟨List.mem_of_getElem? (i := 214) rfl, List.forall_mem_cons.mpr ⟨List.mem_of_getElem? (i := 215) rfl, List.forall_mem_cons.mpr ⟨List.mem_of_getElem? (i := 216) rfl, List.forall_mem_cons.mpr ⟨List.mem_of_getElem? (i := 24) rfl, List.forall_mem_cons.mpr ⟨List.mem_of_getElem? (i := 217) rfl, List.forall_mem_cons.mpr ⟨List.mem_of_getElem? (i := 218) rfl, fun _ h => absurd h List.not_mem_nil⟩⟩⟩⟩⟩⟩⟩⟩⟩⟩⟩⟩⟩⟩⟩⟩⟩⟩⟩⟩⟩⟩⟩⟩) (by decide +kernel)
set_option maxRecDepth 100000 in
theorem bgL_desk_step_9 : GoodIn wsL_desk wsL_step_r9 := goodIn_sub (List.forall_mem_cons.mpr ⟨List.mem_of_getElem? (i := 219) rfl, List.forall_mem_cons.mpr ⟨List.mem_of_getElem? (i := 220) rfl, List.forall_mem_cons.mpr ⟨List.mem_of_getElem? (i := 221) rfl, fun _ h => absurd h List.not_mem_nil⟩⟩⟩) (by decide +kernel)
set_option maxRecDepth 100000 in
theorem bcL_desk_step : GoodIn wsL_desk [.code yL_step cL_step 13 (some .boolean)] := goodIn_sub (List.forall_mem_cons.mpr ⟨List.mem_of_getElem? (i := 48) rfl, fun _ h => absurd h List.not_mem_nil⟩) (by decide +kernel)
set_option maxRecDepth 100000 in
theorem ggL_desk_L_step : GoodIn wsL_desk wsL_step := goodIn_ca (goodIn_ca (goodIn_ca (goodIn_ca (goodIn_ca (goodIn_co bcL_desk_step (goodIn_app bgL_desk_step_1 (goodIn_app bgL_desk_step_2 (goodIn_app bgL_desk_step_3 (goodIn_app bgL_desk_step_4 (goodIn_app bgL_desk_step_5 (goodIn_app bgL_desk_step_6 (goodIn_app bgL_desk_step_7 (goodIn_app bgL_desk_step_8 (bgL_desk_step_9)))))))))) (goodIn_sub (fun _ h => List.mem_cons_of_mem _ (List.mem_append_left _ (List.mem_append_left _ (List.mem_append_left _ (List.mem_append_left _ (List.mem_append_right _ h)))))) (by decide +kernel))) (goodIn_sub (fun _ h => List.mem_cons_of_mem _ (List.mem_append_left _ (List.mem_append_left _ (List.mem_append_left _ (List.mem_append_right _ h))))) (by decide +kernel))) (goodIn_sub (fun _ h => List.mem_cons_of_mem _ (List.mem_append_left _ (List.mem_append_left _ (List.mem_append_right _ h)))) (by decide +kernel))) (goodIn_sub (fun _ h => List.mem_cons_of_mem _ (List.mem_append_left _ (List.mem_append_right _ h))) (by decide +kernel))) (goodIn_sub (fun _ h => List.mem_cons_of_mem _ (List.mem_append_right _ h)) (by decide +kernel))
set_option maxRecDepth 20000 in
theorem gL_desk_L_step : GoodIn wsL_desk (va_wsS RL 127 yL_step wsL_step) := goodIn_app (goodIn_of _ (by decide +kernel)) ggL_desk_L_step
set_option maxRecDepth 20000 in
theorem ggL_desk_L_isDesk : GoodIn wsL_desk wsL_isDesk := goodIn_ca (goodIn_r _ [224, 225, 226, 227, 3, 228, 122, 163, 164, 165, 166, 58, 59, 19, 60, 61, 62, 63, 25, 64, 65, 66, 35, 36, 37, 38, 54, 55, 56, 57, 20, 179, 180, 181, 182, 21, 229, 230, 231, 232, 187, 188, 189, 190, 17, 267, 268, 269, 270, 271, 272, 273, 274, 275, 276, 277, 278, 279, 280, 281] (by decide +kernel) (by decide +kernel)) (goodIn_sub (fun _ h => List.mem_cons_of_mem _ (List.mem_append_left _ (List.mem_append_left _ (List.mem_append_right _ h)))) (by decide +kernel))
set_option maxRecDepth 20000 in
theorem gL_desk_L_isDesk : GoodIn wsL_desk (va_wsS RL 131 yL_isDesk wsL_isDesk) := goodIn_app (goodIn_of _ (by decide +kernel)) ggL_desk_L_isDesk
set_option maxRecDepth 20000 in
theorem ggL_desk_L_isLabel : GoodIn wsL_desk wsL_isLabel := goodIn_ca (goodIn_r _ [235, 236, 237, 238, 3, 239, 58, 59, 16, 64, 65, 66, 240, 241, 242, 15, 243, 32, 244, 245, 246, 247, 33, 248, 249, 250, 251, 267, 268, 269, 270, 271, 272, 273, 274, 275, 276, 277, 278, 279, 280, 281, 282, 283, 284, 285] (by decide +kernel) (by decide +kernel)) (goodIn_sub (fun _ h => List.mem_cons_of_mem _ (List.mem_append_left _ (List.mem_append_left _ (List.mem_append_right _ h)))) (by decide +kernel))
set_option maxRecDepth 20000 in
theorem gL_desk_L_isLabel : GoodIn wsL_desk (va_wsS RL 135 yL_isLabel wsL_isLabel) := goodIn_app (goodIn_of _ (by decide +kernel)) ggL_desk_L_isLabel
set_option maxRecDepth 20000 in
theorem ggL_desk_L_areHeld : GoodIn wsL_desk wsL_areHeld := goodIn_ca (goodIn_ca (goodIn_ca (goodIn_r _ [254, 255, 256, 257, 3, 258, 151, 152, 153, 154, 155, 156, 157, 158, 20, 60, 61, 62, 63, 25, 64, 65, 66, 70, 71, 41, 72, 73, 74, 75, 76, 77, 78, 58, 59, 79, 80, 81, 82, 83, 84, 85, 86, 87, 88, 89, 90, 91, 92, 93, 94, 95, 96, 97, 19, 53, 98, 99, 100, 101, 16, 102, 103, 104, 15, 105, 31, 106, 107, 108, 109, 110, 111, 112, 113, 34, 114, 115, 116, 117, 118, 119, 120, 121, 122, 123, 124, 26, 125, 126, 127, 128, 129, 130, 131, 132, 133, 134, 135, 136, 137, 138, 139, 140, 141, 142, 143, 144, 145, 146, 147, 148, 149, 150, 159, 160, 161, 162, 35, 36, 37, 38, 54, 55, 56, 57, 259, 260, 261, 262, 210, 211, 212, 263, 264, 265, 266, 24, 267, 268, 269, 270, 271, 272, 273, 274, 275, 276, 277, 278, 279, 280, 281, 282, 283, 284, 285] (by decide +kernel) (by decide +kernel)) (goodIn_sub (fun _ h => List.mem_cons_of_mem _ (List.mem_append_left _ (List.mem_append_left _ (List.mem_append_right _ h)))) (by decide +kernel))) (goodIn_sub (fun _ h => List.mem_cons_of_mem _ (List.mem_append_left _ (List.mem_append_right _ h))) (by decide +kernel))) (goodIn_sub (fun _ h => List.mem_cons_of_mem _ (List.mem_append_right _ h)) (by decide +kernel))
set_option maxRecDepth 20000 in
theorem gL_desk_L_areHeld : GoodIn wsL_desk (va_wsS RL 138 yL_areHeld wsL_areHeld) := goodIn_app (goodIn_of _ (by decide +kernel)) ggL_desk_L_areHeld
theorem dL_desk_0 : decode cL_desk 0 = .ok (.new 11, 3) := by decide +kernel
theorem dL_desk_3 : decode cL_desk 3 = .ok (.dup, 1) := by decide +kernel
theorem dL_desk_4 : decode cL_desk 4 = .ok (.invokespecial 122, 3) := by decide +kernel
theorem dL_desk_7 : decode cL_desk 7 = .ok (.astore_n 2, 1) := by decide +kernel
theorem dL_desk_8 : decode cL_desk 8 = .ok (.bipush 10, 2) := by decide +kernel
theorem dL_desk_10 : decode cL_desk 10 = .ok (.newarray .int, 2) := by decide +kernel
theorem dL_desk_12 : decode cL_desk 12 = .ok (.astore_n 3, 1) := by decide +kernel
theorem dL_desk_13 : decode cL_desk 13 = .ok (.bipush 60, 2) := by decide +kernel
theorem dL_desk_15 : decode cL_desk 15 = .ok (.newarray .int, 2) := by decide +kernel
theorem dL_desk_17 : decode cL_desk 17 = .ok (.astore 4, 2) := by decide +kernel
theorem dL_desk_19 : decode cL_desk 19 = .ok (.iconst 4, 1) := by decide +kernel
theorem dL_desk_20 : decode cL_desk 20 = .ok (.newarray .long, 2) := by decide +kernel
theorem dL_desk_22 : decode cL_desk 22 = .ok (.astore 5, 2) := by decide +kernel
theorem dL_desk_24 : decode cL_desk 24 = .ok (.aload_n 3, 1) := by decide +kernel
theorem dL_desk_25 : decode cL_desk 25 = .ok (.iconst 1, 1) := by decide +kernel
theorem dL_desk_26 : decode cL_desk 26 = .ok (.bipush 30, 2) := by decide +kernel
theorem dL_desk_28 : decode cL_desk 28 = .ok (.iastore, 1) := by decide +kernel
theorem dL_desk_29 : decode cL_desk 29 = .ok (.aload_n 3, 1) := by decide +kernel
theorem dL_desk_30 : decode cL_desk 30 = .ok (.iconst 2, 1) := by decide +kernel
theorem dL_desk_31 : decode cL_desk 31 = .ok (.bipush 12, 2) := by decide +kernel
theorem dL_desk_33 : decode cL_desk 33 = .ok (.iastore, 1) := by decide +kernel
theorem dL_desk_34 : decode cL_desk 34 = .ok (.aload_n 3, 1) := by decide +kernel
theorem dL_desk_35 : decode cL_desk 35 = .ok (.iconst 3, 1) := by decide +kernel
theorem dL_desk_36 : decode cL_desk 36 = .ok (.iconst 1, 1) := by decide +kernel
theorem dL_desk_37 : decode cL_desk 37 = .ok (.iastore, 1) := by decide +kernel
theorem dL_desk_38 : decode cL_desk 38 = .ok (.aload_n 3, 1) := by decide +kernel
theorem dL_desk_39 : decode cL_desk 39 = .ok (.iconst 5, 1) := by decide +kernel
theorem dL_desk_40 : decode cL_desk 40 = .ok (.bipush 7, 2) := by decide +kernel
theorem dL_desk_42 : decode cL_desk 42 = .ok (.iastore, 1) := by decide +kernel
theorem dL_desk_43 : decode cL_desk 43 = .ok (.aload_n 3, 1) := by decide +kernel
theorem dL_desk_44 : decode cL_desk 44 = .ok (.bipush 6, 2) := by decide +kernel
theorem dL_desk_46 : decode cL_desk 46 = .ok (.bipush 30, 2) := by decide +kernel
theorem dL_desk_48 : decode cL_desk 48 = .ok (.iastore, 1) := by decide +kernel
theorem dL_desk_49 : decode cL_desk 49 = .ok (.aload_n 3, 1) := by decide +kernel
theorem dL_desk_50 : decode cL_desk 50 = .ok (.bipush 7, 2) := by decide +kernel
theorem dL_desk_52 : decode cL_desk 52 = .ok (.iconst (-1), 1) := by decide +kernel
theorem dL_desk_53 : decode cL_desk 53 = .ok (.iastore, 1) := by decide +kernel
theorem dL_desk_54 : decode cL_desk 54 = .ok (.aload_n 2, 1) := by decide +kernel
theorem dL_desk_55 : decode cL_desk 55 = .ok (.invokevirtual 38, 3) := by decide +kernel
theorem dL_desk_58 : decode cL_desk 58 = .ok (.iconst 1, 1) := by decide +kernel
theorem dL_desk_59 : decode cL_desk 59 = .ok (.if_icmp .ne 7, 3) := by decide +kernel
theorem dL_desk_62 : decode cL_desk 62 = .ok (.iconst 1, 1) := by decide +kernel
theorem dL_desk_63 : decode cL_desk 63 = .ok (.goto 4, 3) := by decide +kernel
theorem dL_desk_66 : decode cL_desk 66 = .ok (.iconst 0, 1) := by decide +kernel
theorem dL_desk_67 : decode cL_desk 67 = .ok (.istore 6, 2) := by decide +kernel
theorem dL_desk_69 : decode cL_desk 69 = .ok (.iconst 0, 1) := by decide +kernel
theorem dL_desk_70 : decode cL_desk 70 = .ok (.istore 7, 2) := by decide +kernel
theorem dL_desk_72 : decode cL_desk 72 = .ok (.iload 7, 2) := by decide +kernel
theorem dL_desk_74 : decode cL_desk 74 = .ok (.bipush 60, 2) := by decide +kernel
theorem dL_desk_76 : decode cL_desk 76 = .ok (.if_icmp .ge 123, 3) := by decide +kernel
theorem dL_desk_79 : decode cL_desk 79 = .ok (.iload 6, 2) := by decide +kernel
theorem dL_desk_81 : decode cL_desk 81 = .ok (.ifCond .eq 118, 3) := by decide +kernel
theorem dL_desk_84 : decode cL_desk 84 = .ok (.aload_n 0, 1) := by decide +kernel
theorem dL_desk_85 : decode cL_desk 85 = .ok (.iload_n 1, 1) := by decide +kernel
theorem dL_desk_86 : decode cL_desk 86 = .ok (.iconst 3, 1) := by decide +kernel
theorem dL_desk_87 : decode cL_desk 87 = .ok (.iload 7, 2) := by decide +kernel
theorem dL_desk_89 : decode cL_desk 89 = .ok (.imul, 1) := by decide +kernel
theorem dL_desk_90 : decode cL_desk 90 = .ok (.iadd, 1) := by decide +kernel
theorem dL_desk_91 : decode cL_desk 91 = .ok (.iconst 1, 1) := by decide +kernel
theorem dL_desk_92 : decode cL_desk 92 = .ok (.iadd, 1) := by decide +kernel
theorem dL_desk_93 : decode cL_desk 93 = .ok (.ldc 123, 2) := by decide +kernel
theorem dL_desk_95 : decode cL_desk 95 = .ok (.invokestatic 124, 3) := by decide +kernel
theorem dL_desk_98 : decode cL_desk 98 = .ok (.istore 8, 2) := by decide +kernel
theorem dL_desk_100 : decode cL_desk 100 = .ok (.aload_n 0, 1) := by decide +kernel
theorem dL_desk_101 : decode cL_desk 101 = .ok (.iload_n 1, 1) := by decide +kernel
theorem dL_desk_102 : decode cL_desk 102 = .ok (.iconst 3, 1) := by decide +kernel
theorem dL_desk_103 : decode cL_desk 103 = .ok (.iload 7, 2) := by decide +kernel
theorem dL_desk_105 : decode cL_desk 105 = .ok (.imul, 1) := by decide +kernel
theorem dL_desk_106 : decode cL_desk 106 = .ok (.iadd, 1) := by decide +kernel
theorem dL_desk_107 : decode cL_desk 107 = .ok (.iconst 2, 1) := by decide +kernel
theorem dL_desk_108 : decode cL_desk 108 = .ok (.iadd, 1) := by decide +kernel
theorem dL_desk_109 : decode cL_desk 109 = .ok (.ldc 123, 2) := by decide +kernel
theorem dL_desk_111 : decode cL_desk 111 = .ok (.invokestatic 124, 3) := by decide +kernel
theorem dL_desk_114 : decode cL_desk 114 = .ok (.istore 9, 2) := by decide +kernel
theorem dL_desk_116 : decode cL_desk 116 = .ok (.aload_n 2, 1) := by decide +kernel
theorem dL_desk_117 : decode cL_desk 117 = .ok (.aload_n 0, 1) := by decide +kernel
theorem dL_desk_118 : decode cL_desk 118 = .ok (.iload_n 1, 1) := by decide +kernel
theorem dL_desk_119 : decode cL_desk 119 = .ok (.iconst 3, 1) := by decide +kernel
theorem dL_desk_120 : decode cL_desk 120 = .ok (.iload 7, 2) := by decide +kernel
theorem dL_desk_122 : decode cL_desk 122 = .ok (.imul, 1) := by decide +kernel
theorem dL_desk_123 : decode cL_desk 123 = .ok (.iadd, 1) := by decide +kernel
theorem dL_desk_124 : decode cL_desk 124 = .ok (.bipush 20, 2) := by decide +kernel
theorem dL_desk_126 : decode cL_desk 126 = .ok (.invokestatic 124, 3) := by decide +kernel
theorem dL_desk_129 : decode cL_desk 129 = .ok (.iload 8, 2) := by decide +kernel
theorem dL_desk_131 : decode cL_desk 131 = .ok (.iload 9, 2) := by decide +kernel
theorem dL_desk_133 : decode cL_desk 133 = .ok (.aload_n 3, 1) := by decide +kernel
theorem dL_desk_134 : decode cL_desk 134 = .ok (.aload 4, 2) := by decide +kernel
theorem dL_desk_136 : decode cL_desk 136 = .ok (.aload 5, 2) := by decide +kernel
theorem dL_desk_138 : decode cL_desk 138 = .ok (.invokestatic 127, 3) := by decide +kernel
theorem dL_desk_141 : decode cL_desk 141 = .ok (.ifCond .eq 49, 3) := by decide +kernel
theorem dL_desk_144 : decode cL_desk 144 = .ok (.aload_n 2, 1) := by decide +kernel
theorem dL_desk_145 : decode cL_desk 145 = .ok (.aload_n 3, 1) := by decide +kernel
theorem dL_desk_146 : decode cL_desk 146 = .ok (.invokestatic 131, 3) := by decide +kernel
theorem dL_desk_149 : decode cL_desk 149 = .ok (.ifCond .eq 41, 3) := by decide +kernel
theorem dL_desk_152 : decode cL_desk 152 = .ok (.aload_n 2, 1) := by decide +kernel
theorem dL_desk_153 : decode cL_desk 153 = .ok (.aload_n 3, 1) := by decide +kernel
theorem dL_desk_154 : decode cL_desk 154 = .ok (.iload 9, 2) := by decide +kernel
theorem dL_desk_156 : decode cL_desk 156 = .ok (.bipush 9, 2) := by decide +kernel
theorem dL_desk_158 : decode cL_desk 158 = .ok (.idiv, 1) := by decide +kernel
theorem dL_desk_159 : decode cL_desk 159 = .ok (.sipush 200, 3) := by decide +kernel
theorem dL_desk_162 : decode cL_desk 162 = .ok (.irem, 1) := by decide +kernel
theorem dL_desk_163 : decode cL_desk 163 = .ok (.invokestatic 135, 3) := by decide +kernel
theorem dL_desk_166 : decode cL_desk 166 = .ok (.ifCond .eq 24, 3) := by decide +kernel
theorem dL_desk_169 : decode cL_desk 169 = .ok (.iload 7, 2) := by decide +kernel
theorem dL_desk_171 : decode cL_desk 171 = .ok (.iconst 5, 1) := by decide +kernel
theorem dL_desk_172 : decode cL_desk 172 = .ok (.irem, 1) := by decide +kernel
theorem dL_desk_173 : decode cL_desk 173 = .ok (.iconst 4, 1) := by decide +kernel
theorem dL_desk_174 : decode cL_desk 174 = .ok (.if_icmp .lt 12, 3) := by decide +kernel
theorem dL_desk_177 : decode cL_desk 177 = .ok (.aload_n 2, 1) := by decide +kernel
theorem dL_desk_178 : decode cL_desk 178 = .ok (.aload 5, 2) := by decide +kernel
theorem dL_desk_180 : decode cL_desk 180 = .ok (.invokestatic 138, 3) := by decide +kernel
theorem dL_desk_183 : decode cL_desk 183 = .ok (.ifCond .eq 7, 3) := by decide +kernel
theorem dL_desk_186 : decode cL_desk 186 = .ok (.iconst 1, 1) := by decide +kernel
theorem dL_desk_187 : decode cL_desk 187 = .ok (.goto 4, 3) := by decide +kernel
theorem dL_desk_190 : decode cL_desk 190 = .ok (.iconst 0, 1) := by decide +kernel
theorem dL_desk_191 : decode cL_desk 191 = .ok (.istore 6, 2) := by decide +kernel
theorem dL_desk_193 : decode cL_desk 193 = .ok (.iinc 7 1, 3) := by decide +kernel
theorem dL_desk_196 : decode cL_desk 196 = .ok (.goto (-124), 3) := by decide +kernel
theorem dL_desk_199 : decode cL_desk 199 = .ok (.iload 6, 2) := by decide +kernel
theorem dL_desk_201 : decode cL_desk 201 = .ok (.ireturn, 1) := by decide +kernel
set_option maxRecDepth 100000 in
theorem bgL_law_desk_1 : GoodIn wsL_law wsL_desk_r1 := goodIn_sub (List.forall_mem_cons.mpr ⟨List.mem_of_getElem? (i := 4) rfl, List.forall_mem_cons.mpr ⟨List.mem_of_getElem? (i := 5) rfl, List.forall_mem_cons.mpr ⟨List.mem_of_getElem? (i := 6) rfl, List.forall_mem_cons.mpr ⟨List.mem_of_getElem? (i := 7) rfl, List.forall_mem_cons.mpr ⟨List.mem_of_getElem? (i := 8) rfl, List.forall_mem_cons.mpr ⟨List.mem_of_getElem? (i := 9) rfl, List.forall_mem_cons.mpr ⟨List.mem_of_getElem? (i := 10) rfl, List.forall_mem_cons.mpr ⟨List.mem_of_getElem? (i := 11) rfl, List.forall_mem_cons.mpr ⟨List.mem_of_getElem? (i := 12) rfl, List.forall_mem_cons.mpr ⟨List.mem_of_getElem? (i := 13) rfl, List.forall_mem_cons.mpr ⟨List.mem_of_getElem? (i := 14) rfl, List.forall_mem_cons.mpr ⟨List.mem_of_getElem? (i := 15) rfl, List.forall_mem_cons.mpr ⟨List.mem_of_getElem? (i := 16) rfl, List.forall_mem_cons.mpr ⟨List.mem_of_getElem? (i := 17) rfl, List.forall_mem_cons.mpr ⟨List.mem_of_getElem? (i := 18) rfl, List.forall_mem_cons.mpr ⟨List.mem_of_getElem? (i := 19) rfl, List.forall_mem_cons.mpr ⟨List.mem_of_getElem? (i := 20) rfl, List.forall_mem_cons.mpr ⟨List.mem_of_getElem? (i := 21) rfl, List.forall_mem_cons.mpr ⟨List.mem_of_getElem? (i := 22) rfl, List.forall_mem_cons.mpr ⟨List.mem_of_getElem? (i := 23) rfl, List.forall_mem_cons.mpr ⟨List.mem_of_getElem? (i := 24) rfl, List.forall_mem_cons.mpr ⟨List.mem_of_getElem? (i := 25) rfl, List.forall_mem_cons.mpr ⟨List.mem_of_getElem? (i := 26) rfl, List.forall_mem_cons.mpr ⟨List.mem_of_getElem? (i := 27) rfl, fun _ h => absurd h List.not_mem_nil⟩⟩⟩⟩⟩⟩⟩⟩⟩⟩⟩⟩⟩⟩⟩⟩⟩⟩⟩⟩⟩⟩⟩⟩) (by decide +kernel)
set_option maxRecDepth 100000 in
theorem bgL_law_desk_2 : GoodIn wsL_law wsL_desk_r2 := goodIn_sub (List.forall_mem_cons.mpr ⟨List.mem_of_getElem? (i := 28) rfl, List.forall_mem_cons.mpr ⟨List.mem_of_getElem? (i := 29) rfl, List.forall_mem_cons.mpr ⟨List.mem_of_getElem? (i := 30) rfl, List.forall_mem_cons.mpr ⟨List.mem_of_getElem? (i := 31) rfl, List.forall_mem_cons.mpr ⟨List.mem_of_getElem? (i := 32) rfl, List.forall_mem_cons.mpr ⟨List.mem_of_getElem? (i := 33) rfl, List.forall_mem_cons.mpr ⟨List.mem_of_getElem? (i := 34) rfl, List.forall_mem_cons.mpr ⟨List.mem_of_getElem? (i := 35) rfl, List.forall_mem_cons.mpr ⟨List.mem_of_getElem? (i := 36) rfl, List.forall_mem_cons.mpr ⟨List.mem_of_getElem? (i := 37) rfl, List.forall_mem_cons.mpr ⟨List.mem_of_getElem? (i := 38) rfl, List.forall_mem_cons.mpr ⟨List.mem_of_getElem? (i := 39) rfl, List.forall_mem_cons.mpr ⟨List.mem_of_getElem? (i := 40) rfl, List.forall_mem_cons.mpr ⟨List.mem_of_getElem? (i := 41) rfl, List.forall_mem_cons.mpr ⟨List.mem_of_getElem? (i := 42) rfl, List.forall_mem_cons.mpr ⟨List.mem_of_getElem? (i := 43) rfl, List.forall_mem_cons.mpr ⟨List.mem_of_getElem? (i := 2) rfl, List.forall_mem_cons.mpr ⟨List.mem_of_getElem? (i := 44) rfl, List.forall_mem_cons.mpr ⟨List.mem_of_getElem? (i := 45) rfl, List.forall_mem_cons.mpr ⟨List.mem_of_getElem? (i := 46) rfl, List.forall_mem_cons.mpr ⟨List.mem_of_getElem? (i := 47) rfl, List.forall_mem_cons.mpr ⟨List.mem_of_getElem? (i := 48) rfl, List.forall_mem_cons.mpr ⟨List.mem_of_getElem? (i := 49) rfl, List.forall_mem_cons.mpr ⟨List.mem_of_getElem? (i := 50) rfl, fun _ h => absurd h List.not_mem_nil⟩⟩⟩⟩⟩⟩⟩⟩⟩⟩⟩⟩⟩⟩⟩⟩⟩⟩⟩⟩⟩⟩⟩⟩) (by decide +kernel)
set_option maxRecDepth 100000 in
theorem bgL_law_desk_3 : GoodIn wsL_law wsL_desk_r3 := goodIn_sub (List.forall_mem_cons.mpr ⟨List.mem_of_getElem? (i := 51) rfl, List.forall_mem_cons.mpr ⟨List.mem_of_getElem? (i := 52) rfl, List.forall_mem_cons.mpr ⟨List.mem_of_getElem? (i := 53) rfl, List.forall_mem_cons.mpr ⟨List.mem_of_getElem? (i := 54) rfl, List.forall_mem_cons.mpr ⟨List.mem_of_getElem? (i := 55) rfl, List.forall_mem_cons.mpr ⟨List.mem_of_getElem? (i := 56) rfl, List.forall_mem_cons.mpr ⟨List.mem_of_getElem? (i := 57) rfl, List.forall_mem_cons.mpr ⟨List.mem_of_getElem? (i := 58) rfl, List.forall_mem_cons.mpr ⟨List.mem_of_getElem? (i := 59) rfl, List.forall_mem_cons.mpr ⟨List.mem_of_getElem? (i := 60) rfl, List.forall_mem_cons.mpr ⟨List.mem_of_getElem? (i := 61) rfl, List.forall_mem_cons.mpr ⟨List.mem_of_getElem? (i := 62) rfl, List.forall_mem_cons.mpr ⟨List.mem_of_getElem? (i := 63) rfl, List.forall_mem_cons.mpr ⟨List.mem_of_getElem? (i := 64) rfl, List.forall_mem_cons.mpr ⟨List.mem_of_getElem? (i := 65) rfl, List.forall_mem_cons.mpr ⟨List.mem_of_getElem? (i := 66) rfl, List.forall_mem_cons.mpr ⟨List.mem_of_getElem? (i := 67) rfl, List.forall_mem_cons.mpr ⟨List.mem_of_getElem? (i := 68) rfl, List.forall_mem_cons.mpr ⟨List.mem_of_getElem? (i := 69) rfl, List.forall_mem_cons.mpr ⟨List.mem_of_getElem? (i := 70) rfl, List.forall_mem_cons.mpr ⟨List.mem_of_getElem? (i := 71) rfl, List.forall_mem_cons.mpr ⟨List.mem_of_getElem? (i := 72) rfl, List.forall_mem_cons.mpr ⟨List.mem_of_getElem? (i := 73) rfl, List.forall_mem_cons.mpr ⟨List.mem_of_getElem? (i := 74) rfl, fun _ h => absurd h List.not_mem_nil⟩⟩⟩⟩⟩⟩⟩⟩⟩⟩⟩⟩⟩⟩⟩⟩⟩⟩⟩⟩⟩⟩⟩⟩) (by decide +kernel)
set_option maxRecDepth 100000 in
theorem bgL_law_desk_4 : GoodIn wsL_law wsL_desk_r4 := goodIn_sub (List.forall_mem_cons.mpr ⟨List.mem_of_getElem? (i := 75) rfl, List.forall_mem_cons.mpr ⟨List.mem_of_getElem? (i := 76) rfl, List.forall_mem_cons.mpr ⟨List.mem_of_getElem? (i := 77) rfl, List.forall_mem_cons.mpr ⟨List.mem_of_getElem? (i := 78) rfl, List.forall_mem_cons.mpr ⟨List.mem_of_getElem? (i := 79) rfl, List.forall_mem_cons.mpr ⟨List.mem_of_getElem? (i := 80) rfl, List.forall_mem_cons.mpr ⟨List.mem_of_getElem? (i := 81) rfl, List.forall_mem_cons.mpr ⟨List.mem_of_getElem? (i := 82) rfl, List.forall_mem_cons.mpr ⟨List.mem_of_getElem? (i := 83) rfl, List.forall_mem_cons.mpr ⟨List.mem_of_getElem? (i := 84) rfl, List.forall_mem_cons.mpr ⟨List.mem_of_getElem? (i := 85) rfl, List.forall_mem_cons.mpr ⟨List.mem_of_getElem? (i := 86) rfl, List.forall_mem_cons.mpr ⟨List.mem_of_getElem? (i := 87) rfl, List.forall_mem_cons.mpr ⟨List.mem_of_getElem? (i := 88) rfl, List.forall_mem_cons.mpr ⟨List.mem_of_getElem? (i := 89) rfl, List.forall_mem_cons.mpr ⟨List.mem_of_getElem? (i := 90) rfl, List.forall_mem_cons.mpr ⟨List.mem_of_getElem? (i := 91) rfl, List.forall_mem_cons.mpr ⟨List.mem_of_getElem? (i := 92) rfl, List.forall_mem_cons.mpr ⟨List.mem_of_getElem? (i := 93) rfl, List.forall_mem_cons.mpr ⟨List.mem_of_getElem? (i := 94) rfl, List.forall_mem_cons.mpr ⟨List.mem_of_getElem? (i := 95) rfl, List.forall_mem_cons.mpr ⟨List.mem_of_getElem? (i := 96) rfl, List.forall_mem_cons.mpr ⟨List.mem_of_getElem? (i := 97) rfl, List.forall_mem_cons.mpr ⟨List.mem_of_getElem? (i := 98) rfl, fun _ h => absurd h List.not_mem_nil⟩⟩⟩⟩⟩⟩⟩⟩⟩⟩⟩⟩⟩⟩⟩⟩⟩⟩⟩⟩⟩⟩⟩⟩) (by decide +kernel)
set_option maxRecDepth 100000 in
theorem bgL_law_desk_5 : GoodIn wsL_law wsL_desk_r5 := goodIn_sub (List.forall_mem_cons.mpr ⟨List.mem_of_getElem? (i := 99) rfl, List.forall_mem_cons.mpr ⟨List.mem_of_getElem? (i := 100) rfl, List.forall_mem_cons.mpr ⟨List.mem_of_getElem? (i := 101) rfl, List.forall_mem_cons.mpr ⟨List.mem_of_getElem? (i := 102) rfl, List.forall_mem_cons.mpr ⟨List.mem_of_getElem? (i := 103) rfl, List.forall_mem_cons.mpr ⟨List.mem_of_getElem? (i := 104) rfl, List.forall_mem_cons.mpr ⟨List.mem_of_getElem? (i := 105) rfl, List.forall_mem_cons.mpr ⟨List.mem_of_getElem? (i := 106) rfl, List.forall_mem_cons.mpr ⟨List.mem_of_getElem? (i := 107) rfl, List.forall_mem_cons.mpr ⟨List.mem_of_getElem? (i := 108) rfl, List.forall_mem_cons.mpr ⟨List.mem_of_getElem? (i := 109) rfl, List.forall_mem_cons.mpr ⟨List.mem_of_getElem? (i := 110) rfl, List.forall_mem_cons.mpr ⟨List.mem_of_getElem? (i := 111) rfl, List.forall_mem_cons.mpr ⟨List.mem_of_getElem? (i := 112) rfl, List.forall_mem_cons.mpr ⟨List.mem_of_getElem? (i := 113) rfl, List.forall_mem_cons.mpr ⟨List.mem_of_getElem? (i := 114) rfl, List.forall_mem_cons.mpr ⟨List.mem_of_getElem? (i := 115) rfl, List.forall_mem_cons.mpr ⟨List.mem_of_getElem? (i := 116) rfl, List.forall_mem_cons.mpr ⟨List.mem_of_getElem? (i := 117) rfl, List.forall_mem_cons.mpr ⟨List.mem_of_getElem? (i := 118) rfl, List.forall_mem_cons.mpr ⟨List.mem_of_getElem? (i := 119) rfl, List.forall_mem_cons.mpr ⟨List.mem_of_getElem? (i := 120) rfl, List.forall_mem_cons.mpr ⟨List.mem_of_getElem? (i := 121) rfl, List.forall_mem_cons.mpr ⟨List.mem_of_getElem? (i := 122) rfl, fun _ h => absurd h List.not_mem_nil⟩⟩⟩⟩⟩⟩⟩⟩⟩⟩⟩⟩⟩⟩⟩⟩⟩⟩⟩⟩⟩⟩⟩⟩) (by decide +kernel)
set_option maxRecDepth 100000 in
theorem bgL_law_desk_6 : GoodIn wsL_law wsL_desk_r6 := goodIn_sub (List.forall_mem_cons.mpr ⟨List.mem_of_getElem? (i := 123) rfl, List.forall_mem_cons.mpr ⟨List.mem_of_getElem? (i := 124) rfl, List.forall_mem_cons.mpr ⟨List.mem_of_getElem? (i := 125) rfl, List.forall_mem_cons.mpr ⟨List.mem_of_getElem? (i := 126) rfl, List.forall_mem_cons.mpr ⟨List.mem_of_getElem? (i := 127) rfl, List.forall_mem_cons.mpr ⟨List.mem_of_getElem? (i := 128) rfl, List.forall_mem_cons.mpr ⟨List.mem_of_getElem? (i := 129) rfl, List.forall_mem_cons.mpr ⟨List.mem_of_getElem? (i := 130) rfl, List.forall_mem_cons.mpr ⟨List.mem_of_getElem? (i := 131) rfl, List.forall_mem_cons.mpr ⟨List.mem_of_getElem? (i := 132) rfl, List.forall_mem_cons.mpr ⟨List.mem_of_getElem? (i := 133) rfl, List.forall_mem_cons.mpr ⟨List.mem_of_getElem? (i := 134) rfl, List.forall_mem_cons.mpr ⟨List.mem_of_getElem? (i := 135) rfl, List.forall_mem_cons.mpr ⟨List.mem_of_getElem? (i := 136) rfl, List.forall_mem_cons.mpr ⟨List.mem_of_getElem? (i := 137) rfl, List.forall_mem_cons.mpr ⟨List.mem_of_getElem? (i := 138) rfl, List.forall_mem_cons.mpr ⟨List.mem_of_getElem? (i := 139) rfl, List.forall_mem_cons.mpr ⟨List.mem_of_getElem? (i := 140) rfl, List.forall_mem_cons.mpr ⟨List.mem_of_getElem? (i := 141) rfl, List.forall_mem_cons.mpr ⟨List.mem_of_getElem? (i := 142) rfl, List.forall_mem_cons.mpr ⟨List.mem_of_getElem? (i := 143) rfl, List.forall_mem_cons.mpr ⟨List.mem_of_getElem? (i := 144) rfl, List.forall_mem_cons.mpr ⟨List.mem_of_getElem? (i := 145) rfl, List.forall_mem_cons.mpr ⟨List.mem_of_getElem? (i := 146) rfl, fun _ h => absurd h List.not_mem_nil⟩⟩⟩⟩⟩⟩⟩⟩⟩⟩⟩⟩⟩⟩⟩⟩⟩⟩⟩⟩⟩⟩⟩⟩) (by decide +kernel)
set_option maxRecDepth 100000 in
theorem bgL_law_desk_7 : GoodIn wsL_law wsL_desk_r7 := goodIn_sub (List.forall_mem_cons.mpr ⟨List.mem_of_getElem? (i := 147) rfl, List.forall_mem_cons.mpr ⟨List.mem_of_getElem? (i := 148) rfl, List.forall_mem_cons.mpr ⟨List.mem_of_getElem? (i := 149) rfl, List.forall_mem_cons.mpr ⟨List.mem_of_getElem? (i := 150) rfl, List.forall_mem_cons.mpr ⟨List.mem_of_getElem? (i := 151) rfl, List.forall_mem_cons.mpr ⟨List.mem_of_getElem? (i := 152) rfl, List.forall_mem_cons.mpr ⟨List.mem_of_getElem? (i := 153) rfl, List.forall_mem_cons.mpr ⟨List.mem_of_getElem? (i := 154) rfl, List.forall_mem_cons.mpr ⟨List.mem_of_getElem? (i := 155) rfl, List.forall_mem_cons.mpr ⟨List.mem_of_getElem? (i := 156) rfl, List.forall_mem_cons.mpr ⟨List.mem_of_getElem? (i := 157) rfl, List.forall_mem_cons.mpr ⟨List.mem_of_getElem? (i := 158) rfl, List.forall_mem_cons.mpr ⟨List.mem_of_getElem? (i := 159) rfl, List.forall_mem_cons.mpr ⟨List.mem_of_getElem? (i := 160) rfl, List.forall_mem_cons.mpr ⟨List.mem_of_getElem? (i := 161) rfl, List.forall_mem_cons.mpr ⟨List.mem_of_getElem? (i := 162) rfl, List.forall_mem_cons.mpr ⟨List.mem_of_getElem? (i := 163) rfl, List.forall_mem_cons.mpr ⟨List.mem_of_getElem? (i := 164) rfl, List.forall_mem_cons.mpr ⟨List.mem_of_getElem? (i := 165) rfl, List.forall_mem_cons.mpr ⟨List.mem_of_getElem? (i := 166) rfl, List.forall_mem_cons.mpr ⟨List.mem_of_getElem? (i := 167) rfl, List.forall_mem_cons.mpr ⟨List.mem_of_getElem? (i := 168) rfl, List.forall_mem_cons.mpr ⟨List.mem_of_getElem? (i := 169) rfl, List.forall_mem_cons.mpr ⟨List.mem_of_getElem? (i := 170) rfl, fun _ h => absurd h List.not_mem_nil⟩⟩⟩⟩⟩⟩⟩⟩⟩⟩⟩⟩⟩⟩⟩⟩⟩⟩⟩⟩⟩⟩⟩⟩) (by decide +kernel)
set_option maxRecDepth 100000 in
theorem bgL_law_desk_8 : GoodIn wsL_law wsL_desk_r8 := goodIn_sub (List.forall_mem_cons.mpr ⟨List.mem_of_getElem? (i := 171) rfl, List.forall_mem_cons.mpr ⟨List.mem_of_getElem? (i := 172) rfl, List.forall_mem_cons.mpr ⟨List.mem_of_getElem? (i := 173) rfl, List.forall_mem_cons.mpr ⟨List.mem_of_getElem? (i := 174) rfl, List.forall_mem_cons.mpr ⟨List.mem_of_getElem? (i := 175) rfl, List.forall_mem_cons.mpr ⟨List.mem_of_getElem? (i := 176) rfl, List.forall_mem_cons.mpr ⟨List.mem_of_getElem? (i := 177) rfl, List.forall_mem_cons.mpr ⟨List.mem_of_getElem? (i := 178) rfl, List.forall_mem_cons.mpr ⟨List.mem_of_getElem? (i := 179) rfl, List.forall_mem_cons.mpr ⟨List.mem_of_getElem? (i := 180) rfl, List.forall_mem_cons.mpr ⟨List.mem_of_getElem? (i := 181) rfl, List.forall_mem_cons.mpr ⟨List.mem_of_getElem? (i := 182) rfl, List.forall_mem_cons.mpr ⟨List.mem_of_getElem? (i := 183) rfl, List.forall_mem_cons.mpr ⟨List.mem_of_getElem? (i := 184) rfl, List.forall_mem_cons.mpr ⟨List.mem_of_getElem? (i := 185) rfl, List.forall_mem_cons.mpr ⟨List.mem_of_getElem? (i := 186) rfl, List.forall_mem_cons.mpr ⟨List.mem_of_getElem? (i := 187) rfl, List.forall_mem_cons.mpr ⟨List.mem_of_getElem? (i := 188) rfl, List.forall_mem_cons.mpr ⟨List.mem_of_getElem? (i := 189) rfl, List.forall_mem_cons.mpr ⟨List.mem_of_getElem? (i := 190) rfl, List.forall_mem_cons.mpr ⟨List.mem_of_getElem? (i := 191) rfl, List.forall_mem_cons.mpr ⟨List.mem_of_getElem? (i := 192) rfl, List.forall_mem_cons.mpr ⟨List.mem_of_getElem? (i := 193) rfl, List.forall_mem_cons.mpr ⟨List.mem_of_getElem? (i := 194) rfl, fun _ h => absurd h List.not_mem_nil⟩⟩⟩⟩⟩⟩⟩⟩⟩⟩⟩⟩⟩⟩⟩⟩⟩⟩⟩⟩⟩⟩⟩⟩) (by decide +kernel)
set_option maxRecDepth 100000 in
theorem bgL_law_desk_9 : GoodIn wsL_law wsL_desk_r9 := goodIn_sub (List.forall_mem_cons.mpr ⟨List.mem_of_getElem? (i := 195) rfl, List.forall_mem_cons.mpr ⟨List.mem_of_getElem? (i := 196) rfl, List.forall_mem_cons.mpr ⟨List.mem_of_getElem? (i := 197) rfl, List.forall_mem_cons.mpr ⟨List.mem_of_getElem? (i := 198) rfl, List.forall_mem_cons.mpr ⟨List.mem_of_getElem? (i := 199) rfl, List.forall_mem_cons.mpr ⟨List.mem_of_getElem? (i := 200) rfl, List.forall_mem_cons.mpr ⟨List.mem_of_getElem? (i := 201) rfl, List.forall_mem_cons.mpr ⟨List.mem_of_getElem? (i := 202) rfl, List.forall_mem_cons.mpr ⟨List.mem_of_getElem? (i := 203) rfl, List.forall_mem_cons.mpr ⟨List.mem_of_getElem? (i := 204) rfl, List.forall_mem_cons.mpr ⟨List.mem_of_getElem? (i := 205) rfl, List.forall_mem_cons.mpr ⟨List.mem_of_getElem? (i := 206) rfl, List.forall_mem_cons.mpr ⟨List.mem_of_getElem? (i := 207) rfl, List.forall_mem_cons.mpr ⟨List.mem_of_getElem? (i := 208) rfl, List.forall_mem_cons.mpr ⟨List.mem_of_getElem? (i := 209) rfl, List.forall_mem_cons.mpr ⟨List.mem_of_getElem? (i := 210) rfl, List.forall_mem_cons.mpr ⟨List.mem_of_getElem? (i := 211) rfl, List.forall_mem_cons.mpr ⟨List.mem_of_getElem? (i := 212) rfl, List.forall_mem_cons.mpr ⟨List.mem_of_getElem? (i := 213) rfl, List.forall_mem_cons.mpr ⟨List.mem_of_getElem? (i := 214) rfl, List.forall_mem_cons.mpr ⟨List.mem_of_getElem? (i := 215) rfl, List.forall_mem_cons.mpr ⟨List.mem_of_getElem? (i := 216) rfl, List.forall_mem_cons.mpr ⟨List.mem_of_getElem? (i := 217) rfl, List.forall_mem_cons.mpr ⟨List.mem_of_getElem? (i := 218) rfl, fun _ h => absurd h List.not_mem_nil⟩⟩⟩⟩⟩⟩⟩⟩⟩⟩⟩⟩⟩⟩⟩⟩⟩⟩⟩⟩⟩⟩⟩⟩) (by decide +kernel)
set_option maxRecDepth 100000 in
theorem bgL_law_desk_10 : GoodIn wsL_law wsL_desk_r10 := goodIn_sub (List.forall_mem_cons.mpr ⟨List.mem_of_getElem? (i := 219) rfl, List.forall_mem_cons.mpr ⟨List.mem_of_getElem? (i := 220) rfl, List.forall_mem_cons.mpr ⟨List.mem_of_getElem? (i := 221) rfl, List.forall_mem_cons.mpr ⟨List.mem_of_getElem? (i := 222) rfl, List.forall_mem_cons.mpr ⟨List.mem_of_getElem? (i := 223) rfl, List.forall_mem_cons.mpr ⟨List.mem_of_getElem? (i := 224) rfl, List.forall_mem_cons.mpr ⟨List.mem_of_getElem? (i := 225) rfl, List.forall_mem_cons.mpr ⟨List.mem_of_getElem? (i := 226) rfl, List.forall_mem_cons.mpr ⟨List.mem_of_getElem? (i := 227) rfl, List.forall_mem_cons.mpr ⟨List.mem_of_getElem? (i := 228) rfl, List.forall_mem_cons.mpr ⟨List.mem_of_getElem? (i := 229) rfl, List.forall_mem_cons.mpr ⟨List.mem_of_getElem? (i := 230) rfl, List.forall_mem_cons.mpr ⟨List.mem_of_getElem? (i := 231) rfl, List.forall_mem_cons.mpr ⟨List.mem_of_getElem? (i := 232) rfl, List.forall_mem_cons.mpr ⟨List.mem_of_getElem? (i := 233) rfl, List.forall_mem_cons.mpr ⟨List.mem_of_getElem? (i := 234) rfl, List.forall_mem_cons.mpr ⟨List.mem_of_getElem? (i := 235) rfl, List.forall_mem_cons.mpr ⟨List.mem_of_getElem? (i := 236) rfl, List.forall_mem_cons.mpr ⟨List.mem_of_getElem? (i := 237) rfl, List.forall_mem_cons.mpr ⟨List.mem_of_getElem? (i := 238) rfl, List.forall_mem_cons.mpr ⟨List.mem_of_getElem? (i := 239) rfl, List.forall_mem_cons.mpr ⟨List.mem_of_getElem? (i := 240) rfl, List.forall_mem_cons.mpr ⟨List.mem_of_getElem? (i := 241) rfl, List.forall_mem_cons.mpr ⟨List.mem_of_getElem? (i := 242) rfl, fun _ h => absurd h List.not_mem_nil⟩⟩⟩⟩⟩⟩⟩⟩⟩⟩⟩⟩⟩⟩⟩⟩⟩⟩⟩⟩⟩⟩⟩⟩) (by decide +kernel)
set_option maxRecDepth 100000 in
theorem bgL_law_desk_11 : GoodIn wsL_law wsL_desk_r11 := goodIn_sub (List.forall_mem_cons.mpr ⟨List.mem_of_getElem? (i := 243) rfl, List.forall_mem_cons.mpr ⟨List.mem_of_getElem? (i := 244) rfl, List.forall_mem_cons.mpr ⟨List.mem_of_getElem? (i := 245) rfl, List.forall_mem_cons.mpr ⟨List.mem_of_getElem? (i := 246) rfl, List.forall_mem_cons.mpr ⟨List.mem_of_getElem? (i := 247) rfl, List.forall_mem_cons.mpr ⟨List.mem_of_getElem? (i := 248) rfl, List.forall_mem_cons.mpr ⟨List.mem_of_getElem? (i := 249) rfl, List.forall_mem_cons.mpr ⟨List.mem_of_getElem? (i := 250) rfl, List.forall_mem_cons.mpr ⟨List.mem_of_getElem? (i := 251) rfl, List.forall_mem_cons.mpr ⟨List.mem_of_getElem? (i := 252) rfl, List.forall_mem_cons.mpr ⟨List.mem_of_getElem? (i := 253) rfl, List.forall_mem_cons.mpr ⟨List.mem_of_getElem? (i := 254) rfl, List.forall_mem_cons.mpr ⟨List.mem_of_getElem? (i := 255) rfl, List.forall_mem_cons.mpr ⟨List.mem_of_getElem? (i := 256) rfl, List.forall_mem_cons.mpr ⟨List.mem_of_getElem? (i := 257) rfl, List.forall_mem_cons.mpr ⟨List.mem_of_getElem? (i := 258) rfl, List.forall_mem_cons.mpr ⟨List.mem_of_getElem? (i := 259) rfl, List.forall_mem_cons.mpr ⟨List.mem_of_getElem? (i := 260) rfl, List.forall_mem_cons.mpr ⟨List.mem_of_getElem? (i := 261) rfl, List.forall_mem_cons.mpr ⟨List.mem_of_getElem? (i := 262) rfl, List.forall_mem_cons.mpr ⟨List.mem_of_getElem? (i := 263) rfl, List.forall_mem_cons.mpr ⟨List.mem_of_getElem? (i := 264) rfl, List.forall_mem_cons.mpr ⟨List.mem_of_getElem? (i := 265) rfl, List.forall_mem_cons.mpr ⟨List.mem_of_getElem? (i := 266) rfl, fun _ h => absurd h List.not_mem_nil⟩⟩⟩⟩⟩⟩⟩⟩⟩⟩⟩⟩⟩⟩⟩⟩⟩⟩⟩⟩⟩⟩⟩⟩) (by decide +kernel)
set_option maxRecDepth 100000 in
theorem bgL_law_desk_12 : GoodIn wsL_law wsL_desk_r12 := goodIn_sub (List.forall_mem_cons.mpr ⟨List.mem_of_getElem? (i := 267) rfl, List.forall_mem_cons.mpr ⟨List.mem_of_getElem? (i := 268) rfl, fun _ h => absurd h List.not_mem_nil⟩⟩) (by decide +kernel)
set_option maxRecDepth 100000 in
theorem bcL_law_desk : GoodIn wsL_law [.code yL_desk cL_desk 10 (some .boolean)] := goodIn_sub (List.forall_mem_cons.mpr ⟨List.mem_of_getElem? (i := 3) rfl, fun _ h => absurd h List.not_mem_nil⟩) (by decide +kernel)
set_option maxRecDepth 100000 in
theorem ggL_law_L_desk : GoodIn wsL_law wsL_desk := goodIn_ca (goodIn_ca (goodIn_ca (goodIn_ca (goodIn_ca (goodIn_co bcL_law_desk (goodIn_app bgL_law_desk_1 (goodIn_app bgL_law_desk_2 (goodIn_app bgL_law_desk_3 (goodIn_app bgL_law_desk_4 (goodIn_app bgL_law_desk_5 (goodIn_app bgL_law_desk_6 (goodIn_app bgL_law_desk_7 (goodIn_app bgL_law_desk_8 (goodIn_app bgL_law_desk_9 (goodIn_app bgL_law_desk_10 (goodIn_app bgL_law_desk_11 (bgL_law_desk_12))))))))))))) (goodIn_sub (fun _ h => List.mem_append_left _ (List.mem_append_left _ (List.mem_append_left _ (List.mem_append_left _ (List.mem_append_left _ (List.mem_append_right _ h)))))) (by decide +kernel))) (goodIn_sub (fun _ h => List.mem_append_left _ (List.mem_append_left _ (List.mem_append_left _ (List.mem_append_left _ (List.mem_append_right _ h))))) (by decide +kernel))) (goodIn_sub (fun _ h => List.mem_append_left _ (List.mem_append_left _ (List.mem_append_right _ h))) (by decide +kernel))) (goodIn_sub (fun _ h => List.mem_append_left _ (List.mem_append_right _ h)) (by decide +kernel))) (goodIn_sub (fun _ h => List.mem_append_right _ h) (by decide +kernel))
set_option maxRecDepth 20000 in
theorem gL_law_L_desk : GoodIn wsL_law (va_wsS RL 142 yL_desk wsL_desk) := goodIn_app (goodIn_of _ (by decide +kernel)) ggL_law_L_desk
theorem dL_law_0 : decode cL_law 0 = .ok (.aload_n 0, 1) := by decide +kernel
theorem dL_law_1 : decode cL_law 1 = .ok (.iconst 0, 1) := by decide +kernel
theorem dL_law_2 : decode cL_law 2 = .ok (.invokestatic 142, 3) := by decide +kernel
theorem dL_law_5 : decode cL_law 5 = .ok (.ifCond .eq 27, 3) := by decide +kernel
theorem dL_law_8 : decode cL_law 8 = .ok (.aload_n 0, 1) := by decide +kernel
theorem dL_law_9 : decode cL_law 9 = .ok (.sipush 185, 3) := by decide +kernel
theorem dL_law_12 : decode cL_law 12 = .ok (.invokestatic 142, 3) := by decide +kernel
theorem dL_law_15 : decode cL_law 15 = .ok (.ifCond .eq 17, 3) := by decide +kernel
theorem dL_law_18 : decode cL_law 18 = .ok (.aload_n 0, 1) := by decide +kernel
theorem dL_law_19 : decode cL_law 19 = .ok (.sipush 370, 3) := by decide +kernel
theorem dL_law_22 : decode cL_law 22 = .ok (.invokestatic 142, 3) := by decide +kernel
theorem dL_law_25 : decode cL_law 25 = .ok (.ifCond .eq 7, 3) := by decide +kernel
theorem dL_law_28 : decode cL_law 28 = .ok (.iconst 1, 1) := by decide +kernel
theorem dL_law_29 : decode cL_law 29 = .ok (.goto 4, 3) := by decide +kernel
theorem dL_law_32 : decode cL_law 32 = .ok (.iconst 0, 1) := by decide +kernel
theorem dL_law_33 : decode cL_law 33 = .ok (.ireturn, 1) := by decide +kernel
