theorem dL_isCleared_152 : decode cL_isCleared 152 = .ok (.invokestatic 103, 3) := by decide +kernel
theorem dL_isCleared_155 : decode cL_isCleared 155 = .ok (.iload 7, 2) := by decide +kernel
theorem dL_isCleared_157 : decode cL_isCleared 157 = .ok (.if_icmp .gt 31, 3) := by decide +kernel
theorem dL_isCleared_160 : decode cL_isCleared 160 = .ok (.iload 7, 2) := by decide +kernel
theorem dL_isCleared_162 : decode cL_isCleared 162 = .ok (.bipush 12, 2) := by decide +kernel
theorem dL_isCleared_164 : decode cL_isCleared 164 = .ok (.if_icmp .le 13, 3) := by decide +kernel
theorem dL_isCleared_167 : decode cL_isCleared 167 = .ok (.iload 8, 2) := by decide +kernel
theorem dL_isCleared_169 : decode cL_isCleared 169 = .ok (.ldc 83, 2) := by decide +kernel
theorem dL_isCleared_171 : decode cL_isCleared 171 = .ok (.if_icmp .ne 17, 3) := by decide +kernel
theorem dL_isCleared_174 : decode cL_isCleared 174 = .ok (.goto 10, 3) := by decide +kernel
theorem dL_isCleared_177 : decode cL_isCleared 177 = .ok (.iload 9, 2) := by decide +kernel
theorem dL_isCleared_179 : decode cL_isCleared 179 = .ok (.iload 8, 2) := by decide +kernel
theorem dL_isCleared_181 : decode cL_isCleared 181 = .ok (.if_icmp .gt 7, 3) := by decide +kernel
theorem dL_isCleared_184 : decode cL_isCleared 184 = .ok (.iconst 1, 1) := by decide +kernel
theorem dL_isCleared_185 : decode cL_isCleared 185 = .ok (.goto 4, 3) := by decide +kernel
theorem dL_isCleared_188 : decode cL_isCleared 188 = .ok (.iconst 0, 1) := by decide +kernel
theorem dL_isCleared_189 : decode cL_isCleared 189 = .ok (.istore 12, 2) := by decide +kernel
theorem dL_isCleared_191 : decode cL_isCleared 191 = .ok (.iconst 0, 1) := by decide +kernel
theorem dL_isCleared_192 : decode cL_isCleared 192 = .ok (.istore 13, 2) := by decide +kernel
theorem dL_isCleared_194 : decode cL_isCleared 194 = .ok (.iload 13, 2) := by decide +kernel
theorem dL_isCleared_196 : decode cL_isCleared 196 = .ok (.aload 4, 2) := by decide +kernel
theorem dL_isCleared_198 : decode cL_isCleared 198 = .ok (.iconst 0, 1) := by decide +kernel
theorem dL_isCleared_199 : decode cL_isCleared 199 = .ok (.iaload, 1) := by decide +kernel
theorem dL_isCleared_200 : decode cL_isCleared 200 = .ok (.if_icmp .ge 126, 3) := by decide +kernel
theorem dL_isCleared_203 : decode cL_isCleared 203 = .ok (.iload 12, 2) := by decide +kernel
theorem dL_isCleared_205 : decode cL_isCleared 205 = .ok (.ifCond .eq 121, 3) := by decide +kernel
theorem dL_isCleared_208 : decode cL_isCleared 208 = .ok (.iload 6, 2) := by decide +kernel
theorem dL_isCleared_210 : decode cL_isCleared 210 = .ok (.iload 13, 2) := by decide +kernel
theorem dL_isCleared_212 : decode cL_isCleared 212 = .ok (.ishr, 1) := by decide +kernel
theorem dL_isCleared_213 : decode cL_isCleared 213 = .ok (.iconst 1, 1) := by decide +kernel
theorem dL_isCleared_214 : decode cL_isCleared 214 = .ok (.iand, 1) := by decide +kernel
theorem dL_isCleared_215 : decode cL_isCleared 215 = .ok (.iconst 1, 1) := by decide +kernel
theorem dL_isCleared_216 : decode cL_isCleared 216 = .ok (.if_icmp .ne 104, 3) := by decide +kernel
theorem dL_isCleared_219 : decode cL_isCleared 219 = .ok (.aload_n 1, 1) := by decide +kernel
theorem dL_isCleared_220 : decode cL_isCleared 220 = .ok (.iconst 2, 1) := by decide +kernel
theorem dL_isCleared_221 : decode cL_isCleared 221 = .ok (.iload 13, 2) := by decide +kernel
theorem dL_isCleared_223 : decode cL_isCleared 223 = .ok (.imul, 1) := by decide +kernel
theorem dL_isCleared_224 : decode cL_isCleared 224 = .ok (.iaload, 1) := by decide +kernel
theorem dL_isCleared_225 : decode cL_isCleared 225 = .ok (.bipush 8, 2) := by decide +kernel
theorem dL_isCleared_227 : decode cL_isCleared 227 = .ok (.idiv, 1) := by decide +kernel
theorem dL_isCleared_228 : decode cL_isCleared 228 = .ok (.iload 5, 2) := by decide +kernel
theorem dL_isCleared_230 : decode cL_isCleared 230 = .ok (.if_icmp .ne 53, 3) := by decide +kernel
theorem dL_isCleared_233 : decode cL_isCleared 233 = .ok (.aload_n 2, 1) := by decide +kernel
theorem dL_isCleared_234 : decode cL_isCleared 234 = .ok (.iload 13, 2) := by decide +kernel
theorem dL_isCleared_236 : decode cL_isCleared 236 = .ok (.iaload, 1) := by decide +kernel
theorem dL_isCleared_237 : decode cL_isCleared 237 = .ok (.iconst 1, 1) := by decide +kernel
theorem dL_isCleared_238 : decode cL_isCleared 238 = .ok (.if_icmp .ne 45, 3) := by decide +kernel
theorem dL_isCleared_241 : decode cL_isCleared 241 = .ok (.aload_n 2, 1) := by decide +kernel
theorem dL_isCleared_242 : decode cL_isCleared 242 = .ok (.bipush 30, 2) := by decide +kernel
theorem dL_isCleared_244 : decode cL_isCleared 244 = .ok (.iload 13, 2) := by decide +kernel
theorem dL_isCleared_246 : decode cL_isCleared 246 = .ok (.iadd, 1) := by decide +kernel
theorem dL_isCleared_247 : decode cL_isCleared 247 = .ok (.iaload, 1) := by decide +kernel
theorem dL_isCleared_248 : decode cL_isCleared 248 = .ok (.ifCond .lt 35, 3) := by decide +kernel
theorem dL_isCleared_251 : decode cL_isCleared 251 = .ok (.aload_n 0, 1) := by decide +kernel
theorem dL_isCleared_252 : decode cL_isCleared 252 = .ok (.iload 13, 2) := by decide +kernel
theorem dL_isCleared_254 : decode cL_isCleared 254 = .ok (.invokevirtual 55, 3) := by decide +kernel
theorem dL_isCleared_257 : decode cL_isCleared 257 = .ok (.iconst 3, 1) := by decide +kernel
theorem dL_isCleared_258 : decode cL_isCleared 258 = .ok (.if_icmp .ne 25, 3) := by decide +kernel
theorem dL_isCleared_261 : decode cL_isCleared 261 = .ok (.aload_n 0, 1) := by decide +kernel
theorem dL_isCleared_262 : decode cL_isCleared 262 = .ok (.iload 5, 2) := by decide +kernel
theorem dL_isCleared_264 : decode cL_isCleared 264 = .ok (.aload_n 1, 1) := by decide +kernel
theorem dL_isCleared_265 : decode cL_isCleared 265 = .ok (.iconst 2, 1) := by decide +kernel
theorem dL_isCleared_266 : decode cL_isCleared 266 = .ok (.iload 13, 2) := by decide +kernel
theorem dL_isCleared_268 : decode cL_isCleared 268 = .ok (.imul, 1) := by decide +kernel
theorem dL_isCleared_269 : decode cL_isCleared 269 = .ok (.iaload, 1) := by decide +kernel
theorem dL_isCleared_270 : decode cL_isCleared 270 = .ok (.bipush 8, 2) := by decide +kernel
theorem dL_isCleared_272 : decode cL_isCleared 272 = .ok (.irem, 1) := by decide +kernel
theorem dL_isCleared_273 : decode cL_isCleared 273 = .ok (.invokevirtual 76, 3) := by decide +kernel
theorem dL_isCleared_276 : decode cL_isCleared 276 = .ok (.ifCond .lt 7, 3) := by decide +kernel
theorem dL_isCleared_279 : decode cL_isCleared 279 = .ok (.iconst 1, 1) := by decide +kernel
theorem dL_isCleared_280 : decode cL_isCleared 280 = .ok (.goto 4, 3) := by decide +kernel
theorem dL_isCleared_283 : decode cL_isCleared 283 = .ok (.iconst 0, 1) := by decide +kernel
theorem dL_isCleared_284 : decode cL_isCleared 284 = .ok (.istore 12, 2) := by decide +kernel
theorem dL_isCleared_286 : decode cL_isCleared 286 = .ok (.aload_n 2, 1) := by decide +kernel
theorem dL_isCleared_287 : decode cL_isCleared 287 = .ok (.iload 13, 2) := by decide +kernel
theorem dL_isCleared_289 : decode cL_isCleared 289 = .ok (.iconst 3, 1) := by decide +kernel
theorem dL_isCleared_290 : decode cL_isCleared 290 = .ok (.iastore, 1) := by decide +kernel
theorem dL_isCleared_291 : decode cL_isCleared 291 = .ok (.iload 10, 2) := by decide +kernel
theorem dL_isCleared_293 : decode cL_isCleared 293 = .ok (.aload_n 0, 1) := by decide +kernel
theorem dL_isCleared_294 : decode cL_isCleared 294 = .ok (.iload 13, 2) := by decide +kernel
theorem dL_isCleared_296 : decode cL_isCleared 296 = .ok (.invokevirtual 58, 3) := by decide +kernel
theorem dL_isCleared_299 : decode cL_isCleared 299 = .ok (.aload_n 0, 1) := by decide +kernel
theorem dL_isCleared_300 : decode cL_isCleared 300 = .ok (.iload 13, 2) := by decide +kernel
theorem dL_isCleared_302 : decode cL_isCleared 302 = .ok (.invokevirtual 61, 3) := by decide +kernel
theorem dL_isCleared_305 : decode cL_isCleared 305 = .ok (.isub, 1) := by decide +kernel
theorem dL_isCleared_306 : decode cL_isCleared 306 = .ok (.iadd, 1) := by decide +kernel
theorem dL_isCleared_307 : decode cL_isCleared 307 = .ok (.istore 10, 2) := by decide +kernel
theorem dL_isCleared_309 : decode cL_isCleared 309 = .ok (.iload 11, 2) := by decide +kernel
theorem dL_isCleared_311 : decode cL_isCleared 311 = .ok (.aload_n 0, 1) := by decide +kernel
theorem dL_isCleared_312 : decode cL_isCleared 312 = .ok (.iload 13, 2) := by decide +kernel
theorem dL_isCleared_314 : decode cL_isCleared 314 = .ok (.invokevirtual 61, 3) := by decide +kernel
theorem dL_isCleared_317 : decode cL_isCleared 317 = .ok (.iadd, 1) := by decide +kernel
theorem dL_isCleared_318 : decode cL_isCleared 318 = .ok (.istore 11, 2) := by decide +kernel
theorem dL_isCleared_320 : decode cL_isCleared 320 = .ok (.iinc 13 1, 3) := by decide +kernel
theorem dL_isCleared_323 : decode cL_isCleared 323 = .ok (.goto (-129), 3) := by decide +kernel
theorem dL_isCleared_326 : decode cL_isCleared 326 = .ok (.aload_n 3, 1) := by decide +kernel
theorem dL_isCleared_327 : decode cL_isCleared 327 = .ok (.iload 5, 2) := by decide +kernel
theorem dL_isCleared_329 : decode cL_isCleared 329 = .ok (.dup2, 1) := by decide +kernel
theorem dL_isCleared_330 : decode cL_isCleared 330 = .ok (.iaload, 1) := by decide +kernel
theorem dL_isCleared_331 : decode cL_isCleared 331 = .ok (.iload 11, 2) := by decide +kernel
theorem dL_isCleared_333 : decode cL_isCleared 333 = .ok (.isub, 1) := by decide +kernel
theorem dL_isCleared_334 : decode cL_isCleared 334 = .ok (.iastore, 1) := by decide +kernel
theorem dL_isCleared_335 : decode cL_isCleared 335 = .ok (.iload 12, 2) := by decide +kernel
theorem dL_isCleared_337 : decode cL_isCleared 337 = .ok (.ifCond .eq 41, 3) := by decide +kernel
theorem dL_isCleared_340 : decode cL_isCleared 340 = .ok (.iload 9, 2) := by decide +kernel
theorem dL_isCleared_342 : decode cL_isCleared 342 = .ok (.iload 10, 2) := by decide +kernel
theorem dL_isCleared_344 : decode cL_isCleared 344 = .ok (.if_icmp .ne 34, 3) := by decide +kernel
theorem dL_isCleared_347 : decode cL_isCleared 347 = .ok (.aload_n 3, 1) := by decide +kernel
theorem dL_isCleared_348 : decode cL_isCleared 348 = .ok (.iload 5, 2) := by decide +kernel
theorem dL_isCleared_350 : decode cL_isCleared 350 = .ok (.iaload, 1) := by decide +kernel
theorem dL_isCleared_351 : decode cL_isCleared 351 = .ok (.ifCond .lt 27, 3) := by decide +kernel
theorem dL_isCleared_354 : decode cL_isCleared 354 = .ok (.aload_n 0, 1) := by decide +kernel
theorem dL_isCleared_355 : decode cL_isCleared 355 = .ok (.iconst 0, 1) := by decide +kernel
theorem dL_isCleared_356 : decode cL_isCleared 356 = .ok (.iload 5, 2) := by decide +kernel
theorem dL_isCleared_358 : decode cL_isCleared 358 = .ok (.aload_n 3, 1) := by decide +kernel
theorem dL_isCleared_359 : decode cL_isCleared 359 = .ok (.iload 5, 2) := by decide +kernel
theorem dL_isCleared_361 : decode cL_isCleared 361 = .ok (.iaload, 1) := by decide +kernel
theorem dL_isCleared_362 : decode cL_isCleared 362 = .ok (.iconst 0, 1) := by decide +kernel
theorem dL_isCleared_363 : decode cL_isCleared 363 = .ok (.iconst 0, 1) := by decide +kernel
theorem dL_isCleared_364 : decode cL_isCleared 364 = .ok (.invokestatic 106, 3) := by decide +kernel
theorem dL_isCleared_367 : decode cL_isCleared 367 = .ok (.aload_n 3, 1) := by decide +kernel
theorem dL_isCleared_368 : decode cL_isCleared 368 = .ok (.iload 5, 2) := by decide +kernel
theorem dL_isCleared_370 : decode cL_isCleared 370 = .ok (.iaload, 1) := by decide +kernel
theorem dL_isCleared_371 : decode cL_isCleared 371 = .ok (.if_icmp .ne 7, 3) := by decide +kernel
theorem dL_isCleared_374 : decode cL_isCleared 374 = .ok (.iconst 1, 1) := by decide +kernel
theorem dL_isCleared_375 : decode cL_isCleared 375 = .ok (.goto 4, 3) := by decide +kernel
theorem dL_isCleared_378 : decode cL_isCleared 378 = .ok (.iconst 0, 1) := by decide +kernel
theorem dL_isCleared_379 : decode cL_isCleared 379 = .ok (.ireturn, 1) := by decide +kernel
set_option maxRecDepth 20000 in
theorem ggL_isBill_L_does : GoodIn wsL_isBill wsL_does := goodIn_ca (goodIn_ca (goodIn_ca (goodIn_r _ [6, 7, 8, 9, 10, 11, 12, 13, 14, 15, 16, 17, 18, 19, 20, 21, 22, 23, 24, 25, 26, 27, 28, 29, 30, 31, 32, 33, 34, 35, 36, 37, 38, 39, 40, 41, 42, 43, 44, 45, 46, 47, 48, 49, 50, 51, 52, 53, 54, 55, 56, 57, 58, 59, 60, 61, 62, 63, 64, 65, 66, 67, 68, 69, 70, 71, 72, 73, 74, 75, 76, 77, 78, 79, 80, 81, 82, 83, 84, 85, 86, 87, 88, 89, 90, 91, 92, 93, 94, 95, 96, 97, 98, 99, 100, 101, 102, 103, 104, 105, 106, 107, 108, 109, 110, 111, 112, 113, 114, 115, 116, 117, 118, 119, 120, 121, 122, 123, 124, 125, 126, 127, 128, 129, 130, 131, 132, 133, 134, 135, 136, 137, 138, 139, 140, 141, 142, 143, 144, 145, 146, 147, 148, 149, 150, 151, 152, 153, 154, 155, 156, 157, 158, 159, 160, 161, 162, 163, 164, 165, 166, 167, 168, 169, 170, 171, 172, 5, 173, 174, 175, 176, 177, 178, 179, 180, 181, 182, 183, 184, 185, 186, 187, 188, 189, 190, 191, 192, 193, 194, 195, 196, 197, 198, 199, 200, 201, 202, 203, 204, 205, 206, 207, 208, 209, 210, 211, 212, 213, 214, 215, 216, 221, 222, 223, 224, 225, 226, 227, 228, 229, 230, 231, 232, 233, 234, 235, 236, 237, 238, 239, 240] (by decide +kernel) (by decide +kernel)) (goodIn_sub (fun _ h => List.mem_cons_of_mem _ (List.mem_append_left _ (List.mem_append_left _ (List.mem_append_right _ h)))) (by decide +kernel))) (goodIn_sub (fun _ h => List.mem_cons_of_mem _ (List.mem_append_left _ (List.mem_append_right _ h))) (by decide +kernel))) (goodIn_sub (fun _ h => List.mem_cons_of_mem _ (List.mem_append_right _ h)) (by decide +kernel))
set_option maxRecDepth 20000 in
theorem gL_isBill_L_does : GoodIn wsL_isBill (va_wsS RL 106 yL_does wsL_does) := goodIn_app (goodIn_of _ (by decide +kernel)) ggL_isBill_L_does
set_option maxRecDepth 20000 in
theorem ggL_isBill_X1_amount : GoodIn wsL_isBill wsX1_amount := goodIn_ca (goodIn_r _ [220, 160, 135, 136, 137, 13, 138, 20, 21, 43, 139, 48, 49, 50, 51, 52, 53, 140, 141, 142, 143, 144, 145, 146, 147, 148, 149, 150, 151, 152, 153, 154, 155, 81, 228, 229, 230, 231, 232, 233, 234, 235, 236, 237, 221, 222, 223, 224, 225, 226, 227, 238, 239, 240] (by decide +kernel) (by decide +kernel)) (goodIn_sub (fun _ h => List.mem_cons_of_mem _ (List.mem_append_left _ (List.mem_append_left _ (List.mem_append_right _ h)))) (by decide +kernel))
set_option maxRecDepth 20000 in
theorem gL_isBill_X1_amount : GoodIn wsL_isBill (wsV RL 58 RX1 yX1_amount wsX1_amount) := goodIn_app (goodIn_of _ (by decide +kernel)) ggL_isBill_X1_amount
theorem dL_isBill_0 : decode cL_isBill 0 = .ok (.iload 5, 2) := by decide +kernel
theorem dL_isBill_2 : decode cL_isBill 2 = .ok (.iconst 5, 1) := by decide +kernel
theorem dL_isBill_3 : decode cL_isBill 3 = .ok (.irem, 1) := by decide +kernel
theorem dL_isBill_4 : decode cL_isBill 4 = .ok (.istore 8, 2) := by decide +kernel
theorem dL_isBill_6 : decode cL_isBill 6 = .ok (.iload 5, 2) := by decide +kernel
theorem dL_isBill_8 : decode cL_isBill 8 = .ok (.iconst 5, 1) := by decide +kernel
theorem dL_isBill_9 : decode cL_isBill 9 = .ok (.idiv, 1) := by decide +kernel
theorem dL_isBill_10 : decode cL_isBill 10 = .ok (.bipush 9, 2) := by decide +kernel
theorem dL_isBill_12 : decode cL_isBill 12 = .ok (.irem, 1) := by decide +kernel
theorem dL_isBill_13 : decode cL_isBill 13 = .ok (.istore 9, 2) := by decide +kernel
theorem dL_isBill_15 : decode cL_isBill 15 = .ok (.iload 6, 2) := by decide +kernel
theorem dL_isBill_17 : decode cL_isBill 17 = .ok (.bipush 40, 2) := by decide +kernel
theorem dL_isBill_19 : decode cL_isBill 19 = .ok (.irem, 1) := by decide +kernel
theorem dL_isBill_20 : decode cL_isBill 20 = .ok (.ifCond .ne 8, 3) := by decide +kernel
theorem dL_isBill_23 : decode cL_isBill 23 = .ok (.ldc 110, 2) := by decide +kernel
theorem dL_isBill_25 : decode cL_isBill 25 = .ok (.goto 10, 3) := by decide +kernel
theorem dL_isBill_28 : decode cL_isBill 28 = .ok (.iconst 1, 1) := by decide +kernel
theorem dL_isBill_29 : decode cL_isBill 29 = .ok (.iload 6, 2) := by decide +kernel
theorem dL_isBill_31 : decode cL_isBill 31 = .ok (.bipush 30, 2) := by decide +kernel
theorem dL_isBill_33 : decode cL_isBill 33 = .ok (.imul, 1) := by decide +kernel
theorem dL_isBill_34 : decode cL_isBill 34 = .ok (.iadd, 1) := by decide +kernel
theorem dL_isBill_35 : decode cL_isBill 35 = .ok (.istore 10, 2) := by decide +kernel
theorem dL_isBill_37 : decode cL_isBill 37 = .ok (.iload 7, 2) := by decide +kernel
theorem dL_isBill_39 : decode cL_isBill 39 = .ok (.bipush 20, 2) := by decide +kernel
theorem dL_isBill_41 : decode cL_isBill 41 = .ok (.irem, 1) := by decide +kernel
theorem dL_isBill_42 : decode cL_isBill 42 = .ok (.ifCond .ne 9, 3) := by decide +kernel
theorem dL_isBill_45 : decode cL_isBill 45 = .ok (.sipush 361, 3) := by decide +kernel
theorem dL_isBill_48 : decode cL_isBill 48 = .ok (.goto 10, 3) := by decide +kernel
theorem dL_isBill_51 : decode cL_isBill 51 = .ok (.iconst 1, 1) := by decide +kernel
theorem dL_isBill_52 : decode cL_isBill 52 = .ok (.iload 7, 2) := by decide +kernel
theorem dL_isBill_54 : decode cL_isBill 54 = .ok (.bipush 120, 2) := by decide +kernel
theorem dL_isBill_56 : decode cL_isBill 56 = .ok (.irem, 1) := by decide +kernel
theorem dL_isBill_57 : decode cL_isBill 57 = .ok (.iadd, 1) := by decide +kernel
theorem dL_isBill_58 : decode cL_isBill 58 = .ok (.istore 11, 2) := by decide +kernel
theorem dL_isBill_60 : decode cL_isBill 60 = .ok (.iload 8, 2) := by decide +kernel
theorem dL_isBill_62 : decode cL_isBill 62 = .ok (.iconst 4, 1) := by decide +kernel
theorem dL_isBill_63 : decode cL_isBill 63 = .ok (.if_icmp .ge 14, 3) := by decide +kernel
theorem dL_isBill_66 : decode cL_isBill 66 = .ok (.iload 9, 2) := by decide +kernel
theorem dL_isBill_68 : decode cL_isBill 68 = .ok (.bipush 8, 2) := by decide +kernel
theorem dL_isBill_70 : decode cL_isBill 70 = .ok (.if_icmp .ge 7, 3) := by decide +kernel
theorem dL_isBill_73 : decode cL_isBill 73 = .ok (.iconst 1, 1) := by decide +kernel
theorem dL_isBill_74 : decode cL_isBill 74 = .ok (.goto 4, 3) := by decide +kernel
theorem dL_isBill_77 : decode cL_isBill 77 = .ok (.iconst 0, 1) := by decide +kernel
theorem dL_isBill_78 : decode cL_isBill 78 = .ok (.istore 12, 2) := by decide +kernel
theorem dL_isBill_80 : decode cL_isBill 80 = .ok (.iload 10, 2) := by decide +kernel
theorem dL_isBill_82 : decode cL_isBill 82 = .ok (.ldc 98, 2) := by decide +kernel
theorem dL_isBill_84 : decode cL_isBill 84 = .ok (.if_icmp .gt 15, 3) := by decide +kernel
theorem dL_isBill_87 : decode cL_isBill 87 = .ok (.iload 11, 2) := by decide +kernel
theorem dL_isBill_89 : decode cL_isBill 89 = .ok (.sipush 360, 3) := by decide +kernel
theorem dL_isBill_92 : decode cL_isBill 92 = .ok (.if_icmp .gt 7, 3) := by decide +kernel
theorem dL_isBill_95 : decode cL_isBill 95 = .ok (.iconst 1, 1) := by decide +kernel
theorem dL_isBill_96 : decode cL_isBill 96 = .ok (.goto 4, 3) := by decide +kernel
theorem dL_isBill_99 : decode cL_isBill 99 = .ok (.iconst 0, 1) := by decide +kernel
theorem dL_isBill_100 : decode cL_isBill 100 = .ok (.istore 13, 2) := by decide +kernel
theorem dL_isBill_102 : decode cL_isBill 102 = .ok (.iload 12, 2) := by decide +kernel
theorem dL_isBill_104 : decode cL_isBill 104 = .ok (.ifCond .ne 8, 3) := by decide +kernel
theorem dL_isBill_107 : decode cL_isBill 107 = .ok (.bipush (-30), 2) := by decide +kernel
theorem dL_isBill_109 : decode cL_isBill 109 = .ok (.goto 31, 3) := by decide +kernel
theorem dL_isBill_112 : decode cL_isBill 112 = .ok (.iload 13, 2) := by decide +kernel
theorem dL_isBill_114 : decode cL_isBill 114 = .ok (.ifCond .ne 8, 3) := by decide +kernel
theorem dL_isBill_117 : decode cL_isBill 117 = .ok (.bipush (-20), 2) := by decide +kernel
theorem dL_isBill_119 : decode cL_isBill 119 = .ok (.goto 21, 3) := by decide +kernel
theorem dL_isBill_122 : decode cL_isBill 122 = .ok (.aload 4, 2) := by decide +kernel
theorem dL_isBill_124 : decode cL_isBill 124 = .ok (.iconst 0, 1) := by decide +kernel
theorem dL_isBill_125 : decode cL_isBill 125 = .ok (.iaload, 1) := by decide +kernel
theorem dL_isBill_126 : decode cL_isBill 126 = .ok (.bipush 30, 2) := by decide +kernel
theorem dL_isBill_128 : decode cL_isBill 128 = .ok (.if_icmp .ne 8, 3) := by decide +kernel
theorem dL_isBill_131 : decode cL_isBill 131 = .ok (.bipush (-10), 2) := by decide +kernel
theorem dL_isBill_133 : decode cL_isBill 133 = .ok (.goto 7, 3) := by decide +kernel
theorem dL_isBill_136 : decode cL_isBill 136 = .ok (.aload 4, 2) := by decide +kernel
theorem dL_isBill_138 : decode cL_isBill 138 = .ok (.iconst 0, 1) := by decide +kernel
theorem dL_isBill_139 : decode cL_isBill 139 = .ok (.iaload, 1) := by decide +kernel
theorem dL_isBill_140 : decode cL_isBill 140 = .ok (.istore 14, 2) := by decide +kernel
theorem dL_isBill_142 : decode cL_isBill 142 = .ok (.iload 14, 2) := by decide +kernel
theorem dL_isBill_144 : decode cL_isBill 144 = .ok (.ifCond .lt 58, 3) := by decide +kernel
theorem dL_isBill_147 : decode cL_isBill 147 = .ok (.aload_n 1, 1) := by decide +kernel
theorem dL_isBill_148 : decode cL_isBill 148 = .ok (.iconst 2, 1) := by decide +kernel
theorem dL_isBill_149 : decode cL_isBill 149 = .ok (.iload 14, 2) := by decide +kernel
theorem dL_isBill_151 : decode cL_isBill 151 = .ok (.imul, 1) := by decide +kernel
theorem dL_isBill_152 : decode cL_isBill 152 = .ok (.bipush 8, 2) := by decide +kernel
theorem dL_isBill_154 : decode cL_isBill 154 = .ok (.iload 8, 2) := by decide +kernel
theorem dL_isBill_156 : decode cL_isBill 156 = .ok (.imul, 1) := by decide +kernel
theorem dL_isBill_157 : decode cL_isBill 157 = .ok (.iload 9, 2) := by decide +kernel
theorem dL_isBill_159 : decode cL_isBill 159 = .ok (.iadd, 1) := by decide +kernel
theorem dL_isBill_160 : decode cL_isBill 160 = .ok (.iastore, 1) := by decide +kernel
theorem dL_isBill_161 : decode cL_isBill 161 = .ok (.aload_n 1, 1) := by decide +kernel
theorem dL_isBill_162 : decode cL_isBill 162 = .ok (.iconst 2, 1) := by decide +kernel
theorem dL_isBill_163 : decode cL_isBill 163 = .ok (.iload 14, 2) := by decide +kernel
theorem dL_isBill_165 : decode cL_isBill 165 = .ok (.imul, 1) := by decide +kernel
theorem dL_isBill_166 : decode cL_isBill 166 = .ok (.iconst 1, 1) := by decide +kernel
theorem dL_isBill_167 : decode cL_isBill 167 = .ok (.iadd, 1) := by decide +kernel
theorem dL_isBill_168 : decode cL_isBill 168 = .ok (.aload 4, 2) := by decide +kernel
theorem dL_isBill_170 : decode cL_isBill 170 = .ok (.iconst 1, 1) := by decide +kernel
theorem dL_isBill_171 : decode cL_isBill 171 = .ok (.iaload, 1) := by decide +kernel
theorem dL_isBill_172 : decode cL_isBill 172 = .ok (.iload 11, 2) := by decide +kernel
theorem dL_isBill_174 : decode cL_isBill 174 = .ok (.iadd, 1) := by decide +kernel
theorem dL_isBill_175 : decode cL_isBill 175 = .ok (.iastore, 1) := by decide +kernel
theorem dL_isBill_176 : decode cL_isBill 176 = .ok (.aload_n 2, 1) := by decide +kernel
theorem dL_isBill_177 : decode cL_isBill 177 = .ok (.iload 14, 2) := by decide +kernel
theorem dL_isBill_179 : decode cL_isBill 179 = .ok (.iconst 0, 1) := by decide +kernel
theorem dL_isBill_180 : decode cL_isBill 180 = .ok (.iastore, 1) := by decide +kernel
theorem dL_isBill_181 : decode cL_isBill 181 = .ok (.aload_n 2, 1) := by decide +kernel
theorem dL_isBill_182 : decode cL_isBill 182 = .ok (.bipush 30, 2) := by decide +kernel
theorem dL_isBill_184 : decode cL_isBill 184 = .ok (.iload 14, 2) := by decide +kernel
theorem dL_isBill_186 : decode cL_isBill 186 = .ok (.iadd, 1) := by decide +kernel
theorem dL_isBill_187 : decode cL_isBill 187 = .ok (.iconst (-1), 1) := by decide +kernel
theorem dL_isBill_188 : decode cL_isBill 188 = .ok (.iastore, 1) := by decide +kernel
theorem dL_isBill_189 : decode cL_isBill 189 = .ok (.aload_n 3, 1) := by decide +kernel
theorem dL_isBill_190 : decode cL_isBill 190 = .ok (.iload 14, 2) := by decide +kernel
theorem dL_isBill_192 : decode cL_isBill 192 = .ok (.iconst 0, 1) := by decide +kernel
theorem dL_isBill_193 : decode cL_isBill 193 = .ok (.iastore, 1) := by decide +kernel
theorem dL_isBill_194 : decode cL_isBill 194 = .ok (.aload 4, 2) := by decide +kernel
theorem dL_isBill_196 : decode cL_isBill 196 = .ok (.iconst 0, 1) := by decide +kernel
theorem dL_isBill_197 : decode cL_isBill 197 = .ok (.dup2, 1) := by decide +kernel
theorem dL_isBill_198 : decode cL_isBill 198 = .ok (.iaload, 1) := by decide +kernel
theorem dL_isBill_199 : decode cL_isBill 199 = .ok (.iconst 1, 1) := by decide +kernel
theorem dL_isBill_200 : decode cL_isBill 200 = .ok (.iadd, 1) := by decide +kernel
theorem dL_isBill_201 : decode cL_isBill 201 = .ok (.iastore, 1) := by decide +kernel
theorem dL_isBill_202 : decode cL_isBill 202 = .ok (.aload_n 0, 1) := by decide +kernel
theorem dL_isBill_203 : decode cL_isBill 203 = .ok (.iconst 2, 1) := by decide +kernel
theorem dL_isBill_204 : decode cL_isBill 204 = .ok (.iload 8, 2) := by decide +kernel
theorem dL_isBill_206 : decode cL_isBill 206 = .ok (.iload 9, 2) := by decide +kernel
theorem dL_isBill_208 : decode cL_isBill 208 = .ok (.iload 10, 2) := by decide +kernel
theorem dL_isBill_210 : decode cL_isBill 210 = .ok (.iload 11, 2) := by decide +kernel
theorem dL_isBill_212 : decode cL_isBill 212 = .ok (.invokestatic 106, 3) := by decide +kernel
theorem dL_isBill_215 : decode cL_isBill 215 = .ok (.iload 14, 2) := by decide +kernel
theorem dL_isBill_217 : decode cL_isBill 217 = .ok (.if_icmp .ne 23, 3) := by decide +kernel
theorem dL_isBill_220 : decode cL_isBill 220 = .ok (.iload 14, 2) := by decide +kernel
theorem dL_isBill_222 : decode cL_isBill 222 = .ok (.ifCond .lt 14, 3) := by decide +kernel
theorem dL_isBill_225 : decode cL_isBill 225 = .ok (.aload_n 0, 1) := by decide +kernel
theorem dL_isBill_226 : decode cL_isBill 226 = .ok (.iload 14, 2) := by decide +kernel
theorem dL_isBill_228 : decode cL_isBill 228 = .ok (.invokevirtual 58, 3) := by decide +kernel
theorem dL_isBill_231 : decode cL_isBill 231 = .ok (.iload 10, 2) := by decide +kernel
theorem dL_isBill_233 : decode cL_isBill 233 = .ok (.if_icmp .ne 7, 3) := by decide +kernel
theorem dL_isBill_236 : decode cL_isBill 236 = .ok (.iconst 1, 1) := by decide +kernel
theorem dL_isBill_237 : decode cL_isBill 237 = .ok (.goto 4, 3) := by decide +kernel
theorem dL_isBill_240 : decode cL_isBill 240 = .ok (.iconst 0, 1) := by decide +kernel
theorem dL_isBill_241 : decode cL_isBill 241 = .ok (.ireturn, 1) := by decide +kernel
set_option maxRecDepth 20000 in
theorem ggL_isApproved_L_does : GoodIn wsL_isApproved wsL_does := goodIn_ca (goodIn_ca (goodIn_ca (goodIn_r _ [4, 5, 6, 7, 8, 9, 10, 11, 12, 13, 14, 15, 16, 17, 18, 19, 20, 21, 22, 23, 24, 25, 26, 27, 28, 29, 30, 31, 32, 33, 34, 35, 36, 37, 38, 39, 40, 41, 42, 43, 44, 45, 46, 47, 48, 49, 50, 51, 52, 53, 54, 55, 56, 57, 58, 59, 60, 61, 62, 63, 64, 65, 66, 67, 68, 69, 70, 71, 72, 73, 74, 75, 76, 77, 78, 79, 80, 81, 82, 83, 84, 85, 86, 87, 88, 89, 90, 91, 92, 93, 94, 95, 96, 97, 98, 99, 100, 101, 102, 103, 104, 105, 106, 107, 108, 109, 110, 111, 112, 113, 114, 115, 116, 117, 118, 119, 120, 121, 122, 123, 124, 125, 126, 127, 128, 129, 130, 131, 132, 133, 134, 135, 136, 137, 138, 139, 140, 141, 142, 143, 144, 145, 146, 147, 148, 149, 150, 151, 152, 153, 154, 155, 156, 157, 158, 159, 160, 161, 162, 163, 164, 165, 166, 167, 168, 169, 170, 3, 171, 172, 173, 174, 175, 176, 177, 178, 179, 180, 181, 182, 183, 184, 185, 186, 187, 188, 189, 190, 191, 192, 193, 194, 195, 196, 197, 198, 199, 200, 201, 202, 203, 204, 205, 206, 207, 208, 209, 210, 211, 212, 213, 214, 215, 216, 217, 218, 219, 220, 221, 222, 223, 224, 225, 226, 227, 228, 229, 230, 231, 232, 233, 234] (by decide +kernel) (by decide +kernel)) (goodIn_sub (fun _ h => List.mem_cons_of_mem _ (List.mem_append_left _ (List.mem_append_left _ (List.mem_append_right _ h)))) (by decide +kernel))) (goodIn_sub (fun _ h => List.mem_cons_of_mem _ (List.mem_append_left _ (List.mem_append_right _ h))) (by decide +kernel))) (goodIn_sub (fun _ h => List.mem_cons_of_mem _ (List.mem_append_right _ h)) (by decide +kernel))
set_option maxRecDepth 20000 in
theorem gL_isApproved_L_does : GoodIn wsL_isApproved (va_wsS RL 106 yL_does wsL_does) := goodIn_app (goodIn_of _ (by decide +kernel)) ggL_isApproved_L_does
theorem dL_isApproved_0 : decode cL_isApproved 0 = .ok (.iload 4, 2) := by decide +kernel
theorem dL_isApproved_2 : decode cL_isApproved 2 = .ok (.aload_n 3, 1) := by decide +kernel
theorem dL_isApproved_3 : decode cL_isApproved 3 = .ok (.iconst 0, 1) := by decide +kernel
theorem dL_isApproved_4 : decode cL_isApproved 4 = .ok (.iaload, 1) := by decide +kernel
theorem dL_isApproved_5 : decode cL_isApproved 5 = .ok (.if_icmp .ne 39, 3) := by decide +kernel
theorem dL_isApproved_8 : decode cL_isApproved 8 = .ok (.aload_n 0, 1) := by decide +kernel
theorem dL_isApproved_9 : decode cL_isApproved 9 = .ok (.iconst 3, 1) := by decide +kernel
theorem dL_isApproved_10 : decode cL_isApproved 10 = .ok (.iload 4, 2) := by decide +kernel
theorem dL_isApproved_12 : decode cL_isApproved 12 = .ok (.iconst 0, 1) := by decide +kernel
theorem dL_isApproved_13 : decode cL_isApproved 13 = .ok (.iconst 0, 1) := by decide +kernel
theorem dL_isApproved_14 : decode cL_isApproved 14 = .ok (.iconst 0, 1) := by decide +kernel
theorem dL_isApproved_15 : decode cL_isApproved 15 = .ok (.invokestatic 106, 3) := by decide +kernel
theorem dL_isApproved_18 : decode cL_isApproved 18 = .ok (.bipush (-30), 2) := by decide +kernel
theorem dL_isApproved_20 : decode cL_isApproved 20 = .ok (.if_icmp .ne 22, 3) := by decide +kernel
theorem dL_isApproved_23 : decode cL_isApproved 23 = .ok (.aload_n 0, 1) := by decide +kernel
theorem dL_isApproved_24 : decode cL_isApproved 24 = .ok (.iconst 4, 1) := by decide +kernel
theorem dL_isApproved_25 : decode cL_isApproved 25 = .ok (.iload 4, 2) := by decide +kernel
theorem dL_isApproved_27 : decode cL_isApproved 27 = .ok (.iconst 0, 1) := by decide +kernel
theorem dL_isApproved_28 : decode cL_isApproved 28 = .ok (.iconst 0, 1) := by decide +kernel
theorem dL_isApproved_29 : decode cL_isApproved 29 = .ok (.iconst 0, 1) := by decide +kernel
theorem dL_isApproved_30 : decode cL_isApproved 30 = .ok (.invokestatic 106, 3) := by decide +kernel
theorem dL_isApproved_33 : decode cL_isApproved 33 = .ok (.bipush (-30), 2) := by decide +kernel
theorem dL_isApproved_35 : decode cL_isApproved 35 = .ok (.if_icmp .ne 7, 3) := by decide +kernel
theorem dL_isApproved_38 : decode cL_isApproved 38 = .ok (.iconst 1, 1) := by decide +kernel
theorem dL_isApproved_39 : decode cL_isApproved 39 = .ok (.goto 4, 3) := by decide +kernel
theorem dL_isApproved_42 : decode cL_isApproved 42 = .ok (.iconst 0, 1) := by decide +kernel
theorem dL_isApproved_43 : decode cL_isApproved 43 = .ok (.ireturn, 1) := by decide +kernel
theorem dL_isApproved_44 : decode cL_isApproved 44 = .ok (.iload 5, 2) := by decide +kernel
theorem dL_isApproved_46 : decode cL_isApproved 46 = .ok (.ifCond .eq 88, 3) := by decide +kernel
theorem dL_isApproved_49 : decode cL_isApproved 49 = .ok (.aload_n 2, 1) := by decide +kernel
theorem dL_isApproved_50 : decode cL_isApproved 50 = .ok (.iload 4, 2) := by decide +kernel
theorem dL_isApproved_52 : decode cL_isApproved 52 = .ok (.iaload, 1) := by decide +kernel
theorem dL_isApproved_53 : decode cL_isApproved 53 = .ok (.iconst 2, 1) := by decide +kernel
theorem dL_isApproved_54 : decode cL_isApproved 54 = .ok (.if_icmp .ge 7, 3) := by decide +kernel
theorem dL_isApproved_57 : decode cL_isApproved 57 = .ok (.iconst 1, 1) := by decide +kernel
theorem dL_isApproved_58 : decode cL_isApproved 58 = .ok (.goto 4, 3) := by decide +kernel
theorem dL_isApproved_61 : decode cL_isApproved 61 = .ok (.iconst 0, 1) := by decide +kernel
theorem dL_isApproved_62 : decode cL_isApproved 62 = .ok (.istore 6, 2) := by decide +kernel
theorem dL_isApproved_64 : decode cL_isApproved 64 = .ok (.aload_n 2, 1) := by decide +kernel
theorem dL_isApproved_65 : decode cL_isApproved 65 = .ok (.iload 4, 2) := by decide +kernel
theorem dL_isApproved_67 : decode cL_isApproved 67 = .ok (.iload 6, 2) := by decide +kernel
theorem dL_isApproved_69 : decode cL_isApproved 69 = .ok (.ifCond .eq 7, 3) := by decide +kernel
theorem dL_isApproved_72 : decode cL_isApproved 72 = .ok (.iconst 2, 1) := by decide +kernel
theorem dL_isApproved_73 : decode cL_isApproved 73 = .ok (.goto 7, 3) := by decide +kernel
theorem dL_isApproved_76 : decode cL_isApproved 76 = .ok (.aload_n 2, 1) := by decide +kernel
theorem dL_isApproved_77 : decode cL_isApproved 77 = .ok (.iload 4, 2) := by decide +kernel
theorem dL_isApproved_79 : decode cL_isApproved 79 = .ok (.iaload, 1) := by decide +kernel
theorem dL_isApproved_80 : decode cL_isApproved 80 = .ok (.iastore, 1) := by decide +kernel
theorem dL_isApproved_81 : decode cL_isApproved 81 = .ok (.aload_n 2, 1) := by decide +kernel
theorem dL_isApproved_82 : decode cL_isApproved 82 = .ok (.bipush 30, 2) := by decide +kernel
theorem dL_isApproved_84 : decode cL_isApproved 84 = .ok (.iload 4, 2) := by decide +kernel
theorem dL_isApproved_86 : decode cL_isApproved 86 = .ok (.iadd, 1) := by decide +kernel
theorem dL_isApproved_87 : decode cL_isApproved 87 = .ok (.iload 6, 2) := by decide +kernel
theorem dL_isApproved_89 : decode cL_isApproved 89 = .ok (.ifCond .eq 7, 3) := by decide +kernel
theorem dL_isApproved_92 : decode cL_isApproved 92 = .ok (.iconst (-1), 1) := by decide +kernel
theorem dL_isApproved_93 : decode cL_isApproved 93 = .ok (.goto 10, 3) := by decide +kernel
theorem dL_isApproved_96 : decode cL_isApproved 96 = .ok (.aload_n 2, 1) := by decide +kernel
theorem dL_isApproved_97 : decode cL_isApproved 97 = .ok (.bipush 30, 2) := by decide +kernel
theorem dL_isApproved_99 : decode cL_isApproved 99 = .ok (.iload 4, 2) := by decide +kernel
theorem dL_isApproved_101 : decode cL_isApproved 101 = .ok (.iadd, 1) := by decide +kernel
theorem dL_isApproved_102 : decode cL_isApproved 102 = .ok (.iaload, 1) := by decide +kernel
theorem dL_isApproved_103 : decode cL_isApproved 103 = .ok (.iastore, 1) := by decide +kernel
theorem dL_isApproved_104 : decode cL_isApproved 104 = .ok (.aload_n 0, 1) := by decide +kernel
theorem dL_isApproved_105 : decode cL_isApproved 105 = .ok (.iconst 4, 1) := by decide +kernel
theorem dL_isApproved_106 : decode cL_isApproved 106 = .ok (.iload 4, 2) := by decide +kernel
theorem dL_isApproved_108 : decode cL_isApproved 108 = .ok (.iconst 0, 1) := by decide +kernel
theorem dL_isApproved_109 : decode cL_isApproved 109 = .ok (.iconst 0, 1) := by decide +kernel
theorem dL_isApproved_110 : decode cL_isApproved 110 = .ok (.iconst 0, 1) := by decide +kernel
theorem dL_isApproved_111 : decode cL_isApproved 111 = .ok (.invokestatic 106, 3) := by decide +kernel
theorem dL_isApproved_114 : decode cL_isApproved 114 = .ok (.iload 6, 2) := by decide +kernel
theorem dL_isApproved_116 : decode cL_isApproved 116 = .ok (.ifCond .eq 7, 3) := by decide +kernel
theorem dL_isApproved_119 : decode cL_isApproved 119 = .ok (.iconst 0, 1) := by decide +kernel
theorem dL_isApproved_120 : decode cL_isApproved 120 = .ok (.goto 5, 3) := by decide +kernel
theorem dL_isApproved_123 : decode cL_isApproved 123 = .ok (.bipush (-10), 2) := by decide +kernel
theorem dL_isApproved_125 : decode cL_isApproved 125 = .ok (.if_icmp .ne 7, 3) := by decide +kernel
theorem dL_isApproved_128 : decode cL_isApproved 128 = .ok (.iconst 1, 1) := by decide +kernel
theorem dL_isApproved_129 : decode cL_isApproved 129 = .ok (.goto 4, 3) := by decide +kernel
theorem dL_isApproved_132 : decode cL_isApproved 132 = .ok (.iconst 0, 1) := by decide +kernel
theorem dL_isApproved_133 : decode cL_isApproved 133 = .ok (.ireturn, 1) := by decide +kernel
theorem dL_isApproved_134 : decode cL_isApproved 134 = .ok (.aload_n 2, 1) := by decide +kernel
theorem dL_isApproved_135 : decode cL_isApproved 135 = .ok (.iload 4, 2) := by decide +kernel
theorem dL_isApproved_137 : decode cL_isApproved 137 = .ok (.iaload, 1) := by decide +kernel
theorem dL_isApproved_138 : decode cL_isApproved 138 = .ok (.ifCond .eq 11, 3) := by decide +kernel
theorem dL_isApproved_141 : decode cL_isApproved 141 = .ok (.aload_n 2, 1) := by decide +kernel
theorem dL_isApproved_142 : decode cL_isApproved 142 = .ok (.iload 4, 2) := by decide +kernel
theorem dL_isApproved_144 : decode cL_isApproved 144 = .ok (.iaload, 1) := by decide +kernel
theorem dL_isApproved_145 : decode cL_isApproved 145 = .ok (.iconst 2, 1) := by decide +kernel
theorem dL_isApproved_146 : decode cL_isApproved 146 = .ok (.if_icmp .ne 7, 3) := by decide +kernel
theorem dL_isApproved_149 : decode cL_isApproved 149 = .ok (.iconst 1, 1) := by decide +kernel
theorem dL_isApproved_150 : decode cL_isApproved 150 = .ok (.goto 4, 3) := by decide +kernel
theorem dL_isApproved_153 : decode cL_isApproved 153 = .ok (.iconst 0, 1) := by decide +kernel
theorem dL_isApproved_154 : decode cL_isApproved 154 = .ok (.istore 6, 2) := by decide +kernel
theorem dL_isApproved_156 : decode cL_isApproved 156 = .ok (.aload_n 1, 1) := by decide +kernel
theorem dL_isApproved_157 : decode cL_isApproved 157 = .ok (.iconst 2, 1) := by decide +kernel
theorem dL_isApproved_158 : decode cL_isApproved 158 = .ok (.iload 4, 2) := by decide +kernel
theorem dL_isApproved_160 : decode cL_isApproved 160 = .ok (.imul, 1) := by decide +kernel
theorem dL_isApproved_161 : decode cL_isApproved 161 = .ok (.iconst 1, 1) := by decide +kernel
theorem dL_isApproved_162 : decode cL_isApproved 162 = .ok (.iadd, 1) := by decide +kernel
theorem dL_isApproved_163 : decode cL_isApproved 163 = .ok (.iaload, 1) := by decide +kernel
theorem dL_isApproved_164 : decode cL_isApproved 164 = .ok (.aload_n 3, 1) := by decide +kernel
theorem dL_isApproved_165 : decode cL_isApproved 165 = .ok (.iconst 1, 1) := by decide +kernel
theorem dL_isApproved_166 : decode cL_isApproved 166 = .ok (.iaload, 1) := by decide +kernel
theorem dL_isApproved_167 : decode cL_isApproved 167 = .ok (.if_icmp .gt 7, 3) := by decide +kernel
theorem dL_isApproved_170 : decode cL_isApproved 170 = .ok (.iconst 1, 1) := by decide +kernel
theorem dL_isApproved_171 : decode cL_isApproved 171 = .ok (.goto 4, 3) := by decide +kernel
theorem dL_isApproved_174 : decode cL_isApproved 174 = .ok (.iconst 0, 1) := by decide +kernel
theorem dL_isApproved_175 : decode cL_isApproved 175 = .ok (.istore 7, 2) := by decide +kernel
theorem dL_isApproved_177 : decode cL_isApproved 177 = .ok (.aload_n 2, 1) := by decide +kernel
theorem dL_isApproved_178 : decode cL_isApproved 178 = .ok (.iload 4, 2) := by decide +kernel
theorem dL_isApproved_180 : decode cL_isApproved 180 = .ok (.iload 6, 2) := by decide +kernel
theorem dL_isApproved_182 : decode cL_isApproved 182 = .ok (.ifCond .ne 10, 3) := by decide +kernel
theorem dL_isApproved_185 : decode cL_isApproved 185 = .ok (.aload_n 2, 1) := by decide +kernel
theorem dL_isApproved_186 : decode cL_isApproved 186 = .ok (.iload 4, 2) := by decide +kernel
theorem dL_isApproved_188 : decode cL_isApproved 188 = .ok (.iaload, 1) := by decide +kernel
theorem dL_isApproved_189 : decode cL_isApproved 189 = .ok (.goto 13, 3) := by decide +kernel
theorem dL_isApproved_192 : decode cL_isApproved 192 = .ok (.iload 7, 2) := by decide +kernel
theorem dL_isApproved_194 : decode cL_isApproved 194 = .ok (.ifCond .eq 7, 3) := by decide +kernel
theorem dL_isApproved_197 : decode cL_isApproved 197 = .ok (.iconst 4, 1) := by decide +kernel
theorem dL_isApproved_198 : decode cL_isApproved 198 = .ok (.goto 4, 3) := by decide +kernel
theorem dL_isApproved_201 : decode cL_isApproved 201 = .ok (.iconst 1, 1) := by decide +kernel
theorem dL_isApproved_202 : decode cL_isApproved 202 = .ok (.iastore, 1) := by decide +kernel
theorem dL_isApproved_203 : decode cL_isApproved 203 = .ok (.aload_n 0, 1) := by decide +kernel
theorem dL_isApproved_204 : decode cL_isApproved 204 = .ok (.iconst 3, 1) := by decide +kernel
theorem dL_isApproved_205 : decode cL_isApproved 205 = .ok (.iload 4, 2) := by decide +kernel
theorem dL_isApproved_207 : decode cL_isApproved 207 = .ok (.iconst 0, 1) := by decide +kernel
theorem dL_isApproved_208 : decode cL_isApproved 208 = .ok (.iconst 0, 1) := by decide +kernel
theorem dL_isApproved_209 : decode cL_isApproved 209 = .ok (.iconst 0, 1) := by decide +kernel
theorem dL_isApproved_210 : decode cL_isApproved 210 = .ok (.invokestatic 106, 3) := by decide +kernel
theorem dL_isApproved_213 : decode cL_isApproved 213 = .ok (.iload 6, 2) := by decide +kernel
theorem dL_isApproved_215 : decode cL_isApproved 215 = .ok (.ifCond .ne 8, 3) := by decide +kernel
theorem dL_isApproved_218 : decode cL_isApproved 218 = .ok (.bipush (-10), 2) := by decide +kernel
theorem dL_isApproved_220 : decode cL_isApproved 220 = .ok (.goto 13, 3) := by decide +kernel
theorem dL_isApproved_223 : decode cL_isApproved 223 = .ok (.iload 7, 2) := by decide +kernel
theorem dL_isApproved_225 : decode cL_isApproved 225 = .ok (.ifCond .eq 7, 3) := by decide +kernel
theorem dL_isApproved_228 : decode cL_isApproved 228 = .ok (.iconst 1, 1) := by decide +kernel
theorem dL_isApproved_229 : decode cL_isApproved 229 = .ok (.goto 4, 3) := by decide +kernel
theorem dL_isApproved_232 : decode cL_isApproved 232 = .ok (.iconst 0, 1) := by decide +kernel
theorem dL_isApproved_233 : decode cL_isApproved 233 = .ok (.if_icmp .ne 7, 3) := by decide +kernel
theorem dL_isApproved_236 : decode cL_isApproved 236 = .ok (.iconst 1, 1) := by decide +kernel
theorem dL_isApproved_237 : decode cL_isApproved 237 = .ok (.goto 4, 3) := by decide +kernel
theorem dL_isApproved_240 : decode cL_isApproved 240 = .ok (.iconst 0, 1) := by decide +kernel
theorem dL_isApproved_241 : decode cL_isApproved 241 = .ok (.ireturn, 1) := by decide +kernel
set_option maxRecDepth 20000 in
theorem ggL_isNote_L_does : GoodIn wsL_isNote wsL_does := goodIn_ca (goodIn_ca (goodIn_ca (goodIn_r _ [4, 5, 6, 7, 8, 9, 10, 11, 12, 13, 14, 15, 16, 17, 18, 19, 20, 21, 22, 23, 24, 25, 26, 27, 28, 29, 30, 31, 32, 33, 34, 35, 36, 37, 38, 39, 40, 41, 42, 43, 44, 45, 46, 47, 48, 49, 50, 51, 52, 53, 54, 55, 56, 57, 58, 59, 60, 61, 62, 63, 64, 65, 66, 67, 68, 69, 70, 71, 72, 73, 74, 75, 76, 77, 78, 79, 80, 81, 82, 83, 84, 85, 86, 87, 88, 89, 90, 91, 92, 93, 94, 95, 96, 97, 98, 99, 100, 101, 102, 103, 104, 105, 106, 107, 108, 109, 110, 111, 112, 113, 114, 115, 116, 117, 118, 119, 120, 121, 122, 123, 124, 125, 126, 127, 128, 129, 130, 131, 132, 133, 134, 135, 136, 137, 138, 139, 140, 141, 142, 143, 144, 145, 146, 147, 148, 149, 150, 151, 152, 153, 154, 155, 156, 157, 158, 159, 160, 161, 162, 163, 164, 165, 166, 167, 168, 169, 170, 3, 171, 172, 173, 174, 175, 176, 177, 178, 179, 180, 181, 182, 183, 184, 185, 186, 187, 188, 189, 190, 191, 192, 193, 194, 195, 196, 197, 198, 199, 200, 201, 202, 203, 204, 205, 206, 207, 208, 209, 210, 211, 212, 213, 214, 227, 228, 229, 230, 231, 232, 233, 234, 235, 236, 237, 238, 239, 240, 241, 242, 243, 244, 245, 246] (by decide +kernel) (by decide +kernel)) (goodIn_sub (fun _ h => List.mem_cons_of_mem _ (List.mem_append_left _ (List.mem_append_left _ (List.mem_append_right _ h)))) (by decide +kernel))) (goodIn_sub (fun _ h => List.mem_cons_of_mem _ (List.mem_append_left _ (List.mem_append_right _ h))) (by decide +kernel))) (goodIn_sub (fun _ h => List.mem_cons_of_mem _ (List.mem_append_right _ h)) (by decide +kernel))
set_option maxRecDepth 20000 in
theorem gL_isNote_L_does : GoodIn wsL_isNote (va_wsS RL 106 yL_does wsL_does) := goodIn_app (goodIn_of _ (by decide +kernel)) ggL_isNote_L_does
set_option maxRecDepth 20000 in
theorem ggL_isNote_X1_amount : GoodIn wsL_isNote wsX1_amount := goodIn_ca (goodIn_r _ [218, 158, 133, 134, 135, 11, 136, 18, 19, 41, 137, 46, 47, 48, 49, 50, 51, 138, 139, 140, 141, 142, 143, 144, 145, 146, 147, 148, 149, 150, 151, 152, 153, 79, 234, 235, 236, 237, 238, 239, 240, 241, 242, 243, 227, 228, 229, 230, 231, 232, 233, 244, 245, 246] (by decide +kernel) (by decide +kernel)) (goodIn_sub (fun _ h => List.mem_cons_of_mem _ (List.mem_append_left _ (List.mem_append_left _ (List.mem_append_right _ h)))) (by decide +kernel))
set_option maxRecDepth 20000 in
theorem gL_isNote_X1_amount : GoodIn wsL_isNote (wsV RL 58 RX1 yX1_amount wsX1_amount) := goodIn_app (goodIn_of _ (by decide +kernel)) ggL_isNote_X1_amount
set_option maxRecDepth 20000 in
theorem ggL_isNote_X1_claim : GoodIn wsL_isNote wsX1_claim := goodIn_ca (goodIn_r _ [222, 165, 30, 31, 11, 32, 15, 16, 17, 18, 19, 33, 34, 35, 227, 228, 229, 230, 231, 232, 233] (by decide +kernel) (by decide +kernel)) (goodIn_sub (fun _ h => List.mem_cons_of_mem _ (List.mem_append_left _ (List.mem_append_left _ (List.mem_append_right _ h)))) (by decide +kernel))
set_option maxRecDepth 20000 in
theorem gL_isNote_X1_claim : GoodIn wsL_isNote (wsV RL 79 RX1 yX1_claim wsX1_claim) := goodIn_app (goodIn_of _ (by decide +kernel)) ggL_isNote_X1_claim
set_option maxRecDepth 20000 in
theorem ggL_isNote_X1_paid : GoodIn wsL_isNote wsX1_paid := goodIn_ca (goodIn_r _ [226, 167, 133, 134, 135, 11, 136, 18, 19, 41, 137, 46, 47, 48, 49, 50, 51, 138, 139, 140, 141, 142, 143, 144, 145, 146, 147, 148, 149, 150, 151, 152, 153, 79, 234, 235, 236, 237, 238, 239, 240, 241, 242, 243, 227, 228, 229, 230, 231, 232, 233, 244, 245, 246] (by decide +kernel) (by decide +kernel)) (goodIn_sub (fun _ h => List.mem_cons_of_mem _ (List.mem_append_left _ (List.mem_append_left _ (List.mem_append_right _ h)))) (by decide +kernel))
set_option maxRecDepth 20000 in
theorem gL_isNote_X1_paid : GoodIn wsL_isNote (wsV RL 61 RX1 yX1_paid wsX1_paid) := goodIn_app (goodIn_of _ (by decide +kernel)) ggL_isNote_X1_paid
theorem dL_isNote_0 : decode cL_isNote 0 = .ok (.iload 6, 2) := by decide +kernel
theorem dL_isNote_2 : decode cL_isNote 2 = .ok (.aload 5, 2) := by decide +kernel
theorem dL_isNote_4 : decode cL_isNote 4 = .ok (.iconst 0, 1) := by decide +kernel
theorem dL_isNote_5 : decode cL_isNote 5 = .ok (.iaload, 1) := by decide +kernel
theorem dL_isNote_6 : decode cL_isNote 6 = .ok (.if_icmp .ne 24, 3) := by decide +kernel
theorem dL_isNote_9 : decode cL_isNote 9 = .ok (.aload_n 0, 1) := by decide +kernel
theorem dL_isNote_10 : decode cL_isNote 10 = .ok (.iconst 5, 1) := by decide +kernel
theorem dL_isNote_11 : decode cL_isNote 11 = .ok (.iload 6, 2) := by decide +kernel
theorem dL_isNote_13 : decode cL_isNote 13 = .ok (.iconst 0, 1) := by decide +kernel
theorem dL_isNote_14 : decode cL_isNote 14 = .ok (.iconst 0, 1) := by decide +kernel
theorem dL_isNote_15 : decode cL_isNote 15 = .ok (.iconst 0, 1) := by decide +kernel
theorem dL_isNote_16 : decode cL_isNote 16 = .ok (.invokestatic 106, 3) := by decide +kernel
theorem dL_isNote_19 : decode cL_isNote 19 = .ok (.bipush (-30), 2) := by decide +kernel
theorem dL_isNote_21 : decode cL_isNote 21 = .ok (.if_icmp .ne 7, 3) := by decide +kernel
theorem dL_isNote_24 : decode cL_isNote 24 = .ok (.iconst 1, 1) := by decide +kernel
theorem dL_isNote_25 : decode cL_isNote 25 = .ok (.goto 4, 3) := by decide +kernel
theorem dL_isNote_28 : decode cL_isNote 28 = .ok (.iconst 0, 1) := by decide +kernel
theorem dL_isNote_29 : decode cL_isNote 29 = .ok (.ireturn, 1) := by decide +kernel
theorem dL_isNote_30 : decode cL_isNote 30 = .ok (.aload_n 0, 1) := by decide +kernel
theorem dL_isNote_31 : decode cL_isNote 31 = .ok (.iload 6, 2) := by decide +kernel
theorem dL_isNote_33 : decode cL_isNote 33 = .ok (.invokevirtual 58, 3) := by decide +kernel
theorem dL_isNote_36 : decode cL_isNote 36 = .ok (.istore 8, 2) := by decide +kernel
theorem dL_isNote_38 : decode cL_isNote 38 = .ok (.iload 8, 2) := by decide +kernel
theorem dL_isNote_40 : decode cL_isNote 40 = .ok (.aload_n 3, 1) := by decide +kernel
theorem dL_isNote_41 : decode cL_isNote 41 = .ok (.iload 6, 2) := by decide +kernel
theorem dL_isNote_43 : decode cL_isNote 43 = .ok (.iaload, 1) := by decide +kernel
theorem dL_isNote_44 : decode cL_isNote 44 = .ok (.isub, 1) := by decide +kernel
theorem dL_isNote_45 : decode cL_isNote 45 = .ok (.istore 9, 2) := by decide +kernel
theorem dL_isNote_47 : decode cL_isNote 47 = .ok (.iload 7, 2) := by decide +kernel
theorem dL_isNote_49 : decode cL_isNote 49 = .ok (.bipush 9, 2) := by decide +kernel
theorem dL_isNote_51 : decode cL_isNote 51 = .ok (.irem, 1) := by decide +kernel
theorem dL_isNote_52 : decode cL_isNote 52 = .ok (.ifCond .ne 10, 3) := by decide +kernel
theorem dL_isNote_55 : decode cL_isNote 55 = .ok (.iload 9, 2) := by decide +kernel
theorem dL_isNote_57 : decode cL_isNote 57 = .ok (.iconst 1, 1) := by decide +kernel
theorem dL_isNote_58 : decode cL_isNote 58 = .ok (.iadd, 1) := by decide +kernel
theorem dL_isNote_59 : decode cL_isNote 59 = .ok (.goto 22, 3) := by decide +kernel
theorem dL_isNote_62 : decode cL_isNote 62 = .ok (.iload 9, 2) := by decide +kernel
theorem dL_isNote_64 : decode cL_isNote 64 = .ok (.ifCond .ne 7, 3) := by decide +kernel
theorem dL_isNote_67 : decode cL_isNote 67 = .ok (.iconst 0, 1) := by decide +kernel
theorem dL_isNote_68 : decode cL_isNote 68 = .ok (.goto 13, 3) := by decide +kernel
theorem dL_isNote_71 : decode cL_isNote 71 = .ok (.iconst 1, 1) := by decide +kernel
theorem dL_isNote_72 : decode cL_isNote 72 = .ok (.iload 7, 2) := by decide +kernel
theorem dL_isNote_74 : decode cL_isNote 74 = .ok (.bipush 31, 2) := by decide +kernel
theorem dL_isNote_76 : decode cL_isNote 76 = .ok (.imul, 1) := by decide +kernel
theorem dL_isNote_77 : decode cL_isNote 77 = .ok (.iload 9, 2) := by decide +kernel
theorem dL_isNote_79 : decode cL_isNote 79 = .ok (.irem, 1) := by decide +kernel
theorem dL_isNote_80 : decode cL_isNote 80 = .ok (.iadd, 1) := by decide +kernel
theorem dL_isNote_81 : decode cL_isNote 81 = .ok (.istore 10, 2) := by decide +kernel
theorem dL_isNote_83 : decode cL_isNote 83 = .ok (.aload_n 0, 1) := by decide +kernel
theorem dL_isNote_84 : decode cL_isNote 84 = .ok (.aload_n 1, 1) := by decide +kernel
theorem dL_isNote_85 : decode cL_isNote 85 = .ok (.iconst 2, 1) := by decide +kernel
theorem dL_isNote_86 : decode cL_isNote 86 = .ok (.iload 6, 2) := by decide +kernel
theorem dL_isNote_88 : decode cL_isNote 88 = .ok (.imul, 1) := by decide +kernel
theorem dL_isNote_89 : decode cL_isNote 89 = .ok (.iaload, 1) := by decide +kernel
theorem dL_isNote_90 : decode cL_isNote 90 = .ok (.bipush 8, 2) := by decide +kernel
theorem dL_isNote_92 : decode cL_isNote 92 = .ok (.idiv, 1) := by decide +kernel
theorem dL_isNote_93 : decode cL_isNote 93 = .ok (.aload_n 1, 1) := by decide +kernel
theorem dL_isNote_94 : decode cL_isNote 94 = .ok (.iconst 2, 1) := by decide +kernel
theorem dL_isNote_95 : decode cL_isNote 95 = .ok (.iload 6, 2) := by decide +kernel
theorem dL_isNote_97 : decode cL_isNote 97 = .ok (.imul, 1) := by decide +kernel
theorem dL_isNote_98 : decode cL_isNote 98 = .ok (.iaload, 1) := by decide +kernel
theorem dL_isNote_99 : decode cL_isNote 99 = .ok (.bipush 8, 2) := by decide +kernel
theorem dL_isNote_101 : decode cL_isNote 101 = .ok (.irem, 1) := by decide +kernel
theorem dL_isNote_102 : decode cL_isNote 102 = .ok (.invokevirtual 79, 3) := by decide +kernel
theorem dL_isNote_105 : decode cL_isNote 105 = .ok (.istore 11, 2) := by decide +kernel
theorem dL_isNote_107 : decode cL_isNote 107 = .ok (.aload_n 0, 1) := by decide +kernel
theorem dL_isNote_108 : decode cL_isNote 108 = .ok (.iconst 5, 1) := by decide +kernel
theorem dL_isNote_109 : decode cL_isNote 109 = .ok (.iload 6, 2) := by decide +kernel
theorem dL_isNote_111 : decode cL_isNote 111 = .ok (.iload 10, 2) := by decide +kernel
theorem dL_isNote_113 : decode cL_isNote 113 = .ok (.iconst 0, 1) := by decide +kernel
theorem dL_isNote_114 : decode cL_isNote 114 = .ok (.iconst 0, 1) := by decide +kernel
theorem dL_isNote_115 : decode cL_isNote 115 = .ok (.invokestatic 106, 3) := by decide +kernel
theorem dL_isNote_118 : decode cL_isNote 118 = .ok (.istore 12, 2) := by decide +kernel
theorem dL_isNote_120 : decode cL_isNote 120 = .ok (.iload 10, 2) := by decide +kernel
theorem dL_isNote_122 : decode cL_isNote 122 = .ok (.iconst 1, 1) := by decide +kernel
theorem dL_isNote_123 : decode cL_isNote 123 = .ok (.if_icmp .lt 10, 3) := by decide +kernel
theorem dL_isNote_126 : decode cL_isNote 126 = .ok (.iload 10, 2) := by decide +kernel
theorem dL_isNote_128 : decode cL_isNote 128 = .ok (.iload 9, 2) := by decide +kernel
theorem dL_isNote_130 : decode cL_isNote 130 = .ok (.if_icmp .le 27, 3) := by decide +kernel
theorem dL_isNote_133 : decode cL_isNote 133 = .ok (.iload 12, 2) := by decide +kernel
theorem dL_isNote_135 : decode cL_isNote 135 = .ok (.bipush (-20), 2) := by decide +kernel
theorem dL_isNote_137 : decode cL_isNote 137 = .ok (.if_icmp .ne 18, 3) := by decide +kernel
theorem dL_isNote_140 : decode cL_isNote 140 = .ok (.aload_n 0, 1) := by decide +kernel
theorem dL_isNote_141 : decode cL_isNote 141 = .ok (.iload 6, 2) := by decide +kernel
theorem dL_isNote_143 : decode cL_isNote 143 = .ok (.invokevirtual 58, 3) := by decide +kernel
theorem dL_isNote_146 : decode cL_isNote 146 = .ok (.iload 8, 2) := by decide +kernel
theorem dL_isNote_148 : decode cL_isNote 148 = .ok (.if_icmp .ne 7, 3) := by decide +kernel
theorem dL_isNote_151 : decode cL_isNote 151 = .ok (.iconst 1, 1) := by decide +kernel
theorem dL_isNote_152 : decode cL_isNote 152 = .ok (.goto 4, 3) := by decide +kernel
theorem dL_isNote_155 : decode cL_isNote 155 = .ok (.iconst 0, 1) := by decide +kernel
theorem dL_isNote_156 : decode cL_isNote 156 = .ok (.ireturn, 1) := by decide +kernel
theorem dL_isNote_157 : decode cL_isNote 157 = .ok (.aload_n 2, 1) := by decide +kernel
theorem dL_isNote_158 : decode cL_isNote 158 = .ok (.iload 6, 2) := by decide +kernel
theorem dL_isNote_160 : decode cL_isNote 160 = .ok (.iaload, 1) := by decide +kernel
theorem dL_isNote_161 : decode cL_isNote 161 = .ok (.iconst 3, 1) := by decide +kernel
theorem dL_isNote_162 : decode cL_isNote 162 = .ok (.if_icmp .ge 30, 3) := by decide +kernel
theorem dL_isNote_165 : decode cL_isNote 165 = .ok (.iload 12, 2) := by decide +kernel
theorem dL_isNote_167 : decode cL_isNote 167 = .ok (.iload 8, 2) := by decide +kernel
theorem dL_isNote_169 : decode cL_isNote 169 = .ok (.iload 10, 2) := by decide +kernel
theorem dL_isNote_171 : decode cL_isNote 171 = .ok (.isub, 1) := by decide +kernel
theorem dL_isNote_172 : decode cL_isNote 172 = .ok (.if_icmp .ne 18, 3) := by decide +kernel
theorem dL_isNote_175 : decode cL_isNote 175 = .ok (.aload_n 0, 1) := by decide +kernel
theorem dL_isNote_176 : decode cL_isNote 176 = .ok (.iload 6, 2) := by decide +kernel
theorem dL_isNote_178 : decode cL_isNote 178 = .ok (.invokevirtual 58, 3) := by decide +kernel
theorem dL_isNote_181 : decode cL_isNote 181 = .ok (.iload 12, 2) := by decide +kernel
theorem dL_isNote_183 : decode cL_isNote 183 = .ok (.if_icmp .ne 7, 3) := by decide +kernel
theorem dL_isNote_186 : decode cL_isNote 186 = .ok (.iconst 1, 1) := by decide +kernel
theorem dL_isNote_187 : decode cL_isNote 187 = .ok (.goto 4, 3) := by decide +kernel
theorem dL_isNote_190 : decode cL_isNote 190 = .ok (.iconst 0, 1) := by decide +kernel
theorem dL_isNote_191 : decode cL_isNote 191 = .ok (.ireturn, 1) := by decide +kernel
theorem dL_isNote_192 : decode cL_isNote 192 = .ok (.aload_n 3, 1) := by decide +kernel
theorem dL_isNote_193 : decode cL_isNote 193 = .ok (.iload 6, 2) := by decide +kernel
theorem dL_isNote_195 : decode cL_isNote 195 = .ok (.dup2, 1) := by decide +kernel
theorem dL_isNote_196 : decode cL_isNote 196 = .ok (.iaload, 1) := by decide +kernel
theorem dL_isNote_197 : decode cL_isNote 197 = .ok (.iload 10, 2) := by decide +kernel
theorem dL_isNote_199 : decode cL_isNote 199 = .ok (.iadd, 1) := by decide +kernel
theorem dL_isNote_200 : decode cL_isNote 200 = .ok (.iastore, 1) := by decide +kernel
theorem dL_isNote_201 : decode cL_isNote 201 = .ok (.aload 4, 2) := by decide +kernel
theorem dL_isNote_203 : decode cL_isNote 203 = .ok (.aload_n 1, 1) := by decide +kernel
theorem dL_isNote_204 : decode cL_isNote 204 = .ok (.iconst 2, 1) := by decide +kernel
theorem dL_isNote_205 : decode cL_isNote 205 = .ok (.iload 6, 2) := by decide +kernel
theorem dL_isNote_207 : decode cL_isNote 207 = .ok (.imul, 1) := by decide +kernel
theorem dL_isNote_208 : decode cL_isNote 208 = .ok (.iaload, 1) := by decide +kernel
theorem dL_isNote_209 : decode cL_isNote 209 = .ok (.dup2, 1) := by decide +kernel
theorem dL_isNote_210 : decode cL_isNote 210 = .ok (.iaload, 1) := by decide +kernel
theorem dL_isNote_211 : decode cL_isNote 211 = .ok (.iload 12, 2) := by decide +kernel
theorem dL_isNote_213 : decode cL_isNote 213 = .ok (.iadd, 1) := by decide +kernel
theorem dL_isNote_214 : decode cL_isNote 214 = .ok (.iastore, 1) := by decide +kernel
theorem dL_isNote_215 : decode cL_isNote 215 = .ok (.aload_n 0, 1) := by decide +kernel
theorem dL_isNote_216 : decode cL_isNote 216 = .ok (.iload 6, 2) := by decide +kernel
theorem dL_isNote_218 : decode cL_isNote 218 = .ok (.invokevirtual 58, 3) := by decide +kernel
theorem dL_isNote_221 : decode cL_isNote 221 = .ok (.iload 8, 2) := by decide +kernel
theorem dL_isNote_223 : decode cL_isNote 223 = .ok (.if_icmp .ne 95, 3) := by decide +kernel
theorem dL_isNote_226 : decode cL_isNote 226 = .ok (.iload 12, 2) := by decide +kernel
theorem dL_isNote_228 : decode cL_isNote 228 = .ok (.ifCond .lt 90, 3) := by decide +kernel
theorem dL_isNote_231 : decode cL_isNote 231 = .ok (.iload 12, 2) := by decide +kernel
theorem dL_isNote_233 : decode cL_isNote 233 = .ok (.iload 10, 2) := by decide +kernel
theorem dL_isNote_235 : decode cL_isNote 235 = .ok (.if_icmp .gt 83, 3) := by decide +kernel
theorem dL_isNote_238 : decode cL_isNote 238 = .ok (.aload_n 0, 1) := by decide +kernel
theorem dL_isNote_239 : decode cL_isNote 239 = .ok (.aload_n 1, 1) := by decide +kernel
theorem dL_isNote_240 : decode cL_isNote 240 = .ok (.iconst 2, 1) := by decide +kernel
theorem dL_isNote_241 : decode cL_isNote 241 = .ok (.iload 6, 2) := by decide +kernel
theorem dL_isNote_243 : decode cL_isNote 243 = .ok (.imul, 1) := by decide +kernel
theorem dL_isNote_244 : decode cL_isNote 244 = .ok (.iaload, 1) := by decide +kernel
theorem dL_isNote_245 : decode cL_isNote 245 = .ok (.bipush 8, 2) := by decide +kernel
theorem dL_isNote_247 : decode cL_isNote 247 = .ok (.idiv, 1) := by decide +kernel
theorem dL_isNote_248 : decode cL_isNote 248 = .ok (.aload_n 1, 1) := by decide +kernel
theorem dL_isNote_249 : decode cL_isNote 249 = .ok (.iconst 2, 1) := by decide +kernel
theorem dL_isNote_250 : decode cL_isNote 250 = .ok (.iload 6, 2) := by decide +kernel
theorem dL_isNote_252 : decode cL_isNote 252 = .ok (.imul, 1) := by decide +kernel
theorem dL_isNote_253 : decode cL_isNote 253 = .ok (.iaload, 1) := by decide +kernel
theorem dL_isNote_254 : decode cL_isNote 254 = .ok (.bipush 8, 2) := by decide +kernel
theorem dL_isNote_256 : decode cL_isNote 256 = .ok (.irem, 1) := by decide +kernel
theorem dL_isNote_257 : decode cL_isNote 257 = .ok (.invokevirtual 79, 3) := by decide +kernel
theorem dL_isNote_260 : decode cL_isNote 260 = .ok (.iload 11, 2) := by decide +kernel
theorem dL_isNote_262 : decode cL_isNote 262 = .ok (.iload 12, 2) := by decide +kernel
theorem dL_isNote_264 : decode cL_isNote 264 = .ok (.iadd, 1) := by decide +kernel
theorem dL_isNote_265 : decode cL_isNote 265 = .ok (.if_icmp .ne 53, 3) := by decide +kernel
theorem dL_isNote_268 : decode cL_isNote 268 = .ok (.iload 12, 2) := by decide +kernel
theorem dL_isNote_270 : decode cL_isNote 270 = .ok (.i2l, 1) := by decide +kernel
theorem dL_isNote_271 : decode cL_isNote 271 = .ok (.iload 8, 2) := by decide +kernel
theorem dL_isNote_273 : decode cL_isNote 273 = .ok (.i2l, 1) := by decide +kernel
theorem dL_isNote_274 : decode cL_isNote 274 = .ok (.lmul, 1) := by decide +kernel
theorem dL_isNote_275 : decode cL_isNote 275 = .ok (.iload 10, 2) := by decide +kernel
theorem dL_isNote_277 : decode cL_isNote 277 = .ok (.i2l, 1) := by decide +kernel
theorem dL_isNote_278 : decode cL_isNote 278 = .ok (.aload_n 0, 1) := by decide +kernel
theorem dL_isNote_279 : decode cL_isNote 279 = .ok (.iload 6, 2) := by decide +kernel
theorem dL_isNote_281 : decode cL_isNote 281 = .ok (.invokevirtual 61, 3) := by decide +kernel
theorem dL_isNote_284 : decode cL_isNote 284 = .ok (.i2l, 1) := by decide +kernel
theorem dL_isNote_285 : decode cL_isNote 285 = .ok (.lmul, 1) := by decide +kernel
theorem dL_isNote_286 : decode cL_isNote 286 = .ok (.lcmp, 1) := by decide +kernel
theorem dL_isNote_287 : decode cL_isNote 287 = .ok (.ifCond .gt 31, 3) := by decide +kernel
theorem dL_isNote_290 : decode cL_isNote 290 = .ok (.iload 12, 2) := by decide +kernel
theorem dL_isNote_292 : decode cL_isNote 292 = .ok (.iconst 1, 1) := by decide +kernel
theorem dL_isNote_293 : decode cL_isNote 293 = .ok (.iadd, 1) := by decide +kernel
theorem dL_isNote_294 : decode cL_isNote 294 = .ok (.i2l, 1) := by decide +kernel
theorem dL_isNote_295 : decode cL_isNote 295 = .ok (.iload 8, 2) := by decide +kernel
theorem dL_isNote_297 : decode cL_isNote 297 = .ok (.i2l, 1) := by decide +kernel
theorem dL_isNote_298 : decode cL_isNote 298 = .ok (.lmul, 1) := by decide +kernel
theorem dL_isNote_299 : decode cL_isNote 299 = .ok (.iload 10, 2) := by decide +kernel
theorem dL_isNote_301 : decode cL_isNote 301 = .ok (.i2l, 1) := by decide +kernel
theorem dL_isNote_302 : decode cL_isNote 302 = .ok (.aload_n 0, 1) := by decide +kernel
theorem dL_isNote_303 : decode cL_isNote 303 = .ok (.iload 6, 2) := by decide +kernel
theorem dL_isNote_305 : decode cL_isNote 305 = .ok (.invokevirtual 61, 3) := by decide +kernel
theorem dL_isNote_308 : decode cL_isNote 308 = .ok (.i2l, 1) := by decide +kernel
theorem dL_isNote_309 : decode cL_isNote 309 = .ok (.lmul, 1) := by decide +kernel
theorem dL_isNote_310 : decode cL_isNote 310 = .ok (.lcmp, 1) := by decide +kernel
theorem dL_isNote_311 : decode cL_isNote 311 = .ok (.ifCond .le 7, 3) := by decide +kernel
theorem dL_isNote_314 : decode cL_isNote 314 = .ok (.iconst 1, 1) := by decide +kernel
theorem dL_isNote_315 : decode cL_isNote 315 = .ok (.goto 4, 3) := by decide +kernel
theorem dL_isNote_318 : decode cL_isNote 318 = .ok (.iconst 0, 1) := by decide +kernel
theorem dL_isNote_319 : decode cL_isNote 319 = .ok (.ireturn, 1) := by decide +kernel
set_option maxRecDepth 20000 in
theorem ggL_isOffer_L_does : GoodIn wsL_isOffer wsL_does := goodIn_ca (goodIn_ca (goodIn_ca (goodIn_r _ [5, 6, 7, 8, 9, 10, 11, 12, 13, 14, 15, 16, 17, 18, 19, 20, 21, 22, 23, 24, 25, 26, 27, 28, 29, 30, 31, 32, 33, 34, 35, 36, 37, 38, 39, 40, 41, 42, 43, 44, 45, 46, 47, 48, 49, 50, 51, 52, 53, 54, 55, 56, 57, 58, 59, 60, 61, 62, 63, 64, 65, 66, 67, 68, 69, 70, 71, 72, 73, 74, 75, 76, 77, 78, 79, 80, 81, 82, 83, 84, 85, 86, 87, 88, 89, 90, 91, 92, 93, 94, 95, 96, 97, 98, 99, 100, 101, 102, 103, 104, 105, 106, 107, 108, 109, 110, 111, 112, 113, 114, 115, 116, 117, 118, 119, 120, 121, 122, 123, 124, 125, 126, 127, 128, 129, 130, 131, 132, 133, 134, 135, 136, 137, 138, 139, 140, 141, 142, 143, 144, 145, 146, 147, 148, 149, 150, 151, 152, 153, 154, 155, 156, 157, 158, 159, 160, 161, 162, 163, 164, 165, 166, 167, 168, 169, 170, 171, 4, 172, 173, 174, 175, 176, 177, 178, 179, 180, 181, 182, 183, 184, 185, 186, 187, 188, 189, 190, 191, 192, 193, 194, 195, 196, 197, 198, 199, 200, 201, 202, 203, 204, 205, 206, 207, 208, 209, 210, 211, 212, 213, 214, 215, 220, 221, 222, 223, 224, 225, 226, 227, 228, 229, 230, 231, 232, 233, 234, 235, 236, 237, 238, 239] (by decide +kernel) (by decide +kernel)) (goodIn_sub (fun _ h => List.mem_cons_of_mem _ (List.mem_append_left _ (List.mem_append_left _ (List.mem_append_right _ h)))) (by decide +kernel))) (goodIn_sub (fun _ h => List.mem_cons_of_mem _ (List.mem_append_left _ (List.mem_append_right _ h))) (by decide +kernel))) (goodIn_sub (fun _ h => List.mem_cons_of_mem _ (List.mem_append_right _ h)) (by decide +kernel))
set_option maxRecDepth 20000 in
theorem gL_isOffer_L_does : GoodIn wsL_isOffer (va_wsS RL 106 yL_does wsL_does) := goodIn_app (goodIn_of _ (by decide +kernel)) ggL_isOffer_L_does
set_option maxRecDepth 20000 in
theorem ggL_isOffer_X1_amount : GoodIn wsL_isOffer wsX1_amount := goodIn_ca (goodIn_r _ [219, 159, 134, 135, 136, 12, 137, 19, 20, 42, 138, 47, 48, 49, 50, 51, 52, 139, 140, 141, 142, 143, 144, 145, 146, 147, 148, 149, 150, 151, 152, 153, 154, 80, 227, 228, 229, 230, 231, 232, 233, 234, 235, 236, 220, 221, 222, 223, 224, 225, 226, 237, 238, 239] (by decide +kernel) (by decide +kernel)) (goodIn_sub (fun _ h => List.mem_cons_of_mem _ (List.mem_append_left _ (List.mem_append_left _ (List.mem_append_right _ h)))) (by decide +kernel))
set_option maxRecDepth 20000 in
theorem gL_isOffer_X1_amount : GoodIn wsL_isOffer (wsV RL 58 RX1 yX1_amount wsX1_amount) := goodIn_app (goodIn_of _ (by decide +kernel)) ggL_isOffer_X1_amount
theorem dL_isOffer_0 : decode cL_isOffer 0 = .ok (.iload 4, 2) := by decide +kernel
theorem dL_isOffer_2 : decode cL_isOffer 2 = .ok (.aload_n 3, 1) := by decide +kernel
theorem dL_isOffer_3 : decode cL_isOffer 3 = .ok (.iconst 0, 1) := by decide +kernel
theorem dL_isOffer_4 : decode cL_isOffer 4 = .ok (.iaload, 1) := by decide +kernel
theorem dL_isOffer_5 : decode cL_isOffer 5 = .ok (.if_icmp .ne 41, 3) := by decide +kernel
theorem dL_isOffer_8 : decode cL_isOffer 8 = .ok (.aload_n 0, 1) := by decide +kernel
theorem dL_isOffer_9 : decode cL_isOffer 9 = .ok (.bipush 6, 2) := by decide +kernel
theorem dL_isOffer_11 : decode cL_isOffer 11 = .ok (.iload 4, 2) := by decide +kernel
theorem dL_isOffer_13 : decode cL_isOffer 13 = .ok (.iconst 0, 1) := by decide +kernel
theorem dL_isOffer_14 : decode cL_isOffer 14 = .ok (.iconst 0, 1) := by decide +kernel
theorem dL_isOffer_15 : decode cL_isOffer 15 = .ok (.iconst 0, 1) := by decide +kernel
theorem dL_isOffer_16 : decode cL_isOffer 16 = .ok (.invokestatic 106, 3) := by decide +kernel
theorem dL_isOffer_19 : decode cL_isOffer 19 = .ok (.bipush (-30), 2) := by decide +kernel
theorem dL_isOffer_21 : decode cL_isOffer 21 = .ok (.if_icmp .ne 23, 3) := by decide +kernel
theorem dL_isOffer_24 : decode cL_isOffer 24 = .ok (.aload_n 0, 1) := by decide +kernel
theorem dL_isOffer_25 : decode cL_isOffer 25 = .ok (.bipush 7, 2) := by decide +kernel
theorem dL_isOffer_27 : decode cL_isOffer 27 = .ok (.iload 4, 2) := by decide +kernel
theorem dL_isOffer_29 : decode cL_isOffer 29 = .ok (.iconst 0, 1) := by decide +kernel
theorem dL_isOffer_30 : decode cL_isOffer 30 = .ok (.iconst 0, 1) := by decide +kernel
theorem dL_isOffer_31 : decode cL_isOffer 31 = .ok (.iconst 0, 1) := by decide +kernel
theorem dL_isOffer_32 : decode cL_isOffer 32 = .ok (.invokestatic 106, 3) := by decide +kernel
theorem dL_isOffer_35 : decode cL_isOffer 35 = .ok (.bipush (-30), 2) := by decide +kernel
theorem dL_isOffer_37 : decode cL_isOffer 37 = .ok (.if_icmp .ne 7, 3) := by decide +kernel
theorem dL_isOffer_40 : decode cL_isOffer 40 = .ok (.iconst 1, 1) := by decide +kernel
theorem dL_isOffer_41 : decode cL_isOffer 41 = .ok (.goto 4, 3) := by decide +kernel
theorem dL_isOffer_44 : decode cL_isOffer 44 = .ok (.iconst 0, 1) := by decide +kernel
theorem dL_isOffer_45 : decode cL_isOffer 45 = .ok (.ireturn, 1) := by decide +kernel
theorem dL_isOffer_46 : decode cL_isOffer 46 = .ok (.aload_n 2, 1) := by decide +kernel
theorem dL_isOffer_47 : decode cL_isOffer 47 = .ok (.iload 4, 2) := by decide +kernel
theorem dL_isOffer_49 : decode cL_isOffer 49 = .ok (.iaload, 1) := by decide +kernel
theorem dL_isOffer_50 : decode cL_isOffer 50 = .ok (.iconst 1, 1) := by decide +kernel
theorem dL_isOffer_51 : decode cL_isOffer 51 = .ok (.if_icmp .ne 21, 3) := by decide +kernel
theorem dL_isOffer_54 : decode cL_isOffer 54 = .ok (.aload_n 1, 1) := by decide +kernel
theorem dL_isOffer_55 : decode cL_isOffer 55 = .ok (.iconst 2, 1) := by decide +kernel
theorem dL_isOffer_56 : decode cL_isOffer 56 = .ok (.iload 4, 2) := by decide +kernel
theorem dL_isOffer_58 : decode cL_isOffer 58 = .ok (.imul, 1) := by decide +kernel
theorem dL_isOffer_59 : decode cL_isOffer 59 = .ok (.iconst 1, 1) := by decide +kernel
theorem dL_isOffer_60 : decode cL_isOffer 60 = .ok (.iadd, 1) := by decide +kernel
theorem dL_isOffer_61 : decode cL_isOffer 61 = .ok (.iaload, 1) := by decide +kernel
theorem dL_isOffer_62 : decode cL_isOffer 62 = .ok (.aload_n 3, 1) := by decide +kernel
theorem dL_isOffer_63 : decode cL_isOffer 63 = .ok (.iconst 1, 1) := by decide +kernel
theorem dL_isOffer_64 : decode cL_isOffer 64 = .ok (.iaload, 1) := by decide +kernel
theorem dL_isOffer_65 : decode cL_isOffer 65 = .ok (.if_icmp .le 7, 3) := by decide +kernel
theorem dL_isOffer_68 : decode cL_isOffer 68 = .ok (.iconst 1, 1) := by decide +kernel
theorem dL_isOffer_69 : decode cL_isOffer 69 = .ok (.goto 4, 3) := by decide +kernel
theorem dL_isOffer_72 : decode cL_isOffer 72 = .ok (.iconst 0, 1) := by decide +kernel
theorem dL_isOffer_73 : decode cL_isOffer 73 = .ok (.istore 6, 2) := by decide +kernel
theorem dL_isOffer_75 : decode cL_isOffer 75 = .ok (.aload_n 0, 1) := by decide +kernel
theorem dL_isOffer_76 : decode cL_isOffer 76 = .ok (.bipush 6, 2) := by decide +kernel
theorem dL_isOffer_78 : decode cL_isOffer 78 = .ok (.iload 4, 2) := by decide +kernel
theorem dL_isOffer_80 : decode cL_isOffer 80 = .ok (.iload 5, 2) := by decide +kernel
theorem dL_isOffer_82 : decode cL_isOffer 82 = .ok (.iconst 0, 1) := by decide +kernel
theorem dL_isOffer_83 : decode cL_isOffer 83 = .ok (.iconst 0, 1) := by decide +kernel
theorem dL_isOffer_84 : decode cL_isOffer 84 = .ok (.invokestatic 106, 3) := by decide +kernel
theorem dL_isOffer_87 : decode cL_isOffer 87 = .ok (.istore 7, 2) := by decide +kernel
theorem dL_isOffer_89 : decode cL_isOffer 89 = .ok (.iload 5, 2) := by decide +kernel
theorem dL_isOffer_91 : decode cL_isOffer 91 = .ok (.sipush 5000, 3) := by decide +kernel
theorem dL_isOffer_94 : decode cL_isOffer 94 = .ok (.if_icmp .gt 8, 3) := by decide +kernel
theorem dL_isOffer_97 : decode cL_isOffer 97 = .ok (.iload 6, 2) := by decide +kernel
theorem dL_isOffer_99 : decode cL_isOffer 99 = .ok (.ifCond .ne 29, 3) := by decide +kernel
theorem dL_isOffer_102 : decode cL_isOffer 102 = .ok (.iload 7, 2) := by decide +kernel
theorem dL_isOffer_104 : decode cL_isOffer 104 = .ok (.iload 5, 2) := by decide +kernel
theorem dL_isOffer_106 : decode cL_isOffer 106 = .ok (.sipush 5000, 3) := by decide +kernel
theorem dL_isOffer_109 : decode cL_isOffer 109 = .ok (.if_icmp .le 8, 3) := by decide +kernel
theorem dL_isOffer_112 : decode cL_isOffer 112 = .ok (.bipush (-20), 2) := by decide +kernel
theorem dL_isOffer_114 : decode cL_isOffer 114 = .ok (.goto 5, 3) := by decide +kernel
theorem dL_isOffer_117 : decode cL_isOffer 117 = .ok (.bipush (-10), 2) := by decide +kernel
theorem dL_isOffer_119 : decode cL_isOffer 119 = .ok (.if_icmp .ne 7, 3) := by decide +kernel
theorem dL_isOffer_122 : decode cL_isOffer 122 = .ok (.iconst 1, 1) := by decide +kernel
theorem dL_isOffer_123 : decode cL_isOffer 123 = .ok (.goto 4, 3) := by decide +kernel
theorem dL_isOffer_126 : decode cL_isOffer 126 = .ok (.iconst 0, 1) := by decide +kernel
theorem dL_isOffer_127 : decode cL_isOffer 127 = .ok (.ireturn, 1) := by decide +kernel
theorem dL_isOffer_128 : decode cL_isOffer 128 = .ok (.aload_n 2, 1) := by decide +kernel
theorem dL_isOffer_129 : decode cL_isOffer 129 = .ok (.bipush 30, 2) := by decide +kernel
theorem dL_isOffer_131 : decode cL_isOffer 131 = .ok (.iload 4, 2) := by decide +kernel
theorem dL_isOffer_133 : decode cL_isOffer 133 = .ok (.iadd, 1) := by decide +kernel
theorem dL_isOffer_134 : decode cL_isOffer 134 = .ok (.iload 5, 2) := by decide +kernel
theorem dL_isOffer_136 : decode cL_isOffer 136 = .ok (.iastore, 1) := by decide +kernel
theorem dL_isOffer_137 : decode cL_isOffer 137 = .ok (.aload_n 1, 1) := by decide +kernel
theorem dL_isOffer_138 : decode cL_isOffer 138 = .ok (.iconst 2, 1) := by decide +kernel
theorem dL_isOffer_139 : decode cL_isOffer 139 = .ok (.iload 4, 2) := by decide +kernel
theorem dL_isOffer_141 : decode cL_isOffer 141 = .ok (.imul, 1) := by decide +kernel
theorem dL_isOffer_142 : decode cL_isOffer 142 = .ok (.iconst 1, 1) := by decide +kernel
theorem dL_isOffer_143 : decode cL_isOffer 143 = .ok (.iadd, 1) := by decide +kernel
theorem dL_isOffer_144 : decode cL_isOffer 144 = .ok (.iaload, 1) := by decide +kernel
theorem dL_isOffer_145 : decode cL_isOffer 145 = .ok (.aload_n 3, 1) := by decide +kernel
theorem dL_isOffer_146 : decode cL_isOffer 146 = .ok (.iconst 1, 1) := by decide +kernel
theorem dL_isOffer_147 : decode cL_isOffer 147 = .ok (.iaload, 1) := by decide +kernel
theorem dL_isOffer_148 : decode cL_isOffer 148 = .ok (.isub, 1) := by decide +kernel
theorem dL_isOffer_149 : decode cL_isOffer 149 = .ok (.i2l, 1) := by decide +kernel
theorem dL_isOffer_150 : decode cL_isOffer 150 = .ok (.lstore 8, 2) := by decide +kernel
theorem dL_isOffer_152 : decode cL_isOffer 152 = .ok (.aload_n 0, 1) := by decide +kernel
theorem dL_isOffer_153 : decode cL_isOffer 153 = .ok (.iload 4, 2) := by decide +kernel
theorem dL_isOffer_155 : decode cL_isOffer 155 = .ok (.invokevirtual 58, 3) := by decide +kernel
theorem dL_isOffer_158 : decode cL_isOffer 158 = .ok (.iload 7, 2) := by decide +kernel
theorem dL_isOffer_160 : decode cL_isOffer 160 = .ok (.isub, 1) := by decide +kernel
theorem dL_isOffer_161 : decode cL_isOffer 161 = .ok (.i2l, 1) := by decide +kernel
theorem dL_isOffer_162 : decode cL_isOffer 162 = .ok (.lstore 10, 2) := by decide +kernel
theorem dL_isOffer_164 : decode cL_isOffer 164 = .ok (.iload 7, 2) := by decide +kernel
theorem dL_isOffer_166 : decode cL_isOffer 166 = .ok (.ifCond .lt 57, 3) := by decide +kernel
theorem dL_isOffer_169 : decode cL_isOffer 169 = .ok (.lload 10, 2) := by decide +kernel
theorem dL_isOffer_171 : decode cL_isOffer 171 = .ok (.ldc2_w 111, 3) := by decide +kernel
theorem dL_isOffer_174 : decode cL_isOffer 174 = .ok (.lmul, 1) := by decide +kernel
theorem dL_isOffer_175 : decode cL_isOffer 175 = .ok (.aload_n 0, 1) := by decide +kernel
theorem dL_isOffer_176 : decode cL_isOffer 176 = .ok (.iload 4, 2) := by decide +kernel
theorem dL_isOffer_178 : decode cL_isOffer 178 = .ok (.invokevirtual 58, 3) := by decide +kernel
theorem dL_isOffer_181 : decode cL_isOffer 181 = .ok (.i2l, 1) := by decide +kernel
theorem dL_isOffer_182 : decode cL_isOffer 182 = .ok (.iload 5, 2) := by decide +kernel
theorem dL_isOffer_184 : decode cL_isOffer 184 = .ok (.i2l, 1) := by decide +kernel
theorem dL_isOffer_185 : decode cL_isOffer 185 = .ok (.lmul, 1) := by decide +kernel
theorem dL_isOffer_186 : decode cL_isOffer 186 = .ok (.lload 8, 2) := by decide +kernel
theorem dL_isOffer_188 : decode cL_isOffer 188 = .ok (.lmul, 1) := by decide +kernel
theorem dL_isOffer_189 : decode cL_isOffer 189 = .ok (.lcmp, 1) := by decide +kernel
theorem dL_isOffer_190 : decode cL_isOffer 190 = .ok (.ifCond .gt 33, 3) := by decide +kernel
theorem dL_isOffer_193 : decode cL_isOffer 193 = .ok (.lload 10, 2) := by decide +kernel
theorem dL_isOffer_195 : decode cL_isOffer 195 = .ok (.lconst 1, 1) := by decide +kernel
theorem dL_isOffer_196 : decode cL_isOffer 196 = .ok (.ladd, 1) := by decide +kernel
theorem dL_isOffer_197 : decode cL_isOffer 197 = .ok (.ldc2_w 111, 3) := by decide +kernel
theorem dL_isOffer_200 : decode cL_isOffer 200 = .ok (.lmul, 1) := by decide +kernel
theorem dL_isOffer_201 : decode cL_isOffer 201 = .ok (.aload_n 0, 1) := by decide +kernel
theorem dL_isOffer_202 : decode cL_isOffer 202 = .ok (.iload 4, 2) := by decide +kernel
theorem dL_isOffer_204 : decode cL_isOffer 204 = .ok (.invokevirtual 58, 3) := by decide +kernel
theorem dL_isOffer_207 : decode cL_isOffer 207 = .ok (.i2l, 1) := by decide +kernel
theorem dL_isOffer_208 : decode cL_isOffer 208 = .ok (.iload 5, 2) := by decide +kernel
theorem dL_isOffer_210 : decode cL_isOffer 210 = .ok (.i2l, 1) := by decide +kernel
theorem dL_isOffer_211 : decode cL_isOffer 211 = .ok (.lmul, 1) := by decide +kernel
theorem dL_isOffer_212 : decode cL_isOffer 212 = .ok (.lload 8, 2) := by decide +kernel
theorem dL_isOffer_214 : decode cL_isOffer 214 = .ok (.lmul, 1) := by decide +kernel
theorem dL_isOffer_215 : decode cL_isOffer 215 = .ok (.lcmp, 1) := by decide +kernel
theorem dL_isOffer_216 : decode cL_isOffer 216 = .ok (.ifCond .le 7, 3) := by decide +kernel
theorem dL_isOffer_219 : decode cL_isOffer 219 = .ok (.iconst 1, 1) := by decide +kernel
theorem dL_isOffer_220 : decode cL_isOffer 220 = .ok (.goto 4, 3) := by decide +kernel
theorem dL_isOffer_223 : decode cL_isOffer 223 = .ok (.iconst 0, 1) := by decide +kernel
theorem dL_isOffer_224 : decode cL_isOffer 224 = .ok (.ireturn, 1) := by decide +kernel
