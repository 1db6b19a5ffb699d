theorem goodIn_cons {big a : List Cond} {c : Cond} (i : Nat) (h : big[i]? = some c) (hg : goodWord c = true) (ha : GoodIn big a) : GoodIn big (c :: a) := fun w hw => (List.mem_cons.mp hw).elim (fun e => by rw [e]; exact ⟨List.mem_of_getElem? h, good_of_word hg⟩) (fun q => ha w q)
theorem goodIn_nil {big : List Cond} : GoodIn big [] := fun _ h => absurd h List.not_mem_nil

set_option maxRecDepth 20000 in
theorem ggL_isDone_isCleared_r1 : GoodIn wsL_isDone wsL_isCleared_r1 := goodIn_r _ [251, 252, 253, 254, 5, 255, 16, 18, 256, 257, 258, 22, 259, 142, 144, 145, 146, 147, 29, 30, 52, 148, 57, 58] (by decide +kernel) (by decide +kernel)
set_option maxRecDepth 20000 in
theorem ggL_isDone_isCleared_r2 : GoodIn wsL_isDone wsL_isCleared_r2 := goodIn_r _ [59, 60, 61, 62, 149, 150, 151, 152, 153, 154, 155, 156, 157, 158, 159, 160, 161, 162, 163, 164, 90, 226, 227, 228] (by decide +kernel) (by decide +kernel)
set_option maxRecDepth 20000 in
theorem ggL_isDone_isCleared_r3 : GoodIn wsL_isDone wsL_isCleared_r3 := goodIn_r _ [229, 169, 244, 245, 246, 247, 178, 260, 261, 262, 263, 179, 264, 265, 266, 267, 26, 27, 28, 268, 269, 270, 271, 272] (by decide +kernel) (by decide +kernel)
set_option maxRecDepth 20000 in
theorem ggL_isDone_isCleared_r4 : GoodIn wsL_isDone wsL_isCleared_r4 := goodIn_r _ [174, 56, 187, 273, 274, 275, 276, 88, 89, 277, 278, 279, 55, 280, 74, 83, 75, 281, 282, 283, 284, 285, 286, 287] (by decide +kernel) (by decide +kernel)
set_option maxRecDepth 20000 in
theorem ggL_isDone_isCleared_r5 : GoodIn wsL_isDone wsL_isCleared_r5 := goodIn_r _ [288, 289, 135, 136, 137, 290, 291, 292, 293, 95, 96, 97, 98, 99, 100, 101, 102, 103, 104, 105, 106, 107, 108, 109] (by decide +kernel) (by decide +kernel)
set_option maxRecDepth 20000 in
theorem ggL_isDone_isCleared_r6 : GoodIn wsL_isDone wsL_isCleared_r6 := goodIn_r _ [110, 111, 112, 113, 114, 115, 116, 117, 118, 119, 120, 121, 122, 123, 124, 125, 126, 127, 128, 129, 130, 131, 132, 133] (by decide +kernel) (by decide +kernel)
set_option maxRecDepth 20000 in
theorem ggL_isDone_isCleared_r7 : GoodIn wsL_isDone wsL_isCleared_r7 := goodIn_r _ [134, 294, 295, 296, 297, 25, 298, 175, 299, 300, 301, 302, 303, 304, 305, 306, 307, 40, 41, 42, 43, 44, 45, 46] (by decide +kernel) (by decide +kernel)
set_option maxRecDepth 20000 in
theorem ggL_isDone_isCleared_r8 : GoodIn wsL_isDone wsL_isCleared_r8 := goodIn_r _ [308, 309, 310, 311, 143, 205, 206, 207, 208, 82, 209, 210, 211, 212, 213, 312, 313, 314, 315, 316, 317, 318, 319, 320] (by decide +kernel) (by decide +kernel)
set_option maxRecDepth 20000 in
theorem ggL_isDone_isCleared_r9 : GoodIn wsL_isDone wsL_isCleared_r9 := goodIn_r _ [170, 171, 172, 173, 176, 177, 321, 322, 323, 324, 63, 64, 65, 66, 67, 325, 326, 327, 328, 329, 240, 241, 242, 243] (by decide +kernel) (by decide +kernel)
set_option maxRecDepth 20000 in
theorem ggL_isDone_isCleared_r10 : GoodIn wsL_isDone wsL_isCleared_r10 := goodIn_r _ [330, 331, 332, 13, 14, 15, 17, 19, 20, 21, 23, 24, 31, 32, 33, 34, 35, 36, 37, 38, 39, 47, 48, 49] (by decide +kernel) (by decide +kernel)
set_option maxRecDepth 20000 in
theorem ggL_isDone_isCleared_r11 : GoodIn wsL_isDone wsL_isCleared_r11 := goodIn_r _ [50, 51, 53, 54, 68, 69, 70, 71, 72, 73, 76, 77, 78, 79, 80, 81, 84, 85, 86, 87, 91, 92, 93, 94] (by decide +kernel) (by decide +kernel)
set_option maxRecDepth 20000 in
theorem ggL_isDone_isCleared_r12 : GoodIn wsL_isDone wsL_isCleared_r12 := goodIn_r _ [138, 139, 140, 141, 165, 166, 167, 168, 180, 181, 182, 183, 184, 185, 186, 188, 189, 190, 191, 192, 193, 194, 195, 196] (by decide +kernel) (by decide +kernel)
set_option maxRecDepth 20000 in
theorem ggL_isDone_isCleared_r13 : GoodIn wsL_isDone wsL_isCleared_r13 := goodIn_r _ [197, 198, 199, 200, 201, 202, 203, 204, 214, 215, 216, 217, 218, 219, 220, 221, 222, 223, 224, 225] (by decide +kernel) (by decide +kernel)
set_option maxRecDepth 20000 in
theorem ggL_isDone_L_isCleared : GoodIn wsL_isDone wsL_isCleared := goodIn_ca (goodIn_ca (goodIn_ca (goodIn_cons 250 rfl (by decide +kernel) (goodIn_app (goodIn_app (goodIn_app (goodIn_app ggL_isDone_isCleared_r1 (goodIn_app ggL_isDone_isCleared_r2 (goodIn_app ggL_isDone_isCleared_r3 (goodIn_app ggL_isDone_isCleared_r4 (goodIn_app ggL_isDone_isCleared_r5 (goodIn_app ggL_isDone_isCleared_r6 (goodIn_app ggL_isDone_isCleared_r7 (goodIn_app ggL_isDone_isCleared_r8 (goodIn_app ggL_isDone_isCleared_r9 (goodIn_app ggL_isDone_isCleared_r10 (goodIn_app ggL_isDone_isCleared_r11 (goodIn_app ggL_isDone_isCleared_r12 (ggL_isDone_isCleared_r13))))))))))))) (goodIn_r wsX00 [340, 341, 342, 343, 344, 345, 346, 347, 348, 349] (by decide +kernel) (by decide +kernel))) (goodIn_r wsX10 [333, 334, 335, 336, 337, 338, 339] (by decide +kernel) (by decide +kernel))) (goodIn_r wsJx4a65c0 [350, 351, 352] (by decide +kernel) (by decide +kernel)))) (goodIn_sub (fun _ h => List.mem_cons_of_mem _ (List.mem_append_left _ (List.mem_append_left _ (List.mem_append_right _ h)))) (by decide +kernel))) (goodIn_sub (fun _ h => List.mem_cons_of_mem _ (List.mem_append_right _ h)) (by decide +kernel))) (goodIn_sub (fun _ h => List.mem_cons_of_mem _ (List.mem_append_left _ (List.mem_append_right _ h))) (by decide +kernel))
set_option maxRecDepth 20000 in
theorem gL_isDone_L_isCleared : GoodIn wsL_isDone (va_wsS RL 135 yL_isCleared wsL_isCleared) := goodIn_app (goodIn_of _ (by decide +kernel)) ggL_isDone_L_isCleared
theorem dL_isDone_0 : decode cL_isDone 0 = .ok (.aload_n 1, 1) := by decide +kernel
theorem dL_isDone_1 : decode cL_isDone 1 = .ok (.iload_n 2, 1) := by decide +kernel
theorem dL_isDone_2 : decode cL_isDone 2 = .ok (.bipush 40, 2) := by decide +kernel
theorem dL_isDone_4 : decode cL_isDone 4 = .ok (.invokestatic 113, 3) := by decide +kernel
theorem dL_isDone_7 : decode cL_isDone 7 = .ok (.istore 10, 2) := by decide +kernel
theorem dL_isDone_9 : decode cL_isDone 9 = .ok (.aload_n 1, 1) := by decide +kernel
theorem dL_isDone_10 : decode cL_isDone 10 = .ok (.iload_n 2, 1) := by decide +kernel
theorem dL_isDone_11 : decode cL_isDone 11 = .ok (.iconst 1, 1) := by decide +kernel
theorem dL_isDone_12 : decode cL_isDone 12 = .ok (.iadd, 1) := by decide +kernel
theorem dL_isDone_13 : decode cL_isDone 13 = .ok (.sipush 6000, 3) := by decide +kernel
theorem dL_isDone_16 : decode cL_isDone 16 = .ok (.invokestatic 113, 3) := by decide +kernel
theorem dL_isDone_19 : decode cL_isDone 19 = .ok (.istore 11, 2) := by decide +kernel
theorem dL_isDone_21 : decode cL_isDone 21 = .ok (.aload_n 1, 1) := by decide +kernel
theorem dL_isDone_22 : decode cL_isDone 22 = .ok (.iload_n 2, 1) := by decide +kernel
theorem dL_isDone_23 : decode cL_isDone 23 = .ok (.iconst 2, 1) := by decide +kernel
theorem dL_isDone_24 : decode cL_isDone 24 = .ok (.iadd, 1) := by decide +kernel
theorem dL_isDone_25 : decode cL_isDone 25 = .ok (.sipush 7000, 3) := by decide +kernel
theorem dL_isDone_28 : decode cL_isDone 28 = .ok (.invokestatic 113, 3) := by decide +kernel
theorem dL_isDone_31 : decode cL_isDone 31 = .ok (.istore 12, 2) := by decide +kernel
theorem dL_isDone_33 : decode cL_isDone 33 = .ok (.aload_n 1, 1) := by decide +kernel
theorem dL_isDone_34 : decode cL_isDone 34 = .ok (.iload_n 2, 1) := by decide +kernel
theorem dL_isDone_35 : decode cL_isDone 35 = .ok (.iconst 3, 1) := by decide +kernel
theorem dL_isDone_36 : decode cL_isDone 36 = .ok (.iadd, 1) := by decide +kernel
theorem dL_isDone_37 : decode cL_isDone 37 = .ok (.sipush 8000, 3) := by decide +kernel
theorem dL_isDone_40 : decode cL_isDone 40 = .ok (.invokestatic 113, 3) := by decide +kernel
theorem dL_isDone_43 : decode cL_isDone 43 = .ok (.istore 13, 2) := by decide +kernel
theorem dL_isDone_45 : decode cL_isDone 45 = .ok (.iload 10, 2) := by decide +kernel
theorem dL_isDone_47 : decode cL_isDone 47 = .ok (.bipush 10, 2) := by decide +kernel
theorem dL_isDone_49 : decode cL_isDone 49 = .ok (.if_icmp .ge 21, 3) := by decide +kernel
theorem dL_isDone_52 : decode cL_isDone 52 = .ok (.aload_n 0, 1) := by decide +kernel
theorem dL_isDone_53 : decode cL_isDone 53 = .ok (.aload_n 3, 1) := by decide +kernel
theorem dL_isDone_54 : decode cL_isDone 54 = .ok (.aload 4, 2) := by decide +kernel
theorem dL_isDone_56 : decode cL_isDone 56 = .ok (.aload 5, 2) := by decide +kernel
theorem dL_isDone_58 : decode cL_isDone 58 = .ok (.aload 9, 2) := by decide +kernel
theorem dL_isDone_60 : decode cL_isDone 60 = .ok (.iload 11, 2) := by decide +kernel
theorem dL_isDone_62 : decode cL_isDone 62 = .ok (.iload 12, 2) := by decide +kernel
theorem dL_isDone_64 : decode cL_isDone 64 = .ok (.iload 13, 2) := by decide +kernel
theorem dL_isDone_66 : decode cL_isDone 66 = .ok (.invokestatic 117, 3) := by decide +kernel
theorem dL_isDone_69 : decode cL_isDone 69 = .ok (.ireturn, 1) := by decide +kernel
theorem dL_isDone_70 : decode cL_isDone 70 = .ok (.iload 10, 2) := by decide +kernel
theorem dL_isDone_72 : decode cL_isDone 72 = .ok (.bipush 17, 2) := by decide +kernel
theorem dL_isDone_74 : decode cL_isDone 74 = .ok (.if_icmp .ge 34, 3) := by decide +kernel
theorem dL_isDone_77 : decode cL_isDone 77 = .ok (.aload_n 0, 1) := by decide +kernel
theorem dL_isDone_78 : decode cL_isDone 78 = .ok (.aload_n 3, 1) := by decide +kernel
theorem dL_isDone_79 : decode cL_isDone 79 = .ok (.aload 4, 2) := by decide +kernel
theorem dL_isDone_81 : decode cL_isDone 81 = .ok (.aload 9, 2) := by decide +kernel
theorem dL_isDone_83 : decode cL_isDone 83 = .ok (.iload 11, 2) := by decide +kernel
theorem dL_isDone_85 : decode cL_isDone 85 = .ok (.aload 9, 2) := by decide +kernel
theorem dL_isDone_87 : decode cL_isDone 87 = .ok (.iconst 0, 1) := by decide +kernel
theorem dL_isDone_88 : decode cL_isDone 88 = .ok (.iaload, 1) := by decide +kernel
theorem dL_isDone_89 : decode cL_isDone 89 = .ok (.iconst 1, 1) := by decide +kernel
theorem dL_isDone_90 : decode cL_isDone 90 = .ok (.iadd, 1) := by decide +kernel
theorem dL_isDone_91 : decode cL_isDone 91 = .ok (.irem, 1) := by decide +kernel
theorem dL_isDone_92 : decode cL_isDone 92 = .ok (.iload 10, 2) := by decide +kernel
theorem dL_isDone_94 : decode cL_isDone 94 = .ok (.bipush 16, 2) := by decide +kernel
theorem dL_isDone_96 : decode cL_isDone 96 = .ok (.if_icmp .ne 7, 3) := by decide +kernel
theorem dL_isDone_99 : decode cL_isDone 99 = .ok (.iconst 1, 1) := by decide +kernel
theorem dL_isDone_100 : decode cL_isDone 100 = .ok (.goto 4, 3) := by decide +kernel
theorem dL_isDone_103 : decode cL_isDone 103 = .ok (.iconst 0, 1) := by decide +kernel
theorem dL_isDone_104 : decode cL_isDone 104 = .ok (.invokestatic 121, 3) := by decide +kernel
theorem dL_isDone_107 : decode cL_isDone 107 = .ok (.ireturn, 1) := by decide +kernel
theorem dL_isDone_108 : decode cL_isDone 108 = .ok (.iload 10, 2) := by decide +kernel
theorem dL_isDone_110 : decode cL_isDone 110 = .ok (.bipush 25, 2) := by decide +kernel
theorem dL_isDone_112 : decode cL_isDone 112 = .ok (.if_icmp .ge 28, 3) := by decide +kernel
theorem dL_isDone_115 : decode cL_isDone 115 = .ok (.aload_n 0, 1) := by decide +kernel
theorem dL_isDone_116 : decode cL_isDone 116 = .ok (.aload_n 3, 1) := by decide +kernel
theorem dL_isDone_117 : decode cL_isDone 117 = .ok (.aload 4, 2) := by decide +kernel
theorem dL_isDone_119 : decode cL_isDone 119 = .ok (.aload 9, 2) := by decide +kernel
theorem dL_isDone_121 : decode cL_isDone 121 = .ok (.iload 11, 2) := by decide +kernel
theorem dL_isDone_123 : decode cL_isDone 123 = .ok (.aload 9, 2) := by decide +kernel
theorem dL_isDone_125 : decode cL_isDone 125 = .ok (.iconst 0, 1) := by decide +kernel
theorem dL_isDone_126 : decode cL_isDone 126 = .ok (.iaload, 1) := by decide +kernel
theorem dL_isDone_127 : decode cL_isDone 127 = .ok (.iconst 1, 1) := by decide +kernel
theorem dL_isDone_128 : decode cL_isDone 128 = .ok (.iadd, 1) := by decide +kernel
theorem dL_isDone_129 : decode cL_isDone 129 = .ok (.irem, 1) := by decide +kernel
theorem dL_isDone_130 : decode cL_isDone 130 = .ok (.iload 12, 2) := by decide +kernel
theorem dL_isDone_132 : decode cL_isDone 132 = .ok (.sipush 5003, 3) := by decide +kernel
theorem dL_isDone_135 : decode cL_isDone 135 = .ok (.irem, 1) := by decide +kernel
theorem dL_isDone_136 : decode cL_isDone 136 = .ok (.invokestatic 125, 3) := by decide +kernel
theorem dL_isDone_139 : decode cL_isDone 139 = .ok (.ireturn, 1) := by decide +kernel
theorem dL_isDone_140 : decode cL_isDone 140 = .ok (.iload 10, 2) := by decide +kernel
theorem dL_isDone_142 : decode cL_isDone 142 = .ok (.bipush 25, 2) := by decide +kernel
theorem dL_isDone_144 : decode cL_isDone 144 = .ok (.if_icmp .ne 99, 3) := by decide +kernel
theorem dL_isDone_147 : decode cL_isDone 147 = .ok (.iload 11, 2) := by decide +kernel
theorem dL_isDone_149 : decode cL_isDone 149 = .ok (.aload 9, 2) := by decide +kernel
theorem dL_isDone_151 : decode cL_isDone 151 = .ok (.iconst 0, 1) := by decide +kernel
theorem dL_isDone_152 : decode cL_isDone 152 = .ok (.iaload, 1) := by decide +kernel
theorem dL_isDone_153 : decode cL_isDone 153 = .ok (.iconst 1, 1) := by decide +kernel
theorem dL_isDone_154 : decode cL_isDone 154 = .ok (.iadd, 1) := by decide +kernel
theorem dL_isDone_155 : decode cL_isDone 155 = .ok (.irem, 1) := by decide +kernel
theorem dL_isDone_156 : decode cL_isDone 156 = .ok (.istore 14, 2) := by decide +kernel
theorem dL_isDone_158 : decode cL_isDone 158 = .ok (.iload 14, 2) := by decide +kernel
theorem dL_isDone_160 : decode cL_isDone 160 = .ok (.aload 9, 2) := by decide +kernel
theorem dL_isDone_162 : decode cL_isDone 162 = .ok (.iconst 0, 1) := by decide +kernel
theorem dL_isDone_163 : decode cL_isDone 163 = .ok (.iaload, 1) := by decide +kernel
theorem dL_isDone_164 : decode cL_isDone 164 = .ok (.if_icmp .ne 8, 3) := by decide +kernel
theorem dL_isDone_167 : decode cL_isDone 167 = .ok (.bipush (-30), 2) := by decide +kernel
theorem dL_isDone_169 : decode cL_isDone 169 = .ok (.goto 36, 3) := by decide +kernel
theorem dL_isDone_172 : decode cL_isDone 172 = .ok (.aload 4, 2) := by decide +kernel
theorem dL_isDone_174 : decode cL_isDone 174 = .ok (.iload 14, 2) := by decide +kernel
theorem dL_isDone_176 : decode cL_isDone 176 = .ok (.iaload, 1) := by decide +kernel
theorem dL_isDone_177 : decode cL_isDone 177 = .ok (.iconst 2, 1) := by decide +kernel
theorem dL_isDone_178 : decode cL_isDone 178 = .ok (.if_icmp .gt 14, 3) := by decide +kernel
theorem dL_isDone_181 : decode cL_isDone 181 = .ok (.aload 4, 2) := by decide +kernel
theorem dL_isDone_183 : decode cL_isDone 183 = .ok (.bipush 30, 2) := by decide +kernel
theorem dL_isDone_185 : decode cL_isDone 185 = .ok (.iload 14, 2) := by decide +kernel
theorem dL_isDone_187 : decode cL_isDone 187 = .ok (.iadd, 1) := by decide +kernel
theorem dL_isDone_188 : decode cL_isDone 188 = .ok (.iaload, 1) := by decide +kernel
theorem dL_isDone_189 : decode cL_isDone 189 = .ok (.ifCond .ge 8, 3) := by decide +kernel
theorem dL_isDone_192 : decode cL_isDone 192 = .ok (.bipush (-10), 2) := by decide +kernel
theorem dL_isDone_194 : decode cL_isDone 194 = .ok (.goto 11, 3) := by decide +kernel
theorem dL_isDone_197 : decode cL_isDone 197 = .ok (.aload 4, 2) := by decide +kernel
theorem dL_isDone_199 : decode cL_isDone 199 = .ok (.bipush 30, 2) := by decide +kernel
theorem dL_isDone_201 : decode cL_isDone 201 = .ok (.iload 14, 2) := by decide +kernel
theorem dL_isDone_203 : decode cL_isDone 203 = .ok (.iadd, 1) := by decide +kernel
theorem dL_isDone_204 : decode cL_isDone 204 = .ok (.iaload, 1) := by decide +kernel
theorem dL_isDone_205 : decode cL_isDone 205 = .ok (.istore 15, 2) := by decide +kernel
theorem dL_isDone_207 : decode cL_isDone 207 = .ok (.iload 15, 2) := by decide +kernel
theorem dL_isDone_209 : decode cL_isDone 209 = .ok (.ifCond .lt 12, 3) := by decide +kernel
theorem dL_isDone_212 : decode cL_isDone 212 = .ok (.aload 4, 2) := by decide +kernel
theorem dL_isDone_214 : decode cL_isDone 214 = .ok (.bipush 30, 2) := by decide +kernel
theorem dL_isDone_216 : decode cL_isDone 216 = .ok (.iload 14, 2) := by decide +kernel
theorem dL_isDone_218 : decode cL_isDone 218 = .ok (.iadd, 1) := by decide +kernel
theorem dL_isDone_219 : decode cL_isDone 219 = .ok (.iconst (-1), 1) := by decide +kernel
theorem dL_isDone_220 : decode cL_isDone 220 = .ok (.iastore, 1) := by decide +kernel
theorem dL_isDone_221 : decode cL_isDone 221 = .ok (.aload_n 0, 1) := by decide +kernel
theorem dL_isDone_222 : decode cL_isDone 222 = .ok (.bipush 7, 2) := by decide +kernel
theorem dL_isDone_224 : decode cL_isDone 224 = .ok (.iload 14, 2) := by decide +kernel
theorem dL_isDone_226 : decode cL_isDone 226 = .ok (.iconst 0, 1) := by decide +kernel
theorem dL_isDone_227 : decode cL_isDone 227 = .ok (.iconst 0, 1) := by decide +kernel
theorem dL_isDone_228 : decode cL_isDone 228 = .ok (.iconst 0, 1) := by decide +kernel
theorem dL_isDone_229 : decode cL_isDone 229 = .ok (.invokestatic 106, 3) := by decide +kernel
theorem dL_isDone_232 : decode cL_isDone 232 = .ok (.iload 15, 2) := by decide +kernel
theorem dL_isDone_234 : decode cL_isDone 234 = .ok (.if_icmp .ne 7, 3) := by decide +kernel
theorem dL_isDone_237 : decode cL_isDone 237 = .ok (.iconst 1, 1) := by decide +kernel
theorem dL_isDone_238 : decode cL_isDone 238 = .ok (.goto 4, 3) := by decide +kernel
theorem dL_isDone_241 : decode cL_isDone 241 = .ok (.iconst 0, 1) := by decide +kernel
theorem dL_isDone_242 : decode cL_isDone 242 = .ok (.ireturn, 1) := by decide +kernel
theorem dL_isDone_243 : decode cL_isDone 243 = .ok (.iload 10, 2) := by decide +kernel
theorem dL_isDone_245 : decode cL_isDone 245 = .ok (.bipush 29, 2) := by decide +kernel
theorem dL_isDone_247 : decode cL_isDone 247 = .ok (.if_icmp .ge 28, 3) := by decide +kernel
theorem dL_isDone_250 : decode cL_isDone 250 = .ok (.aload_n 0, 1) := by decide +kernel
theorem dL_isDone_251 : decode cL_isDone 251 = .ok (.aload_n 3, 1) := by decide +kernel
theorem dL_isDone_252 : decode cL_isDone 252 = .ok (.aload 4, 2) := by decide +kernel
theorem dL_isDone_254 : decode cL_isDone 254 = .ok (.aload 5, 2) := by decide +kernel
theorem dL_isDone_256 : decode cL_isDone 256 = .ok (.aload 6, 2) := by decide +kernel
theorem dL_isDone_258 : decode cL_isDone 258 = .ok (.aload 9, 2) := by decide +kernel
theorem dL_isDone_260 : decode cL_isDone 260 = .ok (.iload 11, 2) := by decide +kernel
theorem dL_isDone_262 : decode cL_isDone 262 = .ok (.aload 9, 2) := by decide +kernel
theorem dL_isDone_264 : decode cL_isDone 264 = .ok (.iconst 0, 1) := by decide +kernel
theorem dL_isDone_265 : decode cL_isDone 265 = .ok (.iaload, 1) := by decide +kernel
theorem dL_isDone_266 : decode cL_isDone 266 = .ok (.iconst 1, 1) := by decide +kernel
theorem dL_isDone_267 : decode cL_isDone 267 = .ok (.iadd, 1) := by decide +kernel
theorem dL_isDone_268 : decode cL_isDone 268 = .ok (.irem, 1) := by decide +kernel
theorem dL_isDone_269 : decode cL_isDone 269 = .ok (.iload 12, 2) := by decide +kernel
theorem dL_isDone_271 : decode cL_isDone 271 = .ok (.invokestatic 129, 3) := by decide +kernel
theorem dL_isDone_274 : decode cL_isDone 274 = .ok (.ireturn, 1) := by decide +kernel
theorem dL_isDone_275 : decode cL_isDone 275 = .ok (.iload 10, 2) := by decide +kernel
theorem dL_isDone_277 : decode cL_isDone 277 = .ok (.bipush 32, 2) := by decide +kernel
theorem dL_isDone_279 : decode cL_isDone 279 = .ok (.if_icmp .ge 94, 3) := by decide +kernel
theorem dL_isDone_282 : decode cL_isDone 282 = .ok (.iload 11, 2) := by decide +kernel
theorem dL_isDone_284 : decode cL_isDone 284 = .ok (.iconst 5, 1) := by decide +kernel
theorem dL_isDone_285 : decode cL_isDone 285 = .ok (.irem, 1) := by decide +kernel
theorem dL_isDone_286 : decode cL_isDone 286 = .ok (.istore 14, 2) := by decide +kernel
theorem dL_isDone_288 : decode cL_isDone 288 = .ok (.iload 12, 2) := by decide +kernel
theorem dL_isDone_290 : decode cL_isDone 290 = .ok (.bipush 30, 2) := by decide +kernel
theorem dL_isDone_292 : decode cL_isDone 292 = .ok (.irem, 1) := by decide +kernel
theorem dL_isDone_293 : decode cL_isDone 293 = .ok (.ifCond .ne 8, 3) := by decide +kernel
theorem dL_isDone_296 : decode cL_isDone 296 = .ok (.ldc 133, 2) := by decide +kernel
theorem dL_isDone_298 : decode cL_isDone 298 = .ok (.goto 9, 3) := by decide +kernel
theorem dL_isDone_301 : decode cL_isDone 301 = .ok (.iload 12, 2) := by decide +kernel
theorem dL_isDone_303 : decode cL_isDone 303 = .ok (.sipush 700, 3) := by decide +kernel
theorem dL_isDone_306 : decode cL_isDone 306 = .ok (.imul, 1) := by decide +kernel
theorem dL_isDone_307 : decode cL_isDone 307 = .ok (.istore 15, 2) := by decide +kernel
theorem dL_isDone_309 : decode cL_isDone 309 = .ok (.iload 14, 2) := by decide +kernel
theorem dL_isDone_311 : decode cL_isDone 311 = .ok (.iconst 4, 1) := by decide +kernel
theorem dL_isDone_312 : decode cL_isDone 312 = .ok (.if_icmp .ne 8, 3) := by decide +kernel
theorem dL_isDone_315 : decode cL_isDone 315 = .ok (.bipush (-30), 2) := by decide +kernel
theorem dL_isDone_317 : decode cL_isDone 317 = .ok (.goto 20, 3) := by decide +kernel
theorem dL_isDone_320 : decode cL_isDone 320 = .ok (.iload 15, 2) := by decide +kernel
theorem dL_isDone_322 : decode cL_isDone 322 = .ok (.ldc 134, 2) := by decide +kernel
theorem dL_isDone_324 : decode cL_isDone 324 = .ok (.if_icmp .le 8, 3) := by decide +kernel
theorem dL_isDone_327 : decode cL_isDone 327 = .ok (.bipush (-20), 2) := by decide +kernel
theorem dL_isDone_329 : decode cL_isDone 329 = .ok (.goto 8, 3) := by decide +kernel
theorem dL_isDone_332 : decode cL_isDone 332 = .ok (.aload 8, 2) := by decide +kernel
theorem dL_isDone_334 : decode cL_isDone 334 = .ok (.iload 14, 2) := by decide +kernel
theorem dL_isDone_336 : decode cL_isDone 336 = .ok (.iaload, 1) := by decide +kernel
theorem dL_isDone_337 : decode cL_isDone 337 = .ok (.istore 16, 2) := by decide +kernel
theorem dL_isDone_339 : decode cL_isDone 339 = .ok (.iload 16, 2) := by decide +kernel
theorem dL_isDone_341 : decode cL_isDone 341 = .ok (.ifCond .lt 10, 3) := by decide +kernel
theorem dL_isDone_344 : decode cL_isDone 344 = .ok (.aload 8, 2) := by decide +kernel
theorem dL_isDone_346 : decode cL_isDone 346 = .ok (.iload 14, 2) := by decide +kernel
theorem dL_isDone_348 : decode cL_isDone 348 = .ok (.iload 15, 2) := by decide +kernel
theorem dL_isDone_350 : decode cL_isDone 350 = .ok (.iastore, 1) := by decide +kernel
theorem dL_isDone_351 : decode cL_isDone 351 = .ok (.aload_n 0, 1) := by decide +kernel
theorem dL_isDone_352 : decode cL_isDone 352 = .ok (.iconst 0, 1) := by decide +kernel
theorem dL_isDone_353 : decode cL_isDone 353 = .ok (.iload 14, 2) := by decide +kernel
theorem dL_isDone_355 : decode cL_isDone 355 = .ok (.iload 15, 2) := by decide +kernel
theorem dL_isDone_357 : decode cL_isDone 357 = .ok (.iconst 0, 1) := by decide +kernel
theorem dL_isDone_358 : decode cL_isDone 358 = .ok (.iconst 0, 1) := by decide +kernel
theorem dL_isDone_359 : decode cL_isDone 359 = .ok (.invokestatic 106, 3) := by decide +kernel
theorem dL_isDone_362 : decode cL_isDone 362 = .ok (.iload 16, 2) := by decide +kernel
theorem dL_isDone_364 : decode cL_isDone 364 = .ok (.if_icmp .ne 7, 3) := by decide +kernel
theorem dL_isDone_367 : decode cL_isDone 367 = .ok (.iconst 1, 1) := by decide +kernel
theorem dL_isDone_368 : decode cL_isDone 368 = .ok (.goto 4, 3) := by decide +kernel
theorem dL_isDone_371 : decode cL_isDone 371 = .ok (.iconst 0, 1) := by decide +kernel
theorem dL_isDone_372 : decode cL_isDone 372 = .ok (.ireturn, 1) := by decide +kernel
theorem dL_isDone_373 : decode cL_isDone 373 = .ok (.iload 10, 2) := by decide +kernel
theorem dL_isDone_375 : decode cL_isDone 375 = .ok (.bipush 32, 2) := by decide +kernel
theorem dL_isDone_377 : decode cL_isDone 377 = .ok (.if_icmp .ne 87, 3) := by decide +kernel
theorem dL_isDone_380 : decode cL_isDone 380 = .ok (.iload 11, 2) := by decide +kernel
theorem dL_isDone_382 : decode cL_isDone 382 = .ok (.bipush 32, 2) := by decide +kernel
theorem dL_isDone_384 : decode cL_isDone 384 = .ok (.irem, 1) := by decide +kernel
theorem dL_isDone_385 : decode cL_isDone 385 = .ok (.istore 14, 2) := by decide +kernel
theorem dL_isDone_387 : decode cL_isDone 387 = .ok (.aload 7, 2) := by decide +kernel
theorem dL_isDone_389 : decode cL_isDone 389 = .ok (.iload 14, 2) := by decide +kernel
theorem dL_isDone_391 : decode cL_isDone 391 = .ok (.iaload, 1) := by decide +kernel
theorem dL_isDone_392 : decode cL_isDone 392 = .ok (.istore 15, 2) := by decide +kernel
theorem dL_isDone_394 : decode cL_isDone 394 = .ok (.aload 7, 2) := by decide +kernel
theorem dL_isDone_396 : decode cL_isDone 396 = .ok (.iload 14, 2) := by decide +kernel
theorem dL_isDone_398 : decode cL_isDone 398 = .ok (.iload 12, 2) := by decide +kernel
theorem dL_isDone_400 : decode cL_isDone 400 = .ok (.bipush 60, 2) := by decide +kernel
theorem dL_isDone_402 : decode cL_isDone 402 = .ok (.imul, 1) := by decide +kernel
theorem dL_isDone_403 : decode cL_isDone 403 = .ok (.iastore, 1) := by decide +kernel
theorem dL_isDone_404 : decode cL_isDone 404 = .ok (.aload_n 0, 1) := by decide +kernel
theorem dL_isDone_405 : decode cL_isDone 405 = .ok (.iconst 1, 1) := by decide +kernel
theorem dL_isDone_406 : decode cL_isDone 406 = .ok (.iload 14, 2) := by decide +kernel
theorem dL_isDone_408 : decode cL_isDone 408 = .ok (.bipush 8, 2) := by decide +kernel
theorem dL_isDone_410 : decode cL_isDone 410 = .ok (.idiv, 1) := by decide +kernel
theorem dL_isDone_411 : decode cL_isDone 411 = .ok (.iload 14, 2) := by decide +kernel
theorem dL_isDone_413 : decode cL_isDone 413 = .ok (.bipush 8, 2) := by decide +kernel
theorem dL_isDone_415 : decode cL_isDone 415 = .ok (.irem, 1) := by decide +kernel
theorem dL_isDone_416 : decode cL_isDone 416 = .ok (.iload 12, 2) := by decide +kernel
theorem dL_isDone_418 : decode cL_isDone 418 = .ok (.bipush 60, 2) := by decide +kernel
theorem dL_isDone_420 : decode cL_isDone 420 = .ok (.imul, 1) := by decide +kernel
theorem dL_isDone_421 : decode cL_isDone 421 = .ok (.iconst 0, 1) := by decide +kernel
theorem dL_isDone_422 : decode cL_isDone 422 = .ok (.invokestatic 106, 3) := by decide +kernel
theorem dL_isDone_425 : decode cL_isDone 425 = .ok (.iload 15, 2) := by decide +kernel
theorem dL_isDone_427 : decode cL_isDone 427 = .ok (.if_icmp .ne 35, 3) := by decide +kernel
theorem dL_isDone_430 : decode cL_isDone 430 = .ok (.aload_n 0, 1) := by decide +kernel
theorem dL_isDone_431 : decode cL_isDone 431 = .ok (.iconst 1, 1) := by decide +kernel
theorem dL_isDone_432 : decode cL_isDone 432 = .ok (.iconst 0, 1) := by decide +kernel
theorem dL_isDone_433 : decode cL_isDone 433 = .ok (.iconst 0, 1) := by decide +kernel
theorem dL_isDone_434 : decode cL_isDone 434 = .ok (.iconst (-1), 1) := by decide +kernel
theorem dL_isDone_435 : decode cL_isDone 435 = .ok (.iconst 0, 1) := by decide +kernel
theorem dL_isDone_436 : decode cL_isDone 436 = .ok (.invokestatic 106, 3) := by decide +kernel
theorem dL_isDone_439 : decode cL_isDone 439 = .ok (.bipush (-20), 2) := by decide +kernel
theorem dL_isDone_441 : decode cL_isDone 441 = .ok (.if_icmp .ne 21, 3) := by decide +kernel
theorem dL_isDone_444 : decode cL_isDone 444 = .ok (.aload_n 0, 1) := by decide +kernel
theorem dL_isDone_445 : decode cL_isDone 445 = .ok (.iconst 1, 1) := by decide +kernel
theorem dL_isDone_446 : decode cL_isDone 446 = .ok (.iconst 4, 1) := by decide +kernel
theorem dL_isDone_447 : decode cL_isDone 447 = .ok (.iconst 0, 1) := by decide +kernel
theorem dL_isDone_448 : decode cL_isDone 448 = .ok (.iconst (-1), 1) := by decide +kernel
theorem dL_isDone_449 : decode cL_isDone 449 = .ok (.iconst 0, 1) := by decide +kernel
theorem dL_isDone_450 : decode cL_isDone 450 = .ok (.invokestatic 106, 3) := by decide +kernel
theorem dL_isDone_453 : decode cL_isDone 453 = .ok (.bipush (-30), 2) := by decide +kernel
theorem dL_isDone_455 : decode cL_isDone 455 = .ok (.if_icmp .ne 7, 3) := by decide +kernel
theorem dL_isDone_458 : decode cL_isDone 458 = .ok (.iconst 1, 1) := by decide +kernel
theorem dL_isDone_459 : decode cL_isDone 459 = .ok (.goto 4, 3) := by decide +kernel
theorem dL_isDone_462 : decode cL_isDone 462 = .ok (.iconst 0, 1) := by decide +kernel
theorem dL_isDone_463 : decode cL_isDone 463 = .ok (.ireturn, 1) := by decide +kernel
theorem dL_isDone_464 : decode cL_isDone 464 = .ok (.iload 10, 2) := by decide +kernel
theorem dL_isDone_466 : decode cL_isDone 466 = .ok (.bipush 37, 2) := by decide +kernel
theorem dL_isDone_468 : decode cL_isDone 468 = .ok (.if_icmp .ge 19, 3) := by decide +kernel
theorem dL_isDone_471 : decode cL_isDone 471 = .ok (.aload_n 0, 1) := by decide +kernel
theorem dL_isDone_472 : decode cL_isDone 472 = .ok (.aload_n 3, 1) := by decide +kernel
theorem dL_isDone_473 : decode cL_isDone 473 = .ok (.aload 4, 2) := by decide +kernel
theorem dL_isDone_475 : decode cL_isDone 475 = .ok (.aload 8, 2) := by decide +kernel
theorem dL_isDone_477 : decode cL_isDone 477 = .ok (.aload 9, 2) := by decide +kernel
theorem dL_isDone_479 : decode cL_isDone 479 = .ok (.iload 11, 2) := by decide +kernel
theorem dL_isDone_481 : decode cL_isDone 481 = .ok (.iconst 5, 1) := by decide +kernel
theorem dL_isDone_482 : decode cL_isDone 482 = .ok (.irem, 1) := by decide +kernel
theorem dL_isDone_483 : decode cL_isDone 483 = .ok (.invokestatic 135, 3) := by decide +kernel
theorem dL_isDone_486 : decode cL_isDone 486 = .ok (.ireturn, 1) := by decide +kernel
theorem dL_isDone_487 : decode cL_isDone 487 = .ok (.iload 12, 2) := by decide +kernel
theorem dL_isDone_489 : decode cL_isDone 489 = .ok (.bipush 9, 2) := by decide +kernel
theorem dL_isDone_491 : decode cL_isDone 491 = .ok (.irem, 1) := by decide +kernel
theorem dL_isDone_492 : decode cL_isDone 492 = .ok (.ifCond .ne 9, 3) := by decide +kernel
theorem dL_isDone_495 : decode cL_isDone 495 = .ok (.sipush 401, 3) := by decide +kernel
theorem dL_isDone_498 : decode cL_isDone 498 = .ok (.goto 10, 3) := by decide +kernel
theorem dL_isDone_501 : decode cL_isDone 501 = .ok (.iconst 1, 1) := by decide +kernel
theorem dL_isDone_502 : decode cL_isDone 502 = .ok (.iload 12, 2) := by decide +kernel
theorem dL_isDone_504 : decode cL_isDone 504 = .ok (.bipush 40, 2) := by decide +kernel
theorem dL_isDone_506 : decode cL_isDone 506 = .ok (.irem, 1) := by decide +kernel
theorem dL_isDone_507 : decode cL_isDone 507 = .ok (.iadd, 1) := by decide +kernel
theorem dL_isDone_508 : decode cL_isDone 508 = .ok (.istore 14, 2) := by decide +kernel
theorem dL_isDone_510 : decode cL_isDone 510 = .ok (.iconst 0, 1) := by decide +kernel
theorem dL_isDone_511 : decode cL_isDone 511 = .ok (.istore 15, 2) := by decide +kernel
theorem dL_isDone_513 : decode cL_isDone 513 = .ok (.iconst 0, 1) := by decide +kernel
theorem dL_isDone_514 : decode cL_isDone 514 = .ok (.istore 16, 2) := by decide +kernel
theorem dL_isDone_516 : decode cL_isDone 516 = .ok (.iload 16, 2) := by decide +kernel
theorem dL_isDone_518 : decode cL_isDone 518 = .ok (.aload 9, 2) := by decide +kernel
theorem dL_isDone_520 : decode cL_isDone 520 = .ok (.iconst 0, 1) := by decide +kernel
theorem dL_isDone_521 : decode cL_isDone 521 = .ok (.iaload, 1) := by decide +kernel
theorem dL_isDone_522 : decode cL_isDone 522 = .ok (.if_icmp .ge 53, 3) := by decide +kernel
theorem dL_isDone_525 : decode cL_isDone 525 = .ok (.iload 14, 2) := by decide +kernel
theorem dL_isDone_527 : decode cL_isDone 527 = .ok (.sipush 401, 3) := by decide +kernel
theorem dL_isDone_530 : decode cL_isDone 530 = .ok (.if_icmp .ge 45, 3) := by decide +kernel
theorem dL_isDone_533 : decode cL_isDone 533 = .ok (.aload 4, 2) := by decide +kernel
theorem dL_isDone_535 : decode cL_isDone 535 = .ok (.iload 16, 2) := by decide +kernel
theorem dL_isDone_537 : decode cL_isDone 537 = .ok (.iaload, 1) := by decide +kernel
theorem dL_isDone_538 : decode cL_isDone 538 = .ok (.iconst 1, 1) := by decide +kernel
theorem dL_isDone_539 : decode cL_isDone 539 = .ok (.if_icmp .ne 30, 3) := by decide +kernel
theorem dL_isDone_542 : decode cL_isDone 542 = .ok (.aload_n 3, 1) := by decide +kernel
theorem dL_isDone_543 : decode cL_isDone 543 = .ok (.iconst 2, 1) := by decide +kernel
theorem dL_isDone_544 : decode cL_isDone 544 = .ok (.iload 16, 2) := by decide +kernel
theorem dL_isDone_546 : decode cL_isDone 546 = .ok (.imul, 1) := by decide +kernel
theorem dL_isDone_547 : decode cL_isDone 547 = .ok (.iconst 1, 1) := by decide +kernel
theorem dL_isDone_548 : decode cL_isDone 548 = .ok (.iadd, 1) := by decide +kernel
theorem dL_isDone_549 : decode cL_isDone 549 = .ok (.iaload, 1) := by decide +kernel
theorem dL_isDone_550 : decode cL_isDone 550 = .ok (.aload 9, 2) := by decide +kernel
theorem dL_isDone_552 : decode cL_isDone 552 = .ok (.iconst 1, 1) := by decide +kernel
theorem dL_isDone_553 : decode cL_isDone 553 = .ok (.iaload, 1) := by decide +kernel
theorem dL_isDone_554 : decode cL_isDone 554 = .ok (.iload 14, 2) := by decide +kernel
theorem dL_isDone_556 : decode cL_isDone 556 = .ok (.iadd, 1) := by decide +kernel
theorem dL_isDone_557 : decode cL_isDone 557 = .ok (.if_icmp .gt 12, 3) := by decide +kernel
theorem dL_isDone_560 : decode cL_isDone 560 = .ok (.aload 4, 2) := by decide +kernel
theorem dL_isDone_562 : decode cL_isDone 562 = .ok (.iload 16, 2) := by decide +kernel
theorem dL_isDone_564 : decode cL_isDone 564 = .ok (.iconst 4, 1) := by decide +kernel
theorem dL_isDone_565 : decode cL_isDone 565 = .ok (.iastore, 1) := by decide +kernel
theorem dL_isDone_566 : decode cL_isDone 566 = .ok (.iinc 15 1, 3) := by decide +kernel
theorem dL_isDone_569 : decode cL_isDone 569 = .ok (.iinc 16 1, 3) := by decide +kernel
theorem dL_isDone_572 : decode cL_isDone 572 = .ok (.goto (-56), 3) := by decide +kernel
theorem dL_isDone_575 : decode cL_isDone 575 = .ok (.aload 9, 2) := by decide +kernel
theorem dL_isDone_577 : decode cL_isDone 577 = .ok (.iconst 1, 1) := by decide +kernel
theorem dL_isDone_578 : decode cL_isDone 578 = .ok (.dup2, 1) := by decide +kernel
theorem dL_isDone_579 : decode cL_isDone 579 = .ok (.iaload, 1) := by decide +kernel
theorem dL_isDone_580 : decode cL_isDone 580 = .ok (.iload 14, 2) := by decide +kernel
theorem dL_isDone_582 : decode cL_isDone 582 = .ok (.sipush 401, 3) := by decide +kernel
theorem dL_isDone_585 : decode cL_isDone 585 = .ok (.if_icmp .ge 8, 3) := by decide +kernel
theorem dL_isDone_588 : decode cL_isDone 588 = .ok (.iload 14, 2) := by decide +kernel
theorem dL_isDone_590 : decode cL_isDone 590 = .ok (.goto 4, 3) := by decide +kernel
theorem dL_isDone_593 : decode cL_isDone 593 = .ok (.iconst 0, 1) := by decide +kernel
theorem dL_isDone_594 : decode cL_isDone 594 = .ok (.iadd, 1) := by decide +kernel
theorem dL_isDone_595 : decode cL_isDone 595 = .ok (.iastore, 1) := by decide +kernel
theorem dL_isDone_596 : decode cL_isDone 596 = .ok (.aload_n 0, 1) := by decide +kernel
theorem dL_isDone_597 : decode cL_isDone 597 = .ok (.bipush 8, 2) := by decide +kernel
theorem dL_isDone_599 : decode cL_isDone 599 = .ok (.iload 14, 2) := by decide +kernel
theorem dL_isDone_601 : decode cL_isDone 601 = .ok (.iconst 0, 1) := by decide +kernel
theorem dL_isDone_602 : decode cL_isDone 602 = .ok (.iconst 0, 1) := by decide +kernel
theorem dL_isDone_603 : decode cL_isDone 603 = .ok (.iconst 0, 1) := by decide +kernel
theorem dL_isDone_604 : decode cL_isDone 604 = .ok (.invokestatic 106, 3) := by decide +kernel
theorem dL_isDone_607 : decode cL_isDone 607 = .ok (.iload 14, 2) := by decide +kernel
theorem dL_isDone_609 : decode cL_isDone 609 = .ok (.sipush 401, 3) := by decide +kernel
theorem dL_isDone_612 : decode cL_isDone 612 = .ok (.if_icmp .ge 8, 3) := by decide +kernel
theorem dL_isDone_615 : decode cL_isDone 615 = .ok (.iload 15, 2) := by decide +kernel
theorem dL_isDone_617 : decode cL_isDone 617 = .ok (.goto 5, 3) := by decide +kernel
theorem dL_isDone_620 : decode cL_isDone 620 = .ok (.bipush (-20), 2) := by decide +kernel
theorem dL_isDone_622 : decode cL_isDone 622 = .ok (.if_icmp .ne 7, 3) := by decide +kernel
theorem dL_isDone_625 : decode cL_isDone 625 = .ok (.iconst 1, 1) := by decide +kernel
theorem dL_isDone_626 : decode cL_isDone 626 = .ok (.goto 4, 3) := by decide +kernel
theorem dL_isDone_629 : decode cL_isDone 629 = .ok (.iconst 0, 1) := by decide +kernel
theorem dL_isDone_630 : decode cL_isDone 630 = .ok (.ireturn, 1) := by decide +kernel
