theorem goodIn_rc {big : List Cond} {c : Cond} {a : List Cond} (i : Nat) (hi : big[i]? = some c) (hg : goodWord c = true) (ha : GoodIn big a) : GoodIn big (c :: a) := fun w h => (List.mem_cons.mp h).elim (fun e => e ▸ ⟨List.mem_of_getElem? hi, good_of_word hg⟩) (ha w)
theorem dL_isSo_120 : decode cL_isSo 120 = .ok (.iload_n 1, 1) := by decide +kernel
theorem dL_isSo_121 : decode cL_isSo 121 = .ok (.bipush 6, 2) := by decide +kernel
theorem dL_isSo_123 : decode cL_isSo 123 = .ok (.ishr, 1) := by decide +kernel
theorem dL_isSo_124 : decode cL_isSo 124 = .ok (.bipush 6, 2) := by decide +kernel
theorem dL_isSo_126 : decode cL_isSo 126 = .ok (.invokestatic 82, 3) := by decide +kernel
theorem dL_isSo_129 : decode cL_isSo 129 = .ok (.istore 5, 2) := by decide +kernel
theorem dL_isSo_131 : decode cL_isSo 131 = .ok (.aload_n 0, 1) := by decide +kernel
theorem dL_isSo_132 : decode cL_isSo 132 = .ok (.iload 5, 2) := by decide +kernel
theorem dL_isSo_134 : decode cL_isSo 134 = .ok (.iconst 0, 1) := by decide +kernel
theorem dL_isSo_135 : decode cL_isSo 135 = .ok (.invokevirtual 40, 3) := by decide +kernel
theorem dL_isSo_138 : decode cL_isSo 138 = .ok (.istore 6, 2) := by decide +kernel
theorem dL_isSo_140 : decode cL_isSo 140 = .ok (.aload_n 0, 1) := by decide +kernel
theorem dL_isSo_141 : decode cL_isSo 141 = .ok (.iload 5, 2) := by decide +kernel
theorem dL_isSo_143 : decode cL_isSo 143 = .ok (.iconst 1, 1) := by decide +kernel
theorem dL_isSo_144 : decode cL_isSo 144 = .ok (.invokevirtual 40, 3) := by decide +kernel
theorem dL_isSo_147 : decode cL_isSo 147 = .ok (.istore 7, 2) := by decide +kernel
theorem dL_isSo_149 : decode cL_isSo 149 = .ok (.iload_n 3, 1) := by decide +kernel
theorem dL_isSo_150 : decode cL_isSo 150 = .ok (.ifCond .eq 46, 3) := by decide +kernel
theorem dL_isSo_153 : decode cL_isSo 153 = .ok (.iload 6, 2) := by decide +kernel
theorem dL_isSo_155 : decode cL_isSo 155 = .ok (.iload 7, 2) := by decide +kernel
theorem dL_isSo_157 : decode cL_isSo 157 = .ok (.if_icmp .le 9, 3) := by decide +kernel
theorem dL_isSo_160 : decode cL_isSo 160 = .ok (.iload 7, 2) := by decide +kernel
theorem dL_isSo_162 : decode cL_isSo 162 = .ok (.iconst (-1), 1) := by decide +kernel
theorem dL_isSo_163 : decode cL_isSo 163 = .ok (.if_icmp .ne 33, 3) := by decide +kernel
theorem dL_isSo_166 : decode cL_isSo 166 = .ok (.aload_n 0, 1) := by decide +kernel
theorem dL_isSo_167 : decode cL_isSo 167 = .ok (.invokevirtual 134, 3) := by decide +kernel
theorem dL_isSo_170 : decode cL_isSo 170 = .ok (.ifCond .gt 22, 3) := by decide +kernel
theorem dL_isSo_173 : decode cL_isSo 173 = .ok (.iload 6, 2) := by decide +kernel
theorem dL_isSo_175 : decode cL_isSo 175 = .ok (.aload_n 0, 1) := by decide +kernel
theorem dL_isSo_176 : decode cL_isSo 176 = .ok (.iload 5, 2) := by decide +kernel
theorem dL_isSo_178 : decode cL_isSo 178 = .ok (.iconst 0, 1) := by decide +kernel
theorem dL_isSo_179 : decode cL_isSo 179 = .ok (.invokevirtual 44, 3) := by decide +kernel
theorem dL_isSo_182 : decode cL_isSo 182 = .ok (.if_icmp .ne 14, 3) := by decide +kernel
theorem dL_isSo_185 : decode cL_isSo 185 = .ok (.iload 7, 2) := by decide +kernel
theorem dL_isSo_187 : decode cL_isSo 187 = .ok (.iload 6, 2) := by decide +kernel
theorem dL_isSo_189 : decode cL_isSo 189 = .ok (.if_icmp .ne 7, 3) := by decide +kernel
theorem dL_isSo_192 : decode cL_isSo 192 = .ok (.iconst 1, 1) := by decide +kernel
theorem dL_isSo_193 : decode cL_isSo 193 = .ok (.goto 4, 3) := by decide +kernel
theorem dL_isSo_196 : decode cL_isSo 196 = .ok (.iconst 0, 1) := by decide +kernel
theorem dL_isSo_197 : decode cL_isSo 197 = .ok (.istore_n 3, 1) := by decide +kernel
theorem dL_isSo_198 : decode cL_isSo 198 = .ok (.iconst 0, 1) := by decide +kernel
theorem dL_isSo_199 : decode cL_isSo 199 = .ok (.istore 8, 2) := by decide +kernel
theorem dL_isSo_201 : decode cL_isSo 201 = .ok (.iconst 0, 1) := by decide +kernel
theorem dL_isSo_202 : decode cL_isSo 202 = .ok (.istore 9, 2) := by decide +kernel
theorem dL_isSo_204 : decode cL_isSo 204 = .ok (.iload 9, 2) := by decide +kernel
theorem dL_isSo_206 : decode cL_isSo 206 = .ok (.bipush 6, 2) := by decide +kernel
theorem dL_isSo_208 : decode cL_isSo 208 = .ok (.if_icmp .ge 28, 3) := by decide +kernel
theorem dL_isSo_211 : decode cL_isSo 211 = .ok (.iload 8, 2) := by decide +kernel
theorem dL_isSo_213 : decode cL_isSo 213 = .ok (.aload_n 0, 1) := by decide +kernel
theorem dL_isSo_214 : decode cL_isSo 214 = .ok (.iload 9, 2) := by decide +kernel
theorem dL_isSo_216 : decode cL_isSo 216 = .ok (.invokevirtual 67, 3) := by decide +kernel
theorem dL_isSo_219 : decode cL_isSo 219 = .ok (.ifCond .lt 7, 3) := by decide +kernel
theorem dL_isSo_222 : decode cL_isSo 222 = .ok (.iconst 1, 1) := by decide +kernel
theorem dL_isSo_223 : decode cL_isSo 223 = .ok (.goto 4, 3) := by decide +kernel
theorem dL_isSo_226 : decode cL_isSo 226 = .ok (.iconst 0, 1) := by decide +kernel
theorem dL_isSo_227 : decode cL_isSo 227 = .ok (.iadd, 1) := by decide +kernel
theorem dL_isSo_228 : decode cL_isSo 228 = .ok (.istore 8, 2) := by decide +kernel
theorem dL_isSo_230 : decode cL_isSo 230 = .ok (.iinc 9 1, 3) := by decide +kernel
theorem dL_isSo_233 : decode cL_isSo 233 = .ok (.goto (-29), 3) := by decide +kernel
theorem dL_isSo_236 : decode cL_isSo 236 = .ok (.iload_n 3, 1) := by decide +kernel
theorem dL_isSo_237 : decode cL_isSo 237 = .ok (.ifCond .eq 55, 3) := by decide +kernel
theorem dL_isSo_240 : decode cL_isSo 240 = .ok (.iload_n 2, 1) := by decide +kernel
theorem dL_isSo_241 : decode cL_isSo 241 = .ok (.sipush 6000, 3) := by decide +kernel
theorem dL_isSo_244 : decode cL_isSo 244 = .ok (.if_icmp .ne 48, 3) := by decide +kernel
theorem dL_isSo_247 : decode cL_isSo 247 = .ok (.iload 8, 2) := by decide +kernel
theorem dL_isSo_249 : decode cL_isSo 249 = .ok (.iconst 1, 1) := by decide +kernel
theorem dL_isSo_250 : decode cL_isSo 250 = .ok (.if_icmp .eq 42, 3) := by decide +kernel
theorem dL_isSo_253 : decode cL_isSo 253 = .ok (.aload_n 0, 1) := by decide +kernel
theorem dL_isSo_254 : decode cL_isSo 254 = .ok (.invokevirtual 121, 3) := by decide +kernel
theorem dL_isSo_257 : decode cL_isSo 257 = .ok (.iload 8, 2) := by decide +kernel
theorem dL_isSo_259 : decode cL_isSo 259 = .ok (.if_icmp .ne 33, 3) := by decide +kernel
theorem dL_isSo_262 : decode cL_isSo 262 = .ok (.aload_n 0, 1) := by decide +kernel
theorem dL_isSo_263 : decode cL_isSo 263 = .ok (.iconst (-1), 1) := by decide +kernel
theorem dL_isSo_264 : decode cL_isSo 264 = .ok (.invokestatic 117, 3) := by decide +kernel
theorem dL_isSo_267 : decode cL_isSo 267 = .ok (.ldc2_w 16, 3) := by decide +kernel
theorem dL_isSo_270 : decode cL_isSo 270 = .ok (.lcmp, 1) := by decide +kernel
theorem dL_isSo_271 : decode cL_isSo 271 = .ok (.ifCond .ne 21, 3) := by decide +kernel
theorem dL_isSo_274 : decode cL_isSo 274 = .ok (.aload_n 0, 1) := by decide +kernel
theorem dL_isSo_275 : decode cL_isSo 275 = .ok (.iconst 0, 1) := by decide +kernel
theorem dL_isSo_276 : decode cL_isSo 276 = .ok (.bipush 64, 2) := by decide +kernel
theorem dL_isSo_278 : decode cL_isSo 278 = .ok (.invokestatic 128, 3) := by decide +kernel
theorem dL_isSo_281 : decode cL_isSo 281 = .ok (.ldc2_w 16, 3) := by decide +kernel
theorem dL_isSo_284 : decode cL_isSo 284 = .ok (.lcmp, 1) := by decide +kernel
theorem dL_isSo_285 : decode cL_isSo 285 = .ok (.ifCond .ne 7, 3) := by decide +kernel
theorem dL_isSo_288 : decode cL_isSo 288 = .ok (.iconst 1, 1) := by decide +kernel
theorem dL_isSo_289 : decode cL_isSo 289 = .ok (.goto 4, 3) := by decide +kernel
theorem dL_isSo_292 : decode cL_isSo 292 = .ok (.iconst 0, 1) := by decide +kernel
theorem dL_isSo_293 : decode cL_isSo 293 = .ok (.ireturn, 1) := by decide +kernel
set_option maxRecDepth 20000 in
theorem ggL_law_X8_init : GoodIn wsL_law wsX8_init := goodIn_r _ [6, 7, 8, 9, 10, 11, 12, 13, 14, 15, 16, 17, 18, 19, 20, 21, 22, 23, 24, 25, 26, 27, 28, 29, 30, 31, 32, 33, 34, 35, 36, 37, 38, 39, 40, 41, 42, 43, 44, 45, 46, 47, 48, 49, 50, 51, 52, 53, 54, 55, 56, 57, 58, 59, 60, 61, 62, 63, 64, 65, 66, 67, 68, 69, 70, 71, 72, 73, 74, 75, 76, 77, 78, 79, 80, 81, 82, 83, 84, 85, 86, 87, 88, 89, 90, 91, 92, 93, 94, 95, 96, 97, 98, 99, 100, 101, 102, 103, 550, 551, 552, 553, 541, 542, 543, 544, 545, 546, 547, 548, 549, 554, 555, 556, 557, 558, 559, 560, 561, 562, 563, 564, 565, 566, 567, 568, 569, 570, 571, 572, 573, 574, 575, 576, 577, 578, 579, 580, 581, 582, 583, 584, 585] (by decide +kernel) (by decide +kernel)
set_option maxRecDepth 20000 in
theorem gL_law_X8_init : GoodIn wsL_law (wsX8_init) := ggL_law_X8_init
set_option maxRecDepth 20000 in
theorem ggL_law_L_cell : GoodIn wsL_law wsL_cell := goodIn_r _ [107] (by decide +kernel) (by decide +kernel)
set_option maxRecDepth 20000 in
theorem gL_law_L_cell : GoodIn wsL_law (va_wsS RL 141 yL_cell wsL_cell) := goodIn_app (goodIn_of _ (by decide +kernel)) ggL_law_L_cell
set_option maxRecDepth 100000 in
theorem wsL_act_r1_law : GoodIn wsL_law wsL_act_r1 := goodIn_r _ [111, 112, 113, 106, 114, 115, 116, 117, 118, 119, 120, 3, 121, 122, 123, 2, 124, 125, 126, 127, 128, 13, 129, 130] (by decide +kernel) (by decide +kernel)
set_option maxRecDepth 100000 in
theorem wsL_act_r2_law : GoodIn wsL_law wsL_act_r2 := goodIn_r _ [131, 132, 12, 133, 134, 46, 47, 48, 135, 136, 137, 138, 139, 140, 141, 142, 143, 17, 144, 145, 146, 147, 148, 149] (by decide +kernel) (by decide +kernel)
set_option maxRecDepth 100000 in
theorem wsL_act_r3_law : GoodIn wsL_law wsL_act_r3 := goodIn_r _ [150, 151, 152, 153, 154, 155, 156, 157, 16, 158, 54, 159, 160, 161, 162, 163, 164, 165, 166, 167, 168, 169, 170, 171] (by decide +kernel) (by decide +kernel)
set_option maxRecDepth 100000 in
theorem wsL_act_r4_law : GoodIn wsL_law wsL_act_r4 := goodIn_r _ [172, 173, 174, 175, 176, 177, 178, 179, 180, 181, 182, 183, 21, 184, 185, 186, 29, 187, 188, 189, 190, 191, 192, 193] (by decide +kernel) (by decide +kernel)
set_option maxRecDepth 100000 in
theorem wsL_act_r5_law : GoodIn wsL_law wsL_act_r5 := goodIn_r _ [20, 194, 70, 62, 63, 64, 65, 195, 196, 197, 28, 198, 199, 200, 201, 202, 203, 80, 204, 205, 206, 207, 208, 209] (by decide +kernel) (by decide +kernel)
set_option maxRecDepth 100000 in
theorem wsL_act_r6_law : GoodIn wsL_law wsL_act_r6 := goodIn_r _ [210, 211, 212, 213, 214, 215, 216, 217, 218, 219, 220, 221, 222, 223, 224, 225, 226, 227, 228, 229, 230, 231, 232, 233] (by decide +kernel) (by decide +kernel)
set_option maxRecDepth 100000 in
theorem wsL_act_r7_law : GoodIn wsL_law wsL_act_r7 := goodIn_r _ [234, 235, 236, 237, 238, 239, 60, 61, 240, 241, 242, 243, 244, 245, 246, 247, 248, 249, 250, 251, 252, 253, 254, 255] (by decide +kernel) (by decide +kernel)
set_option maxRecDepth 100000 in
theorem wsL_act_r8_law : GoodIn wsL_law wsL_act_r8 := goodIn_r _ [256, 25, 257, 258, 259, 24, 260, 75, 261, 262, 263, 264, 265, 266, 267, 268, 269, 270, 271, 272, 273, 274, 275, 276] (by decide +kernel) (by decide +kernel)
set_option maxRecDepth 100000 in
theorem wsL_act_r9_law : GoodIn wsL_law wsL_act_r9 := goodIn_r _ [277, 278, 279, 280, 281, 282, 283, 284, 285, 286, 287, 288, 289, 290, 291, 292, 293, 294, 295, 296, 297, 298, 299, 300] (by decide +kernel) (by decide +kernel)
set_option maxRecDepth 100000 in
theorem wsL_act_r10_law : GoodIn wsL_law wsL_act_r10 := goodIn_r _ [301, 302, 303, 304, 305, 306, 307, 308, 309, 310, 311, 312, 313, 314, 315, 316, 317, 318, 319, 320, 321, 322, 323, 324] (by decide +kernel) (by decide +kernel)
set_option maxRecDepth 100000 in
theorem wsL_act_r11_law : GoodIn wsL_law wsL_act_r11 := goodIn_r _ [325, 55, 326, 327, 328, 329, 330, 331, 332, 333, 53, 334, 335, 336, 337, 338, 339, 340, 341, 342, 343, 344, 345, 346] (by decide +kernel) (by decide +kernel)
set_option maxRecDepth 100000 in
theorem wsL_act_r12_law : GoodIn wsL_law wsL_act_r12 := goodIn_r _ [347, 348, 349, 350, 351, 352, 353, 354, 355, 356, 357, 358, 33, 359, 360, 361, 32, 362, 363, 88, 364, 365, 366, 367] (by decide +kernel) (by decide +kernel)
set_option maxRecDepth 100000 in
theorem wsL_act_r13_law : GoodIn wsL_law wsL_act_r13 := goodIn_r _ [368, 369, 370, 371, 372, 373, 374, 375, 376, 377, 378, 379, 380, 381, 382, 383, 384, 385, 386, 387, 388, 389, 390, 391] (by decide +kernel) (by decide +kernel)
set_option maxRecDepth 100000 in
theorem wsL_act_r14_law : GoodIn wsL_law wsL_act_r14 := goodIn_r _ [392, 393, 394, 395, 396, 397, 398, 399, 400, 401, 402, 403, 404, 405, 406, 407, 408, 409, 410, 411, 412, 413, 414, 37] (by decide +kernel) (by decide +kernel)
set_option maxRecDepth 100000 in
theorem wsL_act_r15_law : GoodIn wsL_law wsL_act_r15 := goodIn_r _ [415, 416, 417, 36, 418, 93, 94, 419, 420, 421, 422, 423, 424, 425, 426, 427, 428, 429, 430, 431, 432, 433, 434, 435] (by decide +kernel) (by decide +kernel)
set_option maxRecDepth 100000 in
theorem wsL_act_r16_law : GoodIn wsL_law wsL_act_r16 := goodIn_r _ [436, 437, 438, 439, 95, 440, 441, 442, 443, 444, 445, 446, 447, 448, 449, 450, 451, 452, 453, 454, 455, 456, 457, 458] (by decide +kernel) (by decide +kernel)
set_option maxRecDepth 100000 in
theorem wsL_act_r17_law : GoodIn wsL_law wsL_act_r17 := goodIn_r _ [459, 460, 461, 462, 463, 464, 465, 466, 467, 468, 469, 470, 471, 472, 473, 474, 41, 475, 476, 477, 40, 478, 103, 479] (by decide +kernel) (by decide +kernel)
set_option maxRecDepth 100000 in
theorem wsL_act_r18_law : GoodIn wsL_law wsL_act_r18 := goodIn_r _ [480, 481, 482, 483, 484, 485, 486, 487, 100, 102, 488, 489, 490, 491, 492, 493, 494, 495, 101, 496, 497, 498, 499, 500] (by decide +kernel) (by decide +kernel)
set_option maxRecDepth 100000 in
theorem wsL_act_r19_law : GoodIn wsL_law wsL_act_r19 := goodIn_r _ [501, 502, 503, 504, 505, 506, 507, 508, 509, 510, 511, 512, 513, 514, 515, 516, 517, 518] (by decide +kernel) (by decide +kernel)
set_option maxRecDepth 100000 in
theorem wsX80_law_act : GoodIn wsL_law wsX80 := goodIn_r _ [541, 542, 543, 544, 545, 546, 547, 548, 549] (by decide +kernel) (by decide +kernel)
set_option maxRecDepth 100000 in
theorem wsX20_law_act : GoodIn wsL_law wsX20 := goodIn_r _ [550, 551, 552, 553] (by decide +kernel) (by decide +kernel)
set_option maxRecDepth 100000 in
theorem wsX50_law_act : GoodIn wsL_law wsX50 := goodIn_r _ [554, 555, 556] (by decide +kernel) (by decide +kernel)
set_option maxRecDepth 100000 in
theorem wsX60_law_act : GoodIn wsL_law wsX60 := goodIn_r _ [557, 558, 559, 560, 561, 562, 563] (by decide +kernel) (by decide +kernel)
set_option maxRecDepth 100000 in
theorem wsX10_law_act : GoodIn wsL_law wsX10 := goodIn_r _ [569, 570, 571] (by decide +kernel) (by decide +kernel)
set_option maxRecDepth 100000 in
theorem wsX40_law_act : GoodIn wsL_law wsX40 := goodIn_r _ [564, 565, 566, 567, 568] (by decide +kernel) (by decide +kernel)
set_option maxRecDepth 100000 in
theorem wsX00_law_act : GoodIn wsL_law wsX00 := goodIn_r _ [572, 573, 574, 575, 576] (by decide +kernel) (by decide +kernel)
set_option maxRecDepth 100000 in
theorem wsX70_law_act : GoodIn wsL_law wsX70 := goodIn_r _ [577, 578, 579, 580] (by decide +kernel) (by decide +kernel)
set_option maxRecDepth 100000 in
theorem wsX30_law_act : GoodIn wsL_law wsX30 := goodIn_r _ [581, 582, 583, 584, 585] (by decide +kernel) (by decide +kernel)
set_option maxRecDepth 100000 in
theorem ggL_law_L_act : GoodIn wsL_law wsL_act := goodIn_ca (goodIn_ca (goodIn_ca (goodIn_rc 110 rfl (by decide +kernel) (goodIn_app (goodIn_app (goodIn_app (goodIn_app (goodIn_app (goodIn_app (goodIn_app (goodIn_app (goodIn_app (goodIn_app wsL_act_r1_law (goodIn_app wsL_act_r2_law (goodIn_app wsL_act_r3_law (goodIn_app wsL_act_r4_law (goodIn_app wsL_act_r5_law (goodIn_app wsL_act_r6_law (goodIn_app wsL_act_r7_law (goodIn_app wsL_act_r8_law (goodIn_app wsL_act_r9_law (goodIn_app wsL_act_r10_law (goodIn_app wsL_act_r11_law (goodIn_app wsL_act_r12_law (goodIn_app wsL_act_r13_law (goodIn_app wsL_act_r14_law (goodIn_app wsL_act_r15_law (goodIn_app wsL_act_r16_law (goodIn_app wsL_act_r17_law (goodIn_app wsL_act_r18_law wsL_act_r19_law)))))))))))))))))) wsX80_law_act) wsX20_law_act) wsX50_law_act) wsX60_law_act) wsX10_law_act) wsX40_law_act) wsX00_law_act) wsX70_law_act) wsX30_law_act)) (goodIn_sub (fun _ h => List.mem_append_left _ (List.mem_append_left _ (List.mem_append_right _ h))) (by decide +kernel))) (goodIn_sub (fun _ h => List.mem_append_left _ (List.mem_append_right _ h)) (by decide +kernel))) (goodIn_sub (fun _ h => List.mem_append_right _ h) (by decide +kernel))
set_option maxRecDepth 20000 in
theorem gL_law_L_act : GoodIn wsL_law (va_wsS RL 145 yL_act wsL_act) := goodIn_app (goodIn_of _ (by decide +kernel)) ggL_law_L_act
set_option maxRecDepth 100000 in
theorem wsL_areAlike_r1_law : GoodIn wsL_law wsL_areAlike_r1 := goodIn_r _ [522, 523, 524, 2, 525, 21, 184, 112, 113, 106, 114, 115, 401, 402, 403, 138, 3, 404, 405, 406, 407, 148, 149, 33] (by decide +kernel) (by decide +kernel)
set_option maxRecDepth 100000 in
theorem wsL_areAlike_r2_law : GoodIn wsL_law wsL_areAlike_r2 := goodIn_r _ [380, 381, 382, 32, 383, 365, 366, 384, 385, 386, 387, 88, 388, 389, 390, 391, 364, 367, 392, 393, 394, 395, 468, 469] (by decide +kernel) (by decide +kernel)
set_option maxRecDepth 100000 in
theorem wsL_areAlike_r3_law : GoodIn wsL_law wsL_areAlike_r3 := goodIn_r _ [470, 119, 471, 472, 473, 474, 125, 126, 41, 167, 168, 169, 475, 476, 477, 40, 478, 103, 479, 480, 481, 482, 483, 484] (by decide +kernel) (by decide +kernel)
set_option maxRecDepth 100000 in
theorem wsL_areAlike_r4_law : GoodIn wsL_law wsL_areAlike_r4 := goodIn_r _ [485, 486, 487, 100, 102, 488, 489, 490, 491, 492, 493, 494, 495, 101, 306, 307, 308, 309, 310, 311, 312, 313, 314, 511] (by decide +kernel) (by decide +kernel)
set_option maxRecDepth 100000 in
theorem wsL_areAlike_r5_law : GoodIn wsL_law wsL_areAlike_r5 := goodIn_r _ [512, 513, 514, 515, 516, 517, 518, 453, 454, 455, 456, 457, 458, 459, 17, 166, 144, 145, 146, 147, 13, 129, 526, 527] (by decide +kernel) (by decide +kernel)
set_option maxRecDepth 100000 in
theorem wsL_areAlike_r6_law : GoodIn wsL_law wsL_areAlike_r6 := goodIn_r _ [528, 529, 29, 530, 531, 532, 28, 533, 82, 203, 80, 534, 535, 67, 68, 20, 69, 60, 61, 70, 536, 212, 213, 214] (by decide +kernel) (by decide +kernel)
set_option maxRecDepth 100000 in
theorem wsL_areAlike_r7_law : GoodIn wsL_law wsL_areAlike_r7 := goodIn_r _ [215, 216, 217, 218, 62, 219, 220, 221, 222, 64, 223, 224, 225, 226, 63, 65, 227, 228, 229, 230, 231, 232, 233, 234] (by decide +kernel) (by decide +kernel)
set_option maxRecDepth 100000 in
theorem wsL_areAlike_r8_law : GoodIn wsL_law wsL_areAlike_r8 := goodIn_r _ [235, 236, 237, 238, 239, 240, 241, 242, 243, 244, 245, 537, 192, 193, 194] (by decide +kernel) (by decide +kernel)
set_option maxRecDepth 100000 in
theorem wsX80_law_areAlike : GoodIn wsL_law wsX80 := goodIn_r _ [541, 542, 543, 544, 545, 546, 547, 548, 549] (by decide +kernel) (by decide +kernel)
set_option maxRecDepth 100000 in
theorem wsX60_law_areAlike : GoodIn wsL_law wsX60 := goodIn_r _ [557, 558, 559, 560, 561, 562, 563] (by decide +kernel) (by decide +kernel)
set_option maxRecDepth 100000 in
theorem wsX00_law_areAlike : GoodIn wsL_law wsX00 := goodIn_r _ [572, 573, 574, 575, 576] (by decide +kernel) (by decide +kernel)
set_option maxRecDepth 100000 in
theorem wsX30_law_areAlike : GoodIn wsL_law wsX30 := goodIn_r _ [581, 582, 583, 584, 585] (by decide +kernel) (by decide +kernel)
set_option maxRecDepth 100000 in
theorem wsX50_law_areAlike : GoodIn wsL_law wsX50 := goodIn_r _ [554, 555, 556] (by decide +kernel) (by decide +kernel)
set_option maxRecDepth 100000 in
theorem wsX20_law_areAlike : GoodIn wsL_law wsX20 := goodIn_r _ [550, 551, 552, 553] (by decide +kernel) (by decide +kernel)
set_option maxRecDepth 100000 in
theorem wsX10_law_areAlike : GoodIn wsL_law wsX10 := goodIn_r _ [569, 570, 571] (by decide +kernel) (by decide +kernel)
set_option maxRecDepth 100000 in
theorem ggL_law_L_areAlike : GoodIn wsL_law wsL_areAlike := goodIn_ca (goodIn_ca (goodIn_rc 521 rfl (by decide +kernel) (goodIn_app (goodIn_app (goodIn_app (goodIn_app (goodIn_app (goodIn_app (goodIn_app (goodIn_app wsL_areAlike_r1_law (goodIn_app wsL_areAlike_r2_law (goodIn_app wsL_areAlike_r3_law (goodIn_app wsL_areAlike_r4_law (goodIn_app wsL_areAlike_r5_law (goodIn_app wsL_areAlike_r6_law (goodIn_app wsL_areAlike_r7_law wsL_areAlike_r8_law))))))) wsX80_law_areAlike) wsX60_law_areAlike) wsX00_law_areAlike) wsX30_law_areAlike) wsX50_law_areAlike) wsX20_law_areAlike) wsX10_law_areAlike)) (goodIn_sub (fun _ h => List.mem_append_right _ h) (by decide +kernel))) (goodIn_sub (fun _ h => List.mem_append_left _ (List.mem_append_left _ (List.mem_append_right _ h))) (by decide +kernel))
set_option maxRecDepth 20000 in
theorem gL_law_L_areAlike : GoodIn wsL_law (va_wsS RL 148 yL_areAlike wsL_areAlike) := goodIn_app (goodIn_of _ (by decide +kernel)) ggL_law_L_areAlike
set_option maxRecDepth 100000 in
theorem wsL_isSo_r1_law : GoodIn wsL_law wsL_isSo_r1 := goodIn_r _ [3, 112, 113, 106, 114, 115, 514, 515, 516, 2, 517, 41, 518, 167, 168, 169, 148, 149, 471, 472, 473, 474, 125, 126] (by decide +kernel) (by decide +kernel)
set_option maxRecDepth 100000 in
theorem wsL_isSo_r2_law : GoodIn wsL_law wsL_isSo_r2 := goodIn_r _ [475, 476, 477, 40, 478, 103, 479, 480, 481, 482, 483, 484, 485, 486, 487, 100, 102, 488, 489, 490, 491, 492, 493, 494] (by decide +kernel) (by decide +kernel)
set_option maxRecDepth 100000 in
theorem wsL_isSo_r3_law : GoodIn wsL_law wsL_isSo_r3 := goodIn_r _ [495, 101, 309, 310, 311, 312, 21, 313, 314, 526, 527, 528, 529, 29, 530, 531, 532, 28, 533, 82, 203, 80, 534, 535] (by decide +kernel) (by decide +kernel)
set_option maxRecDepth 100000 in
theorem wsL_isSo_r4_law : GoodIn wsL_law wsL_isSo_r4 := goodIn_r _ [67, 68, 20, 69, 60, 61, 70, 536, 212, 213, 214, 215, 216, 217, 218, 62, 219, 220, 221, 222, 64, 223, 224, 225] (by decide +kernel) (by decide +kernel)
set_option maxRecDepth 100000 in
theorem wsL_isSo_r5_law : GoodIn wsL_law wsL_isSo_r5 := goodIn_r _ [226, 63, 65, 227, 228, 229, 230, 231, 232, 233, 234, 235, 236, 237, 238, 239, 240, 241, 242, 243, 244, 245, 537, 192] (by decide +kernel) (by decide +kernel)
set_option maxRecDepth 100000 in
theorem wsL_isSo_r6_law : GoodIn wsL_law wsL_isSo_r6 := goodIn_r _ [193, 194, 253, 254, 255, 256, 25, 257, 258, 259, 24, 260, 75, 261, 262, 263, 264, 265, 266, 267, 268, 269, 270, 271] (by decide +kernel) (by decide +kernel)
set_option maxRecDepth 100000 in
theorem wsL_isSo_r7_law : GoodIn wsL_law wsL_isSo_r7 := goodIn_r _ [272, 273, 274, 275, 276, 277, 278, 279, 280, 281, 282, 283, 284, 285, 286, 287, 288, 289, 290, 291, 292, 293, 294, 295] (by decide +kernel) (by decide +kernel)
set_option maxRecDepth 100000 in
theorem wsL_isSo_r8_law : GoodIn wsL_law wsL_isSo_r8 := goodIn_r _ [296, 297, 298, 299, 300, 301, 302, 303, 304, 305, 522, 523, 524, 525, 184, 463, 464, 465, 466, 37, 17, 166, 467, 423] (by decide +kernel) (by decide +kernel)
set_option maxRecDepth 100000 in
theorem wsL_isSo_r9_law : GoodIn wsL_law wsL_isSo_r9 := goodIn_r _ [424, 425, 36, 426, 427, 428, 429, 430, 431, 93, 432, 433, 434, 435, 436, 437, 438, 439, 95, 440, 441, 442, 443, 94] (by decide +kernel) (by decide +kernel)
set_option maxRecDepth 100000 in
theorem wsL_isSo_r10_law : GoodIn wsL_law wsL_isSo_r10 := goodIn_r _ [444, 445, 446, 447, 419, 420, 421, 422, 448, 449, 450, 451, 452, 416, 417, 418, 401, 402, 403, 138, 404, 405, 406, 407] (by decide +kernel) (by decide +kernel)
set_option maxRecDepth 100000 in
theorem wsL_isSo_r11_law : GoodIn wsL_law wsL_isSo_r11 := goodIn_r _ [33, 380, 381, 382, 32, 383, 365, 366, 384, 385, 386, 387, 88, 388, 389, 390, 391, 364, 367, 392, 393, 394, 395, 468] (by decide +kernel) (by decide +kernel)
set_option maxRecDepth 100000 in
theorem wsL_isSo_r12_law : GoodIn wsL_law wsL_isSo_r12 := goodIn_r _ [469, 470, 119] (by decide +kernel) (by decide +kernel)
set_option maxRecDepth 100000 in
theorem wsX80_law_isSo : GoodIn wsL_law wsX80 := goodIn_r _ [541, 542, 543, 544, 545, 546, 547, 548, 549] (by decide +kernel) (by decide +kernel)
set_option maxRecDepth 100000 in
theorem wsX30_law_isSo : GoodIn wsL_law wsX30 := goodIn_r _ [581, 582, 583, 584, 585] (by decide +kernel) (by decide +kernel)
set_option maxRecDepth 100000 in
theorem wsX60_law_isSo : GoodIn wsL_law wsX60 := goodIn_r _ [557, 558, 559, 560, 561, 562, 563] (by decide +kernel) (by decide +kernel)
set_option maxRecDepth 100000 in
theorem wsX10_law_isSo : GoodIn wsL_law wsX10 := goodIn_r _ [569, 570, 571] (by decide +kernel) (by decide +kernel)
set_option maxRecDepth 100000 in
theorem wsX40_law_isSo : GoodIn wsL_law wsX40 := goodIn_r _ [564, 565, 566, 567, 568] (by decide +kernel) (by decide +kernel)
set_option maxRecDepth 100000 in
theorem wsX50_law_isSo : GoodIn wsL_law wsX50 := goodIn_r _ [554, 555, 556] (by decide +kernel) (by decide +kernel)
set_option maxRecDepth 100000 in
theorem wsX70_law_isSo : GoodIn wsL_law wsX70 := goodIn_r _ [577, 578, 579, 580] (by decide +kernel) (by decide +kernel)
set_option maxRecDepth 100000 in
theorem wsX00_law_isSo : GoodIn wsL_law wsX00 := goodIn_r _ [572, 573, 574, 575, 576] (by decide +kernel) (by decide +kernel)
set_option maxRecDepth 100000 in
theorem ggL_law_L_isSo : GoodIn wsL_law wsL_isSo := goodIn_ca (goodIn_ca (goodIn_rc 540 rfl (by decide +kernel) (goodIn_app (goodIn_app (goodIn_app (goodIn_app (goodIn_app (goodIn_app (goodIn_app (goodIn_app (goodIn_app wsL_isSo_r1_law (goodIn_app wsL_isSo_r2_law (goodIn_app wsL_isSo_r3_law (goodIn_app wsL_isSo_r4_law (goodIn_app wsL_isSo_r5_law (goodIn_app wsL_isSo_r6_law (goodIn_app wsL_isSo_r7_law (goodIn_app wsL_isSo_r8_law (goodIn_app wsL_isSo_r9_law (goodIn_app wsL_isSo_r10_law (goodIn_app wsL_isSo_r11_law wsL_isSo_r12_law))))))))))) wsX80_law_isSo) wsX30_law_isSo) wsX60_law_isSo) wsX10_law_isSo) wsX40_law_isSo) wsX50_law_isSo) wsX70_law_isSo) wsX00_law_isSo)) (goodIn_sub (fun _ h => List.mem_append_right _ h) (by decide +kernel))) (goodIn_sub (fun _ h => List.mem_append_left _ (List.mem_append_left _ (List.mem_append_right _ h))) (by decide +kernel))
set_option maxRecDepth 20000 in
theorem gL_law_L_isSo : GoodIn wsL_law (va_wsS RL 152 yL_isSo wsL_isSo) := goodIn_app (goodIn_of _ (by decide +kernel)) ggL_law_L_isSo
theorem dL_law_0 : decode cL_law 0 = .ok (.new 9, 3) := by decide +kernel
theorem dL_law_3 : decode cL_law 3 = .ok (.dup, 1) := by decide +kernel
theorem dL_law_4 : decode cL_law 4 = .ok (.invokespecial 140, 3) := by decide +kernel
theorem dL_law_7 : decode cL_law 7 = .ok (.astore_n 1, 1) := by decide +kernel
theorem dL_law_8 : decode cL_law 8 = .ok (.new 9, 3) := by decide +kernel
theorem dL_law_11 : decode cL_law 11 = .ok (.dup, 1) := by decide +kernel
theorem dL_law_12 : decode cL_law 12 = .ok (.invokespecial 140, 3) := by decide +kernel
theorem dL_law_15 : decode cL_law 15 = .ok (.astore_n 2, 1) := by decide +kernel
theorem dL_law_16 : decode cL_law 16 = .ok (.iconst 0, 1) := by decide +kernel
theorem dL_law_17 : decode cL_law 17 = .ok (.istore_n 3, 1) := by decide +kernel
theorem dL_law_18 : decode cL_law 18 = .ok (.iload_n 3, 1) := by decide +kernel
theorem dL_law_19 : decode cL_law 19 = .ok (.bipush 100, 2) := by decide +kernel
theorem dL_law_21 : decode cL_law 21 = .ok (.if_icmp .ge 70, 3) := by decide +kernel
theorem dL_law_24 : decode cL_law 24 = .ok (.aload_n 0, 1) := by decide +kernel
theorem dL_law_25 : decode cL_law 25 = .ok (.iload_n 3, 1) := by decide +kernel
theorem dL_law_26 : decode cL_law 26 = .ok (.invokestatic 141, 3) := by decide +kernel
theorem dL_law_29 : decode cL_law 29 = .ok (.istore 4, 2) := by decide +kernel
theorem dL_law_31 : decode cL_law 31 = .ok (.aload_n 1, 1) := by decide +kernel
theorem dL_law_32 : decode cL_law 32 = .ok (.iload 4, 2) := by decide +kernel
theorem dL_law_34 : decode cL_law 34 = .ok (.iload_n 3, 1) := by decide +kernel
theorem dL_law_35 : decode cL_law 35 = .ok (.invokestatic 145, 3) := by decide +kernel
theorem dL_law_38 : decode cL_law 38 = .ok (.lstore 5, 2) := by decide +kernel
theorem dL_law_40 : decode cL_law 40 = .ok (.lload 5, 2) := by decide +kernel
theorem dL_law_42 : decode cL_law 42 = .ok (.ldc2_w 16, 3) := by decide +kernel
theorem dL_law_45 : decode cL_law 45 = .ok (.lcmp, 1) := by decide +kernel
theorem dL_law_46 : decode cL_law 46 = .ok (.ifCond .eq 16, 3) := by decide +kernel
theorem dL_law_49 : decode cL_law 49 = .ok (.aload_n 2, 1) := by decide +kernel
theorem dL_law_50 : decode cL_law 50 = .ok (.iload 4, 2) := by decide +kernel
theorem dL_law_52 : decode cL_law 52 = .ok (.iload_n 3, 1) := by decide +kernel
theorem dL_law_53 : decode cL_law 53 = .ok (.invokestatic 145, 3) := by decide +kernel
theorem dL_law_56 : decode cL_law 56 = .ok (.lload 5, 2) := by decide +kernel
theorem dL_law_58 : decode cL_law 58 = .ok (.lcmp, 1) := by decide +kernel
theorem dL_law_59 : decode cL_law 59 = .ok (.ifCond .ne 24, 3) := by decide +kernel
theorem dL_law_62 : decode cL_law 62 = .ok (.iload_n 3, 1) := by decide +kernel
theorem dL_law_63 : decode cL_law 63 = .ok (.bipush 20, 2) := by decide +kernel
theorem dL_law_65 : decode cL_law 65 = .ok (.irem, 1) := by decide +kernel
theorem dL_law_66 : decode cL_law 66 = .ok (.bipush 19, 2) := by decide +kernel
theorem dL_law_68 : decode cL_law 68 = .ok (.if_icmp .ne 17, 3) := by decide +kernel
theorem dL_law_71 : decode cL_law 71 = .ok (.aload_n 1, 1) := by decide +kernel
theorem dL_law_72 : decode cL_law 72 = .ok (.aload_n 2, 1) := by decide +kernel
theorem dL_law_73 : decode cL_law 73 = .ok (.iload 4, 2) := by decide +kernel
theorem dL_law_75 : decode cL_law 75 = .ok (.iconst 3, 1) := by decide +kernel
theorem dL_law_76 : decode cL_law 76 = .ok (.ishr, 1) := by decide +kernel
theorem dL_law_77 : decode cL_law 77 = .ok (.invokestatic 148, 3) := by decide +kernel
theorem dL_law_80 : decode cL_law 80 = .ok (.ifCond .ne 5, 3) := by decide +kernel
theorem dL_law_83 : decode cL_law 83 = .ok (.iconst 0, 1) := by decide +kernel
theorem dL_law_84 : decode cL_law 84 = .ok (.ireturn, 1) := by decide +kernel
theorem dL_law_85 : decode cL_law 85 = .ok (.iinc 3 1, 3) := by decide +kernel
theorem dL_law_88 : decode cL_law 88 = .ok (.goto (-70), 3) := by decide +kernel
theorem dL_law_91 : decode cL_law 91 = .ok (.aload_n 1, 1) := by decide +kernel
theorem dL_law_92 : decode cL_law 92 = .ok (.aload_n 0, 1) := by decide +kernel
theorem dL_law_93 : decode cL_law 93 = .ok (.bipush 100, 2) := by decide +kernel
theorem dL_law_95 : decode cL_law 95 = .ok (.invokestatic 141, 3) := by decide +kernel
theorem dL_law_98 : decode cL_law 98 = .ok (.invokestatic 152, 3) := by decide +kernel
theorem dL_law_101 : decode cL_law 101 = .ok (.ireturn, 1) := by decide +kernel
