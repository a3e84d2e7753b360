theorem dX9_init_184 : decode cX9_init 184 = .ok (.putfield 53, 3) := by decide +kernel
theorem dX9_init_187 : decode cX9_init 187 = .ok (.aload_n 0, 1) := by decide +kernel
theorem dX9_init_188 : decode cX9_init 188 = .ok (.bipush 36, 2) := by decide +kernel
theorem dX9_init_190 : decode cX9_init 190 = .ok (.newarray .int, 2) := by decide +kernel
theorem dX9_init_192 : decode cX9_init 192 = .ok (.putfield 57, 3) := by decide +kernel
theorem dX9_init_195 : decode cX9_init 195 = .ok (.aload_n 0, 1) := by decide +kernel
theorem dX9_init_196 : decode cX9_init 196 = .ok (.bipush 6, 2) := by decide +kernel
theorem dX9_init_198 : decode cX9_init 198 = .ok (.newarray .int, 2) := by decide +kernel
theorem dX9_init_200 : decode cX9_init 200 = .ok (.putfield 60, 3) := by decide +kernel
theorem dX9_init_203 : decode cX9_init 203 = .ok (.aload_n 0, 1) := by decide +kernel
theorem dX9_init_204 : decode cX9_init 204 = .ok (.bipush 6, 2) := by decide +kernel
theorem dX9_init_206 : decode cX9_init 206 = .ok (.newarray .int, 2) := by decide +kernel
theorem dX9_init_208 : decode cX9_init 208 = .ok (.dup, 1) := by decide +kernel
theorem dX9_init_209 : decode cX9_init 209 = .ok (.iconst 0, 1) := by decide +kernel
theorem dX9_init_210 : decode cX9_init 210 = .ok (.iconst (-1), 1) := by decide +kernel
theorem dX9_init_211 : decode cX9_init 211 = .ok (.iastore, 1) := by decide +kernel
theorem dX9_init_212 : decode cX9_init 212 = .ok (.dup, 1) := by decide +kernel
theorem dX9_init_213 : decode cX9_init 213 = .ok (.iconst 1, 1) := by decide +kernel
theorem dX9_init_214 : decode cX9_init 214 = .ok (.iconst (-1), 1) := by decide +kernel
theorem dX9_init_215 : decode cX9_init 215 = .ok (.iastore, 1) := by decide +kernel
theorem dX9_init_216 : decode cX9_init 216 = .ok (.dup, 1) := by decide +kernel
theorem dX9_init_217 : decode cX9_init 217 = .ok (.iconst 2, 1) := by decide +kernel
theorem dX9_init_218 : decode cX9_init 218 = .ok (.iconst (-1), 1) := by decide +kernel
theorem dX9_init_219 : decode cX9_init 219 = .ok (.iastore, 1) := by decide +kernel
theorem dX9_init_220 : decode cX9_init 220 = .ok (.dup, 1) := by decide +kernel
theorem dX9_init_221 : decode cX9_init 221 = .ok (.iconst 3, 1) := by decide +kernel
theorem dX9_init_222 : decode cX9_init 222 = .ok (.iconst (-1), 1) := by decide +kernel
theorem dX9_init_223 : decode cX9_init 223 = .ok (.iastore, 1) := by decide +kernel
theorem dX9_init_224 : decode cX9_init 224 = .ok (.dup, 1) := by decide +kernel
theorem dX9_init_225 : decode cX9_init 225 = .ok (.iconst 4, 1) := by decide +kernel
theorem dX9_init_226 : decode cX9_init 226 = .ok (.iconst (-1), 1) := by decide +kernel
theorem dX9_init_227 : decode cX9_init 227 = .ok (.iastore, 1) := by decide +kernel
theorem dX9_init_228 : decode cX9_init 228 = .ok (.dup, 1) := by decide +kernel
theorem dX9_init_229 : decode cX9_init 229 = .ok (.iconst 5, 1) := by decide +kernel
theorem dX9_init_230 : decode cX9_init 230 = .ok (.iconst (-1), 1) := by decide +kernel
theorem dX9_init_231 : decode cX9_init 231 = .ok (.iastore, 1) := by decide +kernel
theorem dX9_init_232 : decode cX9_init 232 = .ok (.putfield 63, 3) := by decide +kernel
theorem dX9_init_235 : decode cX9_init 235 = .ok (.aload_n 0, 1) := by decide +kernel
theorem dX9_init_236 : decode cX9_init 236 = .ok (.bipush 6, 2) := by decide +kernel
theorem dX9_init_238 : decode cX9_init 238 = .ok (.newarray .int, 2) := by decide +kernel
theorem dX9_init_240 : decode cX9_init 240 = .ok (.putfield 66, 3) := by decide +kernel
theorem dX9_init_243 : decode cX9_init 243 = .ok (.aload_n 0, 1) := by decide +kernel
theorem dX9_init_244 : decode cX9_init 244 = .ok (.bipush 6, 2) := by decide +kernel
theorem dX9_init_246 : decode cX9_init 246 = .ok (.newarray .int, 2) := by decide +kernel
theorem dX9_init_248 : decode cX9_init 248 = .ok (.putfield 69, 3) := by decide +kernel
theorem dX9_init_251 : decode cX9_init 251 = .ok (.aload_n 0, 1) := by decide +kernel
theorem dX9_init_252 : decode cX9_init 252 = .ok (.bipush 6, 2) := by decide +kernel
theorem dX9_init_254 : decode cX9_init 254 = .ok (.newarray .int, 2) := by decide +kernel
theorem dX9_init_256 : decode cX9_init 256 = .ok (.putfield 72, 3) := by decide +kernel
theorem dX9_init_259 : decode cX9_init 259 = .ok (.aload_n 0, 1) := by decide +kernel
theorem dX9_init_260 : decode cX9_init 260 = .ok (.bipush 6, 2) := by decide +kernel
theorem dX9_init_262 : decode cX9_init 262 = .ok (.newarray .long, 2) := by decide +kernel
theorem dX9_init_264 : decode cX9_init 264 = .ok (.putfield 75, 3) := by decide +kernel
theorem dX9_init_267 : decode cX9_init 267 = .ok (.aload_n 0, 1) := by decide +kernel
theorem dX9_init_268 : decode cX9_init 268 = .ok (.bipush 6, 2) := by decide +kernel
theorem dX9_init_270 : decode cX9_init 270 = .ok (.newarray .int, 2) := by decide +kernel
theorem dX9_init_272 : decode cX9_init 272 = .ok (.putfield 79, 3) := by decide +kernel
theorem dX9_init_275 : decode cX9_init 275 = .ok (.aload_n 0, 1) := by decide +kernel
theorem dX9_init_276 : decode cX9_init 276 = .ok (.bipush 6, 2) := by decide +kernel
theorem dX9_init_278 : decode cX9_init 278 = .ok (.newarray .long, 2) := by decide +kernel
theorem dX9_init_280 : decode cX9_init 280 = .ok (.putfield 82, 3) := by decide +kernel
theorem dX9_init_283 : decode cX9_init 283 = .ok (.aload_n 0, 1) := by decide +kernel
theorem dX9_init_284 : decode cX9_init 284 = .ok (.bipush 6, 2) := by decide +kernel
theorem dX9_init_286 : decode cX9_init 286 = .ok (.newarray .long, 2) := by decide +kernel
theorem dX9_init_288 : decode cX9_init 288 = .ok (.putfield 85, 3) := by decide +kernel
theorem dX9_init_291 : decode cX9_init 291 = .ok (.aload_n 0, 1) := by decide +kernel
theorem dX9_init_292 : decode cX9_init 292 = .ok (.bipush 6, 2) := by decide +kernel
theorem dX9_init_294 : decode cX9_init 294 = .ok (.newarray .int, 2) := by decide +kernel
theorem dX9_init_296 : decode cX9_init 296 = .ok (.putfield 88, 3) := by decide +kernel
theorem dX9_init_299 : decode cX9_init 299 = .ok (.aload_n 0, 1) := by decide +kernel
theorem dX9_init_300 : decode cX9_init 300 = .ok (.bipush 6, 2) := by decide +kernel
theorem dX9_init_302 : decode cX9_init 302 = .ok (.newarray .int, 2) := by decide +kernel
theorem dX9_init_304 : decode cX9_init 304 = .ok (.putfield 91, 3) := by decide +kernel
theorem dX9_init_307 : decode cX9_init 307 = .ok (.return_, 1) := by decide +kernel
theorem dX9_thrown_0 : decode cX9_thrown 0 = .ok (.aload_n 0, 1) := by decide +kernel
theorem dX9_thrown_1 : decode cX9_thrown 1 = .ok (.getfield 94, 3) := by decide +kernel
theorem dX9_thrown_4 : decode cX9_thrown 4 = .ok (.ireturn, 1) := by decide +kernel
theorem dX9_goesWell_0 : decode cX9_goesWell 0 = .ok (.aload_n 0, 1) := by decide +kernel
theorem dX9_goesWell_1 : decode cX9_goesWell 1 = .ok (.iload_n 1, 1) := by decide +kernel
theorem dX9_goesWell_2 : decode cX9_goesWell 2 = .ok (.putfield 94, 3) := by decide +kernel
theorem dX9_goesWell_5 : decode cX9_goesWell 5 = .ok (.iload_n 1, 1) := by decide +kernel
theorem dX9_goesWell_6 : decode cX9_goesWell 6 = .ok (.ifCond .ne 7, 3) := by decide +kernel
theorem dX9_goesWell_9 : decode cX9_goesWell 9 = .ok (.iconst 1, 1) := by decide +kernel
theorem dX9_goesWell_10 : decode cX9_goesWell 10 = .ok (.goto 4, 3) := by decide +kernel
theorem dX9_goesWell_13 : decode cX9_goesWell 13 = .ok (.iconst 0, 1) := by decide +kernel
theorem dX9_goesWell_14 : decode cX9_goesWell 14 = .ok (.ireturn, 1) := by decide +kernel
theorem dX9_in_0 : decode cX9_in 0 = .ok (.iload_n 0, 1) := by decide +kernel
theorem dX9_in_1 : decode cX9_in 1 = .ok (.iload_n 1, 1) := by decide +kernel
theorem dX9_in_2 : decode cX9_in 2 = .ok (.if_icmp .lt 12, 3) := by decide +kernel
theorem dX9_in_5 : decode cX9_in 5 = .ok (.iload_n 0, 1) := by decide +kernel
theorem dX9_in_6 : decode cX9_in 6 = .ok (.iload_n 2, 1) := by decide +kernel
theorem dX9_in_7 : decode cX9_in 7 = .ok (.if_icmp .gt 7, 3) := by decide +kernel
theorem dX9_in_10 : decode cX9_in 10 = .ok (.iconst 1, 1) := by decide +kernel
theorem dX9_in_11 : decode cX9_in 11 = .ok (.goto 4, 3) := by decide +kernel
theorem dX9_in_14 : decode cX9_in 14 = .ok (.iconst 0, 1) := by decide +kernel
theorem dX9_in_15 : decode cX9_in 15 = .ok (.ireturn, 1) := by decide +kernel
set_option maxRecDepth 20000 in
theorem ggX9_isPlayer_X9_in : GoodIn wsX9_isPlayer wsX9_in := goodIn_r _ [4] (by decide +kernel) (by decide +kernel)
set_option maxRecDepth 20000 in
theorem gX9_isPlayer_X9_in : GoodIn wsX9_isPlayer (va_wsS RX9 97 yX9_in wsX9_in) := goodIn_app (goodIn_of _ (by decide +kernel)) ggX9_isPlayer_X9_in
theorem dX9_isPlayer_0 : decode cX9_isPlayer 0 = .ok (.iload_n 0, 1) := by decide +kernel
theorem dX9_isPlayer_1 : decode cX9_isPlayer 1 = .ok (.iconst 0, 1) := by decide +kernel
theorem dX9_isPlayer_2 : decode cX9_isPlayer 2 = .ok (.iconst 5, 1) := by decide +kernel
theorem dX9_isPlayer_3 : decode cX9_isPlayer 3 = .ok (.invokestatic 97, 3) := by decide +kernel
theorem dX9_isPlayer_6 : decode cX9_isPlayer 6 = .ok (.ireturn, 1) := by decide +kernel
set_option maxRecDepth 20000 in
theorem ggX9_isKind_X9_in : GoodIn wsX9_isKind wsX9_in := goodIn_r _ [5] (by decide +kernel) (by decide +kernel)
set_option maxRecDepth 20000 in
theorem gX9_isKind_X9_in : GoodIn wsX9_isKind (va_wsS RX9 97 yX9_in wsX9_in) := goodIn_app (goodIn_of _ (by decide +kernel)) ggX9_isKind_X9_in
theorem dX9_isKind_0 : decode cX9_isKind 0 = .ok (.iload_n 1, 1) := by decide +kernel
theorem dX9_isKind_1 : decode cX9_isKind 1 = .ok (.iconst 0, 1) := by decide +kernel
theorem dX9_isKind_2 : decode cX9_isKind 2 = .ok (.aload_n 0, 1) := by decide +kernel
theorem dX9_isKind_3 : decode cX9_isKind 3 = .ok (.getfield 101, 3) := by decide +kernel
theorem dX9_isKind_6 : decode cX9_isKind 6 = .ok (.iconst 1, 1) := by decide +kernel
theorem dX9_isKind_7 : decode cX9_isKind 7 = .ok (.isub, 1) := by decide +kernel
theorem dX9_isKind_8 : decode cX9_isKind 8 = .ok (.invokestatic 97, 3) := by decide +kernel
theorem dX9_isKind_11 : decode cX9_isKind 11 = .ok (.ireturn, 1) := by decide +kernel
set_option maxRecDepth 20000 in
theorem ggX9_kind_X9_in : GoodIn wsX9_kind wsX9_in := goodIn_r _ [8] (by decide +kernel) (by decide +kernel)
set_option maxRecDepth 20000 in
theorem gX9_kind_X9_in : GoodIn wsX9_kind (va_wsS RX9 97 yX9_in wsX9_in) := goodIn_app (goodIn_of _ (by decide +kernel)) ggX9_kind_X9_in
set_option maxRecDepth 20000 in
theorem ggX9_kind_X9_goesWell : GoodIn wsX9_kind wsX9_goesWell := goodIn_r _ [12, 13, 14, 15, 16, 17, 18, 19, 20, 21, 22, 23, 24, 25, 26, 27, 28, 29, 30, 31, 32, 33, 34, 35, 36, 37, 38, 39, 40, 41, 42, 43, 44, 45, 46, 47, 48, 49, 50] (by decide +kernel) (by decide +kernel)
set_option maxRecDepth 20000 in
theorem gX9_kind_X9_goesWell : GoodIn wsX9_kind (wsV RX9 104 RX9 yX9_goesWell wsX9_goesWell) := goodIn_app (goodIn_of _ (by decide +kernel)) ggX9_kind_X9_goesWell
theorem dX9_kind_0 : decode cX9_kind 0 = .ok (.iload_n 1, 1) := by decide +kernel
theorem dX9_kind_1 : decode cX9_kind 1 = .ok (.iconst 0, 1) := by decide +kernel
theorem dX9_kind_2 : decode cX9_kind 2 = .ok (.iconst 5, 1) := by decide +kernel
theorem dX9_kind_3 : decode cX9_kind 3 = .ok (.invokestatic 97, 3) := by decide +kernel
theorem dX9_kind_6 : decode cX9_kind 6 = .ok (.ifCond .eq 17, 3) := by decide +kernel
theorem dX9_kind_9 : decode cX9_kind 9 = .ok (.iload_n 2, 1) := by decide +kernel
theorem dX9_kind_10 : decode cX9_kind 10 = .ok (.iconst 1, 1) := by decide +kernel
theorem dX9_kind_11 : decode cX9_kind 11 = .ok (.bipush 9, 2) := by decide +kernel
theorem dX9_kind_13 : decode cX9_kind 13 = .ok (.invokestatic 97, 3) := by decide +kernel
theorem dX9_kind_16 : decode cX9_kind 16 = .ok (.ifCond .eq 7, 3) := by decide +kernel
theorem dX9_kind_19 : decode cX9_kind 19 = .ok (.iconst 1, 1) := by decide +kernel
theorem dX9_kind_20 : decode cX9_kind 20 = .ok (.goto 4, 3) := by decide +kernel
theorem dX9_kind_23 : decode cX9_kind 23 = .ok (.iconst 0, 1) := by decide +kernel
theorem dX9_kind_24 : decode cX9_kind 24 = .ok (.istore_n 3, 1) := by decide +kernel
theorem dX9_kind_25 : decode cX9_kind 25 = .ok (.aload_n 0, 1) := by decide +kernel
theorem dX9_kind_26 : decode cX9_kind 26 = .ok (.iload_n 3, 1) := by decide +kernel
theorem dX9_kind_27 : decode cX9_kind 27 = .ok (.ifCond .ne 7, 3) := by decide +kernel
theorem dX9_kind_30 : decode cX9_kind 30 = .ok (.iconst 1, 1) := by decide +kernel
theorem dX9_kind_31 : decode cX9_kind 31 = .ok (.goto 17, 3) := by decide +kernel
theorem dX9_kind_34 : decode cX9_kind 34 = .ok (.aload_n 0, 1) := by decide +kernel
theorem dX9_kind_35 : decode cX9_kind 35 = .ok (.getfield 101, 3) := by decide +kernel
theorem dX9_kind_38 : decode cX9_kind 38 = .ok (.bipush 20, 2) := by decide +kernel
theorem dX9_kind_40 : decode cX9_kind 40 = .ok (.if_icmp .ne 7, 3) := by decide +kernel
theorem dX9_kind_43 : decode cX9_kind 43 = .ok (.iconst 2, 1) := by decide +kernel
theorem dX9_kind_44 : decode cX9_kind 44 = .ok (.goto 4, 3) := by decide +kernel
theorem dX9_kind_47 : decode cX9_kind 47 = .ok (.iconst 0, 1) := by decide +kernel
theorem dX9_kind_48 : decode cX9_kind 48 = .ok (.invokevirtual 104, 3) := by decide +kernel
theorem dX9_kind_51 : decode cX9_kind 51 = .ok (.ifCond .ne 5, 3) := by decide +kernel
theorem dX9_kind_54 : decode cX9_kind 54 = .ok (.iconst 0, 1) := by decide +kernel
theorem dX9_kind_55 : decode cX9_kind 55 = .ok (.ireturn, 1) := by decide +kernel
theorem dX9_kind_56 : decode cX9_kind 56 = .ok (.aload_n 0, 1) := by decide +kernel
theorem dX9_kind_57 : decode cX9_kind 57 = .ok (.getfield 7, 3) := by decide +kernel
theorem dX9_kind_60 : decode cX9_kind 60 = .ok (.aload_n 0, 1) := by decide +kernel
theorem dX9_kind_61 : decode cX9_kind 61 = .ok (.getfield 101, 3) := by decide +kernel
theorem dX9_kind_64 : decode cX9_kind 64 = .ok (.iload_n 1, 1) := by decide +kernel
theorem dX9_kind_65 : decode cX9_kind 65 = .ok (.iastore, 1) := by decide +kernel
theorem dX9_kind_66 : decode cX9_kind 66 = .ok (.aload_n 0, 1) := by decide +kernel
theorem dX9_kind_67 : decode cX9_kind 67 = .ok (.getfield 13, 3) := by decide +kernel
theorem dX9_kind_70 : decode cX9_kind 70 = .ok (.aload_n 0, 1) := by decide +kernel
theorem dX9_kind_71 : decode cX9_kind 71 = .ok (.getfield 101, 3) := by decide +kernel
theorem dX9_kind_74 : decode cX9_kind 74 = .ok (.iload_n 2, 1) := by decide +kernel
theorem dX9_kind_75 : decode cX9_kind 75 = .ok (.iastore, 1) := by decide +kernel
theorem dX9_kind_76 : decode cX9_kind 76 = .ok (.aload_n 0, 1) := by decide +kernel
theorem dX9_kind_77 : decode cX9_kind 77 = .ok (.getfield 16, 3) := by decide +kernel
theorem dX9_kind_80 : decode cX9_kind 80 = .ok (.aload_n 0, 1) := by decide +kernel
theorem dX9_kind_81 : decode cX9_kind 81 = .ok (.getfield 101, 3) := by decide +kernel
theorem dX9_kind_84 : decode cX9_kind 84 = .ok (.iconst (-1), 1) := by decide +kernel
theorem dX9_kind_85 : decode cX9_kind 85 = .ok (.iastore, 1) := by decide +kernel
theorem dX9_kind_86 : decode cX9_kind 86 = .ok (.aload_n 0, 1) := by decide +kernel
theorem dX9_kind_87 : decode cX9_kind 87 = .ok (.dup, 1) := by decide +kernel
theorem dX9_kind_88 : decode cX9_kind 88 = .ok (.getfield 101, 3) := by decide +kernel
theorem dX9_kind_91 : decode cX9_kind 91 = .ok (.iconst 1, 1) := by decide +kernel
theorem dX9_kind_92 : decode cX9_kind 92 = .ok (.iadd, 1) := by decide +kernel
theorem dX9_kind_93 : decode cX9_kind 93 = .ok (.putfield 101, 3) := by decide +kernel
theorem dX9_kind_96 : decode cX9_kind 96 = .ok (.aload_n 0, 1) := by decide +kernel
theorem dX9_kind_97 : decode cX9_kind 97 = .ok (.getfield 101, 3) := by decide +kernel
theorem dX9_kind_100 : decode cX9_kind 100 = .ok (.iconst 1, 1) := by decide +kernel
theorem dX9_kind_101 : decode cX9_kind 101 = .ok (.isub, 1) := by decide +kernel
theorem dX9_kind_102 : decode cX9_kind 102 = .ok (.ireturn, 1) := by decide +kernel
theorem dX9_inDeck_0 : decode cX9_inDeck 0 = .ok (.iconst 0, 1) := by decide +kernel
theorem dX9_inDeck_1 : decode cX9_inDeck 1 = .ok (.istore_n 3, 1) := by decide +kernel
theorem dX9_inDeck_2 : decode cX9_inDeck 2 = .ok (.iconst 0, 1) := by decide +kernel
theorem dX9_inDeck_3 : decode cX9_inDeck 3 = .ok (.istore 4, 2) := by decide +kernel
theorem dX9_inDeck_5 : decode cX9_inDeck 5 = .ok (.iload 4, 2) := by decide +kernel
theorem dX9_inDeck_7 : decode cX9_inDeck 7 = .ok (.aload_n 0, 1) := by decide +kernel
theorem dX9_inDeck_8 : decode cX9_inDeck 8 = .ok (.getfield 38, 3) := by decide +kernel
theorem dX9_inDeck_11 : decode cX9_inDeck 11 = .ok (.iload_n 1, 1) := by decide +kernel
theorem dX9_inDeck_12 : decode cX9_inDeck 12 = .ok (.iaload, 1) := by decide +kernel
theorem dX9_inDeck_13 : decode cX9_inDeck 13 = .ok (.if_icmp .ge 33, 3) := by decide +kernel
theorem dX9_inDeck_16 : decode cX9_inDeck 16 = .ok (.iload_n 3, 1) := by decide +kernel
theorem dX9_inDeck_17 : decode cX9_inDeck 17 = .ok (.aload_n 0, 1) := by decide +kernel
theorem dX9_inDeck_18 : decode cX9_inDeck 18 = .ok (.getfield 35, 3) := by decide +kernel
theorem dX9_inDeck_21 : decode cX9_inDeck 21 = .ok (.bipush 8, 2) := by decide +kernel
theorem dX9_inDeck_23 : decode cX9_inDeck 23 = .ok (.iload_n 1, 1) := by decide +kernel
theorem dX9_inDeck_24 : decode cX9_inDeck 24 = .ok (.imul, 1) := by decide +kernel
theorem dX9_inDeck_25 : decode cX9_inDeck 25 = .ok (.iload 4, 2) := by decide +kernel
theorem dX9_inDeck_27 : decode cX9_inDeck 27 = .ok (.iadd, 1) := by decide +kernel
theorem dX9_inDeck_28 : decode cX9_inDeck 28 = .ok (.iaload, 1) := by decide +kernel
theorem dX9_inDeck_29 : decode cX9_inDeck 29 = .ok (.iload_n 2, 1) := by decide +kernel
theorem dX9_inDeck_30 : decode cX9_inDeck 30 = .ok (.if_icmp .ne 7, 3) := by decide +kernel
theorem dX9_inDeck_33 : decode cX9_inDeck 33 = .ok (.iconst 1, 1) := by decide +kernel
theorem dX9_inDeck_34 : decode cX9_inDeck 34 = .ok (.goto 4, 3) := by decide +kernel
theorem dX9_inDeck_37 : decode cX9_inDeck 37 = .ok (.iconst 0, 1) := by decide +kernel
theorem dX9_inDeck_38 : decode cX9_inDeck 38 = .ok (.iadd, 1) := by decide +kernel
theorem dX9_inDeck_39 : decode cX9_inDeck 39 = .ok (.istore_n 3, 1) := by decide +kernel
theorem dX9_inDeck_40 : decode cX9_inDeck 40 = .ok (.iinc 4 1, 3) := by decide +kernel
theorem dX9_inDeck_43 : decode cX9_inDeck 43 = .ok (.goto (-38), 3) := by decide +kernel
theorem dX9_inDeck_46 : decode cX9_inDeck 46 = .ok (.iload_n 3, 1) := by decide +kernel
theorem dX9_inDeck_47 : decode cX9_inDeck 47 = .ok (.ireturn, 1) := by decide +kernel
set_option maxRecDepth 20000 in
theorem ggX9_ban_X9_isKind : GoodIn wsX9_ban wsX9_isKind := goodIn_r _ [7, 8, 9, 10, 6, 11, 23, 24, 25, 26, 27, 28, 29, 30, 31, 32, 33, 34, 35, 36, 37, 38, 39, 40, 41, 42, 43, 44, 45, 46, 47, 48, 49, 50, 51, 52, 53, 54, 55, 56, 57, 58, 59] (by decide +kernel) (by decide +kernel)
set_option maxRecDepth 20000 in
theorem gX9_ban_X9_isKind : GoodIn wsX9_ban (wsV RX9 108 RX9 yX9_isKind wsX9_isKind) := goodIn_app (goodIn_of _ (by decide +kernel)) ggX9_ban_X9_isKind
set_option maxRecDepth 20000 in
theorem ggX9_ban_X9_in : GoodIn wsX9_ban wsX9_in := goodIn_r _ [11] (by decide +kernel) (by decide +kernel)
set_option maxRecDepth 20000 in
theorem gX9_ban_X9_in : GoodIn wsX9_ban (va_wsS RX9 97 yX9_in wsX9_in) := goodIn_app (goodIn_of _ (by decide +kernel)) ggX9_ban_X9_in
set_option maxRecDepth 20000 in
theorem ggX9_ban_X9_goesWell : GoodIn wsX9_ban wsX9_goesWell := goodIn_r _ [15, 16, 23, 24, 25, 26, 27, 28, 29, 30, 31, 32, 33, 34, 35, 36, 37, 38, 39, 40, 41, 42, 43, 44, 45, 46, 47, 48, 49, 50, 51, 52, 53, 54, 55, 56, 57, 58, 59] (by decide +kernel) (by decide +kernel)
set_option maxRecDepth 20000 in
theorem gX9_ban_X9_goesWell : GoodIn wsX9_ban (wsV RX9 104 RX9 yX9_goesWell wsX9_goesWell) := goodIn_app (goodIn_of _ (by decide +kernel)) ggX9_ban_X9_goesWell
set_option maxRecDepth 20000 in
theorem ggX9_ban_X9_inDeck : GoodIn wsX9_ban wsX9_inDeck := goodIn_r _ [20, 21, 22, 23, 24, 25, 26, 27, 28, 29, 30, 31, 32, 33, 34, 35, 36, 37, 38, 39, 40, 41, 42, 43, 44, 45, 46, 47, 48, 49, 50, 51, 52, 53, 54, 55, 56, 57, 58, 59] (by decide +kernel) (by decide +kernel)
set_option maxRecDepth 20000 in
theorem gX9_ban_X9_inDeck : GoodIn wsX9_ban (wsV RX9 114 RX9 yX9_inDeck wsX9_inDeck) := goodIn_app (goodIn_of _ (by decide +kernel)) ggX9_ban_X9_inDeck
theorem dX9_ban_0 : decode cX9_ban 0 = .ok (.aload_n 0, 1) := by decide +kernel
theorem dX9_ban_1 : decode cX9_ban 1 = .ok (.iload_n 1, 1) := by decide +kernel
theorem dX9_ban_2 : decode cX9_ban 2 = .ok (.invokevirtual 108, 3) := by decide +kernel
theorem dX9_ban_5 : decode cX9_ban 5 = .ok (.istore_n 3, 1) := by decide +kernel
theorem dX9_ban_6 : decode cX9_ban 6 = .ok (.aload_n 0, 1) := by decide +kernel
theorem dX9_ban_7 : decode cX9_ban 7 = .ok (.iload_n 3, 1) := by decide +kernel
theorem dX9_ban_8 : decode cX9_ban 8 = .ok (.ifCond .ne 7, 3) := by decide +kernel
theorem dX9_ban_11 : decode cX9_ban 11 = .ok (.iconst 1, 1) := by decide +kernel
theorem dX9_ban_12 : decode cX9_ban 12 = .ok (.goto 22, 3) := by decide +kernel
theorem dX9_ban_15 : decode cX9_ban 15 = .ok (.iload_n 2, 1) := by decide +kernel
theorem dX9_ban_16 : decode cX9_ban 16 = .ok (.aload_n 0, 1) := by decide +kernel
theorem dX9_ban_17 : decode cX9_ban 17 = .ok (.getfield 111, 3) := by decide +kernel
theorem dX9_ban_20 : decode cX9_ban 20 = .ok (.sipush 1000, 3) := by decide +kernel
theorem dX9_ban_23 : decode cX9_ban 23 = .ok (.invokestatic 97, 3) := by decide +kernel
theorem dX9_ban_26 : decode cX9_ban 26 = .ok (.ifCond .eq 7, 3) := by decide +kernel
theorem dX9_ban_29 : decode cX9_ban 29 = .ok (.iconst 0, 1) := by decide +kernel
theorem dX9_ban_30 : decode cX9_ban 30 = .ok (.goto 4, 3) := by decide +kernel
theorem dX9_ban_33 : decode cX9_ban 33 = .ok (.iconst 2, 1) := by decide +kernel
theorem dX9_ban_34 : decode cX9_ban 34 = .ok (.invokevirtual 104, 3) := by decide +kernel
theorem dX9_ban_37 : decode cX9_ban 37 = .ok (.ifCond .ne 5, 3) := by decide +kernel
theorem dX9_ban_40 : decode cX9_ban 40 = .ok (.iconst 0, 1) := by decide +kernel
theorem dX9_ban_41 : decode cX9_ban 41 = .ok (.ireturn, 1) := by decide +kernel
theorem dX9_ban_42 : decode cX9_ban 42 = .ok (.aload_n 0, 1) := by decide +kernel
theorem dX9_ban_43 : decode cX9_ban 43 = .ok (.getfield 16, 3) := by decide +kernel
theorem dX9_ban_46 : decode cX9_ban 46 = .ok (.iload_n 1, 1) := by decide +kernel
theorem dX9_ban_47 : decode cX9_ban 47 = .ok (.iload_n 2, 1) := by decide +kernel
theorem dX9_ban_48 : decode cX9_ban 48 = .ok (.iastore, 1) := by decide +kernel
theorem dX9_ban_49 : decode cX9_ban 49 = .ok (.iconst 0, 1) := by decide +kernel
theorem dX9_ban_50 : decode cX9_ban 50 = .ok (.istore 4, 2) := by decide +kernel
theorem dX9_ban_52 : decode cX9_ban 52 = .ok (.iconst 0, 1) := by decide +kernel
theorem dX9_ban_53 : decode cX9_ban 53 = .ok (.istore 5, 2) := by decide +kernel
theorem dX9_ban_55 : decode cX9_ban 55 = .ok (.iload 5, 2) := by decide +kernel
theorem dX9_ban_57 : decode cX9_ban 57 = .ok (.bipush 6, 2) := by decide +kernel
theorem dX9_ban_59 : decode cX9_ban 59 = .ok (.if_icmp .ge 29, 3) := by decide +kernel
theorem dX9_ban_62 : decode cX9_ban 62 = .ok (.iload 4, 2) := by decide +kernel
theorem dX9_ban_64 : decode cX9_ban 64 = .ok (.aload_n 0, 1) := by decide +kernel
theorem dX9_ban_65 : decode cX9_ban 65 = .ok (.iload 5, 2) := by decide +kernel
theorem dX9_ban_67 : decode cX9_ban 67 = .ok (.iload_n 1, 1) := by decide +kernel
theorem dX9_ban_68 : decode cX9_ban 68 = .ok (.invokevirtual 114, 3) := by decide +kernel
theorem dX9_ban_71 : decode cX9_ban 71 = .ok (.ifCond .le 7, 3) := by decide +kernel
theorem dX9_ban_74 : decode cX9_ban 74 = .ok (.iconst 1, 1) := by decide +kernel
theorem dX9_ban_75 : decode cX9_ban 75 = .ok (.goto 4, 3) := by decide +kernel
theorem dX9_ban_78 : decode cX9_ban 78 = .ok (.iconst 0, 1) := by decide +kernel
theorem dX9_ban_79 : decode cX9_ban 79 = .ok (.iadd, 1) := by decide +kernel
theorem dX9_ban_80 : decode cX9_ban 80 = .ok (.istore 4, 2) := by decide +kernel
theorem dX9_ban_82 : decode cX9_ban 82 = .ok (.iinc 5 1, 3) := by decide +kernel
theorem dX9_ban_85 : decode cX9_ban 85 = .ok (.goto (-30), 3) := by decide +kernel
theorem dX9_ban_88 : decode cX9_ban 88 = .ok (.iload 4, 2) := by decide +kernel
theorem dX9_ban_90 : decode cX9_ban 90 = .ok (.ireturn, 1) := by decide +kernel
theorem dX9_isBanned_0 : decode cX9_isBanned 0 = .ok (.aload_n 0, 1) := by decide +kernel
theorem dX9_isBanned_1 : decode cX9_isBanned 1 = .ok (.getfield 16, 3) := by decide +kernel
theorem dX9_isBanned_4 : decode cX9_isBanned 4 = .ok (.iload_n 1, 1) := by decide +kernel
theorem dX9_isBanned_5 : decode cX9_isBanned 5 = .ok (.iaload, 1) := by decide +kernel
theorem dX9_isBanned_6 : decode cX9_isBanned 6 = .ok (.iconst (-1), 1) := by decide +kernel
theorem dX9_isBanned_7 : decode cX9_isBanned 7 = .ok (.if_icmp .eq 17, 3) := by decide +kernel
theorem dX9_isBanned_10 : decode cX9_isBanned 10 = .ok (.aload_n 0, 1) := by decide +kernel
theorem dX9_isBanned_11 : decode cX9_isBanned 11 = .ok (.getfield 16, 3) := by decide +kernel
theorem dX9_isBanned_14 : decode cX9_isBanned 14 = .ok (.iload_n 1, 1) := by decide +kernel
theorem dX9_isBanned_15 : decode cX9_isBanned 15 = .ok (.iaload, 1) := by decide +kernel
theorem dX9_isBanned_16 : decode cX9_isBanned 16 = .ok (.iload_n 2, 1) := by decide +kernel
theorem dX9_isBanned_17 : decode cX9_isBanned 17 = .ok (.if_icmp .gt 7, 3) := by decide +kernel
theorem dX9_isBanned_20 : decode cX9_isBanned 20 = .ok (.iconst 1, 1) := by decide +kernel
theorem dX9_isBanned_21 : decode cX9_isBanned 21 = .ok (.goto 4, 3) := by decide +kernel
theorem dX9_isBanned_24 : decode cX9_isBanned 24 = .ok (.iconst 0, 1) := by decide +kernel
theorem dX9_isBanned_25 : decode cX9_isBanned 25 = .ok (.ireturn, 1) := by decide +kernel
set_option maxRecDepth 20000 in
theorem ggX9_get_X9_isPlayer : GoodIn wsX9_get wsX9_isPlayer := goodIn_r _ [5, 6, 7, 4, 8] (by decide +kernel) (by decide +kernel)
set_option maxRecDepth 20000 in
theorem gX9_get_X9_isPlayer : GoodIn wsX9_get (va_wsS RX9 118 yX9_isPlayer wsX9_isPlayer) := goodIn_app (goodIn_of _ (by decide +kernel)) ggX9_get_X9_isPlayer
set_option maxRecDepth 20000 in
theorem ggX9_get_X9_isKind : GoodIn wsX9_get wsX9_isKind := goodIn_r _ [12, 13, 6, 7, 4, 8, 19, 20, 21, 22, 23, 24, 25, 26, 27, 28, 29, 30, 31, 32, 33, 34, 35, 36, 37, 38, 39, 40, 41, 42, 43, 44, 45, 46, 47, 48, 49, 50, 51, 52, 53, 54, 55] (by decide +kernel) (by decide +kernel)
set_option maxRecDepth 20000 in
theorem gX9_get_X9_isKind : GoodIn wsX9_get (wsV RX9 108 RX9 yX9_isKind wsX9_isKind) := goodIn_app (goodIn_of _ (by decide +kernel)) ggX9_get_X9_isKind
set_option maxRecDepth 20000 in
theorem ggX9_get_X9_in : GoodIn wsX9_get wsX9_in := goodIn_r _ [8] (by decide +kernel) (by decide +kernel)
set_option maxRecDepth 20000 in
theorem gX9_get_X9_in : GoodIn wsX9_get (va_wsS RX9 97 yX9_in wsX9_in) := goodIn_app (goodIn_of _ (by decide +kernel)) ggX9_get_X9_in
set_option maxRecDepth 20000 in
theorem ggX9_get_X9_goesWell : GoodIn wsX9_get wsX9_goesWell := goodIn_r _ [17, 18, 19, 20, 21, 22, 23, 24, 25, 26, 27, 28, 29, 30, 31, 32, 33, 34, 35, 36, 37, 38, 39, 40, 41, 42, 43, 44, 45, 46, 47, 48, 49, 50, 51, 52, 53, 54, 55] (by decide +kernel) (by decide +kernel)
set_option maxRecDepth 20000 in
theorem gX9_get_X9_goesWell : GoodIn wsX9_get (wsV RX9 104 RX9 yX9_goesWell wsX9_goesWell) := goodIn_app (goodIn_of _ (by decide +kernel)) ggX9_get_X9_goesWell
theorem dX9_get_0 : decode cX9_get 0 = .ok (.iload_n 1, 1) := by decide +kernel
theorem dX9_get_1 : decode cX9_get 1 = .ok (.invokestatic 118, 3) := by decide +kernel
theorem dX9_get_4 : decode cX9_get 4 = .ok (.ifCond .eq 15, 3) := by decide +kernel
theorem dX9_get_7 : decode cX9_get 7 = .ok (.aload_n 0, 1) := by decide +kernel
theorem dX9_get_8 : decode cX9_get 8 = .ok (.iload_n 2, 1) := by decide +kernel
theorem dX9_get_9 : decode cX9_get 9 = .ok (.invokevirtual 108, 3) := by decide +kernel
theorem dX9_get_12 : decode cX9_get 12 = .ok (.ifCond .eq 7, 3) := by decide +kernel
theorem dX9_get_15 : decode cX9_get 15 = .ok (.iconst 1, 1) := by decide +kernel
theorem dX9_get_16 : decode cX9_get 16 = .ok (.goto 4, 3) := by decide +kernel
theorem dX9_get_19 : decode cX9_get 19 = .ok (.iconst 0, 1) := by decide +kernel
theorem dX9_get_20 : decode cX9_get 20 = .ok (.istore 4, 2) := by decide +kernel
theorem dX9_get_22 : decode cX9_get 22 = .ok (.aload_n 0, 1) := by decide +kernel
theorem dX9_get_23 : decode cX9_get 23 = .ok (.iload 4, 2) := by decide +kernel
theorem dX9_get_25 : decode cX9_get 25 = .ok (.ifCond .ne 7, 3) := by decide +kernel
theorem dX9_get_28 : decode cX9_get 28 = .ok (.iconst 1, 1) := by decide +kernel
theorem dX9_get_29 : decode cX9_get 29 = .ok (.goto 18, 3) := by decide +kernel
theorem dX9_get_32 : decode cX9_get 32 = .ok (.iload_n 3, 1) := by decide +kernel
theorem dX9_get_33 : decode cX9_get 33 = .ok (.iconst 1, 1) := by decide +kernel
theorem dX9_get_34 : decode cX9_get 34 = .ok (.bipush 9, 2) := by decide +kernel
theorem dX9_get_36 : decode cX9_get 36 = .ok (.invokestatic 97, 3) := by decide +kernel
theorem dX9_get_39 : decode cX9_get 39 = .ok (.ifCond .eq 7, 3) := by decide +kernel
theorem dX9_get_42 : decode cX9_get 42 = .ok (.iconst 0, 1) := by decide +kernel
theorem dX9_get_43 : decode cX9_get 43 = .ok (.goto 4, 3) := by decide +kernel
theorem dX9_get_46 : decode cX9_get 46 = .ok (.iconst 2, 1) := by decide +kernel
theorem dX9_get_47 : decode cX9_get 47 = .ok (.invokevirtual 104, 3) := by decide +kernel
theorem dX9_get_50 : decode cX9_get 50 = .ok (.ifCond .ne 5, 3) := by decide +kernel
theorem dX9_get_53 : decode cX9_get 53 = .ok (.iconst 0, 1) := by decide +kernel
theorem dX9_get_54 : decode cX9_get 54 = .ok (.ireturn, 1) := by decide +kernel
theorem dX9_get_55 : decode cX9_get 55 = .ok (.aload_n 0, 1) := by decide +kernel
theorem dX9_get_56 : decode cX9_get 56 = .ok (.getfield 19, 3) := by decide +kernel
theorem dX9_get_59 : decode cX9_get 59 = .ok (.bipush 20, 2) := by decide +kernel
theorem dX9_get_61 : decode cX9_get 61 = .ok (.iload_n 1, 1) := by decide +kernel
theorem dX9_get_62 : decode cX9_get 62 = .ok (.imul, 1) := by decide +kernel
theorem dX9_get_63 : decode cX9_get 63 = .ok (.iload_n 2, 1) := by decide +kernel
theorem dX9_get_64 : decode cX9_get 64 = .ok (.iadd, 1) := by decide +kernel
theorem dX9_get_65 : decode cX9_get 65 = .ok (.dup2, 1) := by decide +kernel
theorem dX9_get_66 : decode cX9_get 66 = .ok (.iaload, 1) := by decide +kernel
theorem dX9_get_67 : decode cX9_get 67 = .ok (.iload_n 3, 1) := by decide +kernel
theorem dX9_get_68 : decode cX9_get 68 = .ok (.iadd, 1) := by decide +kernel
theorem dX9_get_69 : decode cX9_get 69 = .ok (.iastore, 1) := by decide +kernel
theorem dX9_get_70 : decode cX9_get 70 = .ok (.aload_n 0, 1) := by decide +kernel
theorem dX9_get_71 : decode cX9_get 71 = .ok (.getfield 19, 3) := by decide +kernel
theorem dX9_get_74 : decode cX9_get 74 = .ok (.bipush 20, 2) := by decide +kernel
theorem dX9_get_76 : decode cX9_get 76 = .ok (.iload_n 1, 1) := by decide +kernel
theorem dX9_get_77 : decode cX9_get 77 = .ok (.imul, 1) := by decide +kernel
theorem dX9_get_78 : decode cX9_get 78 = .ok (.iload_n 2, 1) := by decide +kernel
theorem dX9_get_79 : decode cX9_get 79 = .ok (.iadd, 1) := by decide +kernel
theorem dX9_get_80 : decode cX9_get 80 = .ok (.iaload, 1) := by decide +kernel
theorem dX9_get_81 : decode cX9_get 81 = .ok (.ireturn, 1) := by decide +kernel
set_option maxRecDepth 20000 in
theorem ggX9_pass_X9_in : GoodIn wsX9_pass wsX9_in := goodIn_r _ [5] (by decide +kernel) (by decide +kernel)
set_option maxRecDepth 20000 in
theorem gX9_pass_X9_in : GoodIn wsX9_pass (va_wsS RX9 97 yX9_in wsX9_in) := goodIn_app (goodIn_of _ (by decide +kernel)) ggX9_pass_X9_in
set_option maxRecDepth 20000 in
theorem ggX9_pass_X9_goesWell : GoodIn wsX9_pass wsX9_goesWell := goodIn_r _ [9, 10, 11, 12, 13, 14, 15, 16, 17, 18, 19, 20, 21, 22, 23, 24, 25, 26, 27, 28, 29, 30, 31, 32, 33, 34, 35, 36, 37, 38, 39, 40, 41, 42, 43, 44, 45, 46, 47] (by decide +kernel) (by decide +kernel)
set_option maxRecDepth 20000 in
theorem gX9_pass_X9_goesWell : GoodIn wsX9_pass (wsV RX9 104 RX9 yX9_goesWell wsX9_goesWell) := goodIn_app (goodIn_of _ (by decide +kernel)) ggX9_pass_X9_goesWell
theorem dX9_pass_0 : decode cX9_pass 0 = .ok (.iload_n 1, 1) := by decide +kernel
theorem dX9_pass_1 : decode cX9_pass 1 = .ok (.iconst 1, 1) := by decide +kernel
theorem dX9_pass_2 : decode cX9_pass 2 = .ok (.bipush 100, 2) := by decide +kernel
theorem dX9_pass_4 : decode cX9_pass 4 = .ok (.invokestatic 97, 3) := by decide +kernel
theorem dX9_pass_7 : decode cX9_pass 7 = .ok (.istore_n 2, 1) := by decide +kernel
theorem dX9_pass_8 : decode cX9_pass 8 = .ok (.aload_n 0, 1) := by decide +kernel
theorem dX9_pass_9 : decode cX9_pass 9 = .ok (.iload_n 2, 1) := by decide +kernel
theorem dX9_pass_10 : decode cX9_pass 10 = .ok (.ifCond .ne 7, 3) := by decide +kernel
theorem dX9_pass_13 : decode cX9_pass 13 = .ok (.iconst 1, 1) := by decide +kernel
theorem dX9_pass_14 : decode cX9_pass 14 = .ok (.goto 20, 3) := by decide +kernel
theorem dX9_pass_17 : decode cX9_pass 17 = .ok (.aload_n 0, 1) := by decide +kernel
theorem dX9_pass_18 : decode cX9_pass 18 = .ok (.getfield 111, 3) := by decide +kernel
theorem dX9_pass_21 : decode cX9_pass 21 = .ok (.iload_n 1, 1) := by decide +kernel
theorem dX9_pass_22 : decode cX9_pass 22 = .ok (.iadd, 1) := by decide +kernel
theorem dX9_pass_23 : decode cX9_pass 23 = .ok (.sipush 1000, 3) := by decide +kernel
theorem dX9_pass_26 : decode cX9_pass 26 = .ok (.if_icmp .le 7, 3) := by decide +kernel
theorem dX9_pass_29 : decode cX9_pass 29 = .ok (.iconst 2, 1) := by decide +kernel
theorem dX9_pass_30 : decode cX9_pass 30 = .ok (.goto 4, 3) := by decide +kernel
theorem dX9_pass_33 : decode cX9_pass 33 = .ok (.iconst 0, 1) := by decide +kernel
theorem dX9_pass_34 : decode cX9_pass 34 = .ok (.invokevirtual 104, 3) := by decide +kernel
theorem dX9_pass_37 : decode cX9_pass 37 = .ok (.ifCond .ne 5, 3) := by decide +kernel
theorem dX9_pass_40 : decode cX9_pass 40 = .ok (.iconst 0, 1) := by decide +kernel
theorem dX9_pass_41 : decode cX9_pass 41 = .ok (.ireturn, 1) := by decide +kernel
theorem dX9_pass_42 : decode cX9_pass 42 = .ok (.aload_n 0, 1) := by decide +kernel
theorem dX9_pass_43 : decode cX9_pass 43 = .ok (.dup, 1) := by decide +kernel
theorem dX9_pass_44 : decode cX9_pass 44 = .ok (.getfield 111, 3) := by decide +kernel
theorem dX9_pass_47 : decode cX9_pass 47 = .ok (.iload_n 1, 1) := by decide +kernel
theorem dX9_pass_48 : decode cX9_pass 48 = .ok (.iadd, 1) := by decide +kernel
theorem dX9_pass_49 : decode cX9_pass 49 = .ok (.putfield 111, 3) := by decide +kernel
theorem dX9_pass_52 : decode cX9_pass 52 = .ok (.aload_n 0, 1) := by decide +kernel
theorem dX9_pass_53 : decode cX9_pass 53 = .ok (.getfield 111, 3) := by decide +kernel
theorem dX9_pass_56 : decode cX9_pass 56 = .ok (.ireturn, 1) := by decide +kernel
set_option maxRecDepth 20000 in
theorem ggX9_play_X9_isPlayer : GoodIn wsX9_play wsX9_isPlayer := goodIn_r _ [13, 14, 15, 12, 16] (by decide +kernel) (by decide +kernel)
set_option maxRecDepth 20000 in
theorem gX9_play_X9_isPlayer : GoodIn wsX9_play (va_wsS RX9 118 yX9_isPlayer wsX9_isPlayer) := goodIn_app (goodIn_of _ (by decide +kernel)) ggX9_play_X9_isPlayer
set_option maxRecDepth 20000 in
theorem ggX9_play_X9_isKind : GoodIn wsX9_play wsX9_isKind := goodIn_r _ [20, 21, 14, 15, 12, 16, 32, 33, 34, 35, 36, 37, 38, 39, 40, 41, 42, 43, 44, 45, 46, 47, 48, 49, 50, 51, 52, 53, 54, 55, 56, 57, 58, 59, 60, 61, 62, 63, 64, 65, 66, 67, 68] (by decide +kernel) (by decide +kernel)
set_option maxRecDepth 20000 in
theorem gX9_play_X9_isKind : GoodIn wsX9_play (wsV RX9 108 RX9 yX9_isKind wsX9_isKind) := goodIn_app (goodIn_of _ (by decide +kernel)) ggX9_play_X9_isKind
set_option maxRecDepth 20000 in
theorem ggX9_play_X9_isBanned : GoodIn wsX9_play wsX9_isBanned := goodIn_r _ [25, 26, 32, 33, 34, 35, 36, 37, 38, 39, 40, 41, 42, 43, 44, 45, 46, 47, 48, 49, 50, 51, 52, 53, 54, 55, 56, 57, 58, 59, 60, 61, 62, 63, 64, 65, 66, 67, 68] (by decide +kernel) (by decide +kernel)
set_option maxRecDepth 20000 in
theorem gX9_play_X9_isBanned : GoodIn wsX9_play (wsV RX9 121 RX9 yX9_isBanned wsX9_isBanned) := goodIn_app (goodIn_of _ (by decide +kernel)) ggX9_play_X9_isBanned
set_option maxRecDepth 20000 in
theorem ggX9_play_X9_goesWell : GoodIn wsX9_play wsX9_goesWell := goodIn_r _ [30, 31, 32, 33, 34, 35, 36, 37, 38, 39, 40, 41, 42, 43, 44, 45, 46, 47, 48, 49, 50, 51, 52, 53, 54, 55, 56, 57, 58, 59, 60, 61, 62, 63, 64, 65, 66, 67, 68] (by decide +kernel) (by decide +kernel)
set_option maxRecDepth 20000 in
theorem gX9_play_X9_goesWell : GoodIn wsX9_play (wsV RX9 104 RX9 yX9_goesWell wsX9_goesWell) := goodIn_app (goodIn_of _ (by decide +kernel)) ggX9_play_X9_goesWell
theorem dX9_play_0 : decode cX9_play 0 = .ok (.iload_n 1, 1) := by decide +kernel
theorem dX9_play_1 : decode cX9_play 1 = .ok (.invokestatic 118, 3) := by decide +kernel
theorem dX9_play_4 : decode cX9_play 4 = .ok (.ifCond .eq 22, 3) := by decide +kernel
theorem dX9_play_7 : decode cX9_play 7 = .ok (.aload_n 0, 1) := by decide +kernel
theorem dX9_play_8 : decode cX9_play 8 = .ok (.iload_n 2, 1) := by decide +kernel
theorem dX9_play_9 : decode cX9_play 9 = .ok (.invokevirtual 108, 3) := by decide +kernel
theorem dX9_play_12 : decode cX9_play 12 = .ok (.ifCond .eq 14, 3) := by decide +kernel
theorem dX9_play_15 : decode cX9_play 15 = .ok (.iload_n 3, 1) := by decide +kernel
theorem dX9_play_16 : decode cX9_play 16 = .ok (.invokestatic 118, 3) := by decide +kernel
theorem dX9_play_19 : decode cX9_play 19 = .ok (.ifCond .eq 7, 3) := by decide +kernel
theorem dX9_play_22 : decode cX9_play 22 = .ok (.iconst 1, 1) := by decide +kernel
theorem dX9_play_23 : decode cX9_play 23 = .ok (.goto 4, 3) := by decide +kernel
theorem dX9_play_26 : decode cX9_play 26 = .ok (.iconst 0, 1) := by decide +kernel
theorem dX9_play_27 : decode cX9_play 27 = .ok (.istore 4, 2) := by decide +kernel
theorem dX9_play_29 : decode cX9_play 29 = .ok (.iload 4, 2) := by decide +kernel
theorem dX9_play_31 : decode cX9_play 31 = .ok (.ifCond .eq 42, 3) := by decide +kernel
theorem dX9_play_34 : decode cX9_play 34 = .ok (.aload_n 0, 1) := by decide +kernel
theorem dX9_play_35 : decode cX9_play 35 = .ok (.getfield 19, 3) := by decide +kernel
theorem dX9_play_38 : decode cX9_play 38 = .ok (.bipush 20, 2) := by decide +kernel
theorem dX9_play_40 : decode cX9_play 40 = .ok (.iload_n 1, 1) := by decide +kernel
theorem dX9_play_41 : decode cX9_play 41 = .ok (.imul, 1) := by decide +kernel
theorem dX9_play_42 : decode cX9_play 42 = .ok (.iload_n 2, 1) := by decide +kernel
theorem dX9_play_43 : decode cX9_play 43 = .ok (.iadd, 1) := by decide +kernel
theorem dX9_play_44 : decode cX9_play 44 = .ok (.iaload, 1) := by decide +kernel
theorem dX9_play_45 : decode cX9_play 45 = .ok (.ifCond .le 28, 3) := by decide +kernel
theorem dX9_play_48 : decode cX9_play 48 = .ok (.aload_n 0, 1) := by decide +kernel
theorem dX9_play_49 : decode cX9_play 49 = .ok (.iload_n 2, 1) := by decide +kernel
theorem dX9_play_50 : decode cX9_play 50 = .ok (.aload_n 0, 1) := by decide +kernel
theorem dX9_play_51 : decode cX9_play 51 = .ok (.getfield 111, 3) := by decide +kernel
theorem dX9_play_54 : decode cX9_play 54 = .ok (.invokevirtual 121, 3) := by decide +kernel
theorem dX9_play_57 : decode cX9_play 57 = .ok (.ifCond .ne 16, 3) := by decide +kernel
theorem dX9_play_60 : decode cX9_play 60 = .ok (.aload_n 0, 1) := by decide +kernel
theorem dX9_play_61 : decode cX9_play 61 = .ok (.getfield 125, 3) := by decide +kernel
theorem dX9_play_64 : decode cX9_play 64 = .ok (.bipush 6, 2) := by decide +kernel
theorem dX9_play_66 : decode cX9_play 66 = .ok (.if_icmp .ge 7, 3) := by decide +kernel
theorem dX9_play_69 : decode cX9_play 69 = .ok (.iconst 1, 1) := by decide +kernel
theorem dX9_play_70 : decode cX9_play 70 = .ok (.goto 4, 3) := by decide +kernel
theorem dX9_play_73 : decode cX9_play 73 = .ok (.iconst 0, 1) := by decide +kernel
theorem dX9_play_74 : decode cX9_play 74 = .ok (.istore 5, 2) := by decide +kernel
theorem dX9_play_76 : decode cX9_play 76 = .ok (.aload_n 0, 1) := by decide +kernel
theorem dX9_play_77 : decode cX9_play 77 = .ok (.iload 4, 2) := by decide +kernel
theorem dX9_play_79 : decode cX9_play 79 = .ok (.ifCond .ne 7, 3) := by decide +kernel
theorem dX9_play_82 : decode cX9_play 82 = .ok (.iconst 1, 1) := by decide +kernel
theorem dX9_play_83 : decode cX9_play 83 = .ok (.goto 13, 3) := by decide +kernel
theorem dX9_play_86 : decode cX9_play 86 = .ok (.iload 5, 2) := by decide +kernel
theorem dX9_play_88 : decode cX9_play 88 = .ok (.ifCond .eq 7, 3) := by decide +kernel
theorem dX9_play_91 : decode cX9_play 91 = .ok (.iconst 0, 1) := by decide +kernel
theorem dX9_play_92 : decode cX9_play 92 = .ok (.goto 4, 3) := by decide +kernel
theorem dX9_play_95 : decode cX9_play 95 = .ok (.iconst 2, 1) := by decide +kernel
theorem dX9_play_96 : decode cX9_play 96 = .ok (.invokevirtual 104, 3) := by decide +kernel
theorem dX9_play_99 : decode cX9_play 99 = .ok (.ifCond .ne 5, 3) := by decide +kernel
theorem dX9_play_102 : decode cX9_play 102 = .ok (.iconst 0, 1) := by decide +kernel
theorem dX9_play_103 : decode cX9_play 103 = .ok (.ireturn, 1) := by decide +kernel
theorem dX9_play_104 : decode cX9_play 104 = .ok (.aload_n 0, 1) := by decide +kernel
theorem dX9_play_105 : decode cX9_play 105 = .ok (.getfield 41, 3) := by decide +kernel
theorem dX9_play_108 : decode cX9_play 108 = .ok (.aload_n 0, 1) := by decide +kernel
theorem dX9_play_109 : decode cX9_play 109 = .ok (.getfield 125, 3) := by decide +kernel
theorem dX9_play_112 : decode cX9_play 112 = .ok (.iload_n 1, 1) := by decide +kernel
theorem dX9_play_113 : decode cX9_play 113 = .ok (.iastore, 1) := by decide +kernel
theorem dX9_play_114 : decode cX9_play 114 = .ok (.aload_n 0, 1) := by decide +kernel
theorem dX9_play_115 : decode cX9_play 115 = .ok (.getfield 44, 3) := by decide +kernel
theorem dX9_play_118 : decode cX9_play 118 = .ok (.aload_n 0, 1) := by decide +kernel
theorem dX9_play_119 : decode cX9_play 119 = .ok (.getfield 125, 3) := by decide +kernel
theorem dX9_play_122 : decode cX9_play 122 = .ok (.aload_n 0, 1) := by decide +kernel
theorem dX9_play_123 : decode cX9_play 123 = .ok (.getfield 7, 3) := by decide +kernel
theorem dX9_play_126 : decode cX9_play 126 = .ok (.iload_n 2, 1) := by decide +kernel
theorem dX9_play_127 : decode cX9_play 127 = .ok (.iaload, 1) := by decide +kernel
theorem dX9_play_128 : decode cX9_play 128 = .ok (.iastore, 1) := by decide +kernel
theorem dX9_play_129 : decode cX9_play 129 = .ok (.aload_n 0, 1) := by decide +kernel
theorem dX9_play_130 : decode cX9_play 130 = .ok (.getfield 47, 3) := by decide +kernel
theorem dX9_play_133 : decode cX9_play 133 = .ok (.aload_n 0, 1) := by decide +kernel
theorem dX9_play_134 : decode cX9_play 134 = .ok (.getfield 125, 3) := by decide +kernel
theorem dX9_play_137 : decode cX9_play 137 = .ok (.aload_n 0, 1) := by decide +kernel
theorem dX9_play_138 : decode cX9_play 138 = .ok (.getfield 13, 3) := by decide +kernel
theorem dX9_play_141 : decode cX9_play 141 = .ok (.iload_n 2, 1) := by decide +kernel
theorem dX9_play_142 : decode cX9_play 142 = .ok (.iaload, 1) := by decide +kernel
theorem dX9_play_143 : decode cX9_play 143 = .ok (.iastore, 1) := by decide +kernel
theorem dX9_play_144 : decode cX9_play 144 = .ok (.aload_n 0, 1) := by decide +kernel
theorem dX9_play_145 : decode cX9_play 145 = .ok (.getfield 50, 3) := by decide +kernel
theorem dX9_play_148 : decode cX9_play 148 = .ok (.aload_n 0, 1) := by decide +kernel
theorem dX9_play_149 : decode cX9_play 149 = .ok (.getfield 125, 3) := by decide +kernel
theorem dX9_play_152 : decode cX9_play 152 = .ok (.iload_n 3, 1) := by decide +kernel
theorem dX9_play_153 : decode cX9_play 153 = .ok (.iastore, 1) := by decide +kernel
theorem dX9_play_154 : decode cX9_play 154 = .ok (.aload_n 0, 1) := by decide +kernel
theorem dX9_play_155 : decode cX9_play 155 = .ok (.dup, 1) := by decide +kernel
theorem dX9_play_156 : decode cX9_play 156 = .ok (.getfield 125, 3) := by decide +kernel
theorem dX9_play_159 : decode cX9_play 159 = .ok (.iconst 1, 1) := by decide +kernel
theorem dX9_play_160 : decode cX9_play 160 = .ok (.iadd, 1) := by decide +kernel
theorem dX9_play_161 : decode cX9_play 161 = .ok (.putfield 125, 3) := by decide +kernel
theorem dX9_play_164 : decode cX9_play 164 = .ok (.aload_n 0, 1) := by decide +kernel
theorem dX9_play_165 : decode cX9_play 165 = .ok (.getfield 125, 3) := by decide +kernel
theorem dX9_play_168 : decode cX9_play 168 = .ok (.ireturn, 1) := by decide +kernel
theorem dX9_isInt_0 : decode cX9_isInt 0 = .ok (.lload_n 0, 1) := by decide +kernel
theorem dX9_isInt_1 : decode cX9_isInt 1 = .ok (.ldc2_w 128, 3) := by decide +kernel
theorem dX9_isInt_4 : decode cX9_isInt 4 = .ok (.lcmp, 1) := by decide +kernel
theorem dX9_isInt_5 : decode cX9_isInt 5 = .ok (.ifCond .lt 15, 3) := by decide +kernel
theorem dX9_isInt_8 : decode cX9_isInt 8 = .ok (.lload_n 0, 1) := by decide +kernel
theorem dX9_isInt_9 : decode cX9_isInt 9 = .ok (.ldc2_w 130, 3) := by decide +kernel
theorem dX9_isInt_12 : decode cX9_isInt 12 = .ok (.lcmp, 1) := by decide +kernel
theorem dX9_isInt_13 : decode cX9_isInt 13 = .ok (.ifCond .gt 7, 3) := by decide +kernel
theorem dX9_isInt_16 : decode cX9_isInt 16 = .ok (.iconst 1, 1) := by decide +kernel
theorem dX9_isInt_17 : decode cX9_isInt 17 = .ok (.goto 4, 3) := by decide +kernel
theorem dX9_isInt_20 : decode cX9_isInt 20 = .ok (.iconst 0, 1) := by decide +kernel
theorem dX9_isInt_21 : decode cX9_isInt 21 = .ok (.ireturn, 1) := by decide +kernel
theorem dX9_tryOff_0 : decode cX9_tryOff 0 = .ok (.iload_n 1, 1) := by decide +kernel
theorem dX9_tryOff_1 : decode cX9_tryOff 1 = .ok (.istore_n 2, 1) := by decide +kernel
theorem dX9_tryOff_2 : decode cX9_tryOff 2 = .ok (.iload_n 2, 1) := by decide +kernel
theorem dX9_tryOff_3 : decode cX9_tryOff 3 = .ok (.aload_n 0, 1) := by decide +kernel
theorem dX9_tryOff_4 : decode cX9_tryOff 4 = .ok (.getfield 132, 3) := by decide +kernel
theorem dX9_tryOff_7 : decode cX9_tryOff 7 = .ok (.iconst 1, 1) := by decide +kernel
theorem dX9_tryOff_8 : decode cX9_tryOff 8 = .ok (.isub, 1) := by decide +kernel
theorem dX9_tryOff_9 : decode cX9_tryOff 9 = .ok (.if_icmp .ge 65, 3) := by decide +kernel
theorem dX9_tryOff_12 : decode cX9_tryOff 12 = .ok (.aload_n 0, 1) := by decide +kernel
theorem dX9_tryOff_13 : decode cX9_tryOff 13 = .ok (.getfield 69, 3) := by decide +kernel
theorem dX9_tryOff_16 : decode cX9_tryOff 16 = .ok (.iload_n 2, 1) := by decide +kernel
theorem dX9_tryOff_17 : decode cX9_tryOff 17 = .ok (.aload_n 0, 1) := by decide +kernel
theorem dX9_tryOff_18 : decode cX9_tryOff 18 = .ok (.getfield 69, 3) := by decide +kernel
theorem dX9_tryOff_21 : decode cX9_tryOff 21 = .ok (.iload_n 2, 1) := by decide +kernel
theorem dX9_tryOff_22 : decode cX9_tryOff 22 = .ok (.iconst 1, 1) := by decide +kernel
theorem dX9_tryOff_23 : decode cX9_tryOff 23 = .ok (.iadd, 1) := by decide +kernel
theorem dX9_tryOff_24 : decode cX9_tryOff 24 = .ok (.iaload, 1) := by decide +kernel
theorem dX9_tryOff_25 : decode cX9_tryOff 25 = .ok (.iastore, 1) := by decide +kernel
theorem dX9_tryOff_26 : decode cX9_tryOff 26 = .ok (.aload_n 0, 1) := by decide +kernel
theorem dX9_tryOff_27 : decode cX9_tryOff 27 = .ok (.getfield 72, 3) := by decide +kernel
theorem dX9_tryOff_30 : decode cX9_tryOff 30 = .ok (.iload_n 2, 1) := by decide +kernel
theorem dX9_tryOff_31 : decode cX9_tryOff 31 = .ok (.aload_n 0, 1) := by decide +kernel
theorem dX9_tryOff_32 : decode cX9_tryOff 32 = .ok (.getfield 72, 3) := by decide +kernel
theorem dX9_tryOff_35 : decode cX9_tryOff 35 = .ok (.iload_n 2, 1) := by decide +kernel
theorem dX9_tryOff_36 : decode cX9_tryOff 36 = .ok (.iconst 1, 1) := by decide +kernel
theorem dX9_tryOff_37 : decode cX9_tryOff 37 = .ok (.iadd, 1) := by decide +kernel
theorem dX9_tryOff_38 : decode cX9_tryOff 38 = .ok (.iaload, 1) := by decide +kernel
theorem dX9_tryOff_39 : decode cX9_tryOff 39 = .ok (.iastore, 1) := by decide +kernel
theorem dX9_tryOff_40 : decode cX9_tryOff 40 = .ok (.aload_n 0, 1) := by decide +kernel
theorem dX9_tryOff_41 : decode cX9_tryOff 41 = .ok (.getfield 75, 3) := by decide +kernel
theorem dX9_tryOff_44 : decode cX9_tryOff 44 = .ok (.iload_n 2, 1) := by decide +kernel
theorem dX9_tryOff_45 : decode cX9_tryOff 45 = .ok (.aload_n 0, 1) := by decide +kernel
theorem dX9_tryOff_46 : decode cX9_tryOff 46 = .ok (.getfield 75, 3) := by decide +kernel
theorem dX9_tryOff_49 : decode cX9_tryOff 49 = .ok (.iload_n 2, 1) := by decide +kernel
theorem dX9_tryOff_50 : decode cX9_tryOff 50 = .ok (.iconst 1, 1) := by decide +kernel
theorem dX9_tryOff_51 : decode cX9_tryOff 51 = .ok (.iadd, 1) := by decide +kernel
theorem dX9_tryOff_52 : decode cX9_tryOff 52 = .ok (.laload, 1) := by decide +kernel
theorem dX9_tryOff_53 : decode cX9_tryOff 53 = .ok (.lastore, 1) := by decide +kernel
theorem dX9_tryOff_54 : decode cX9_tryOff 54 = .ok (.aload_n 0, 1) := by decide +kernel
theorem dX9_tryOff_55 : decode cX9_tryOff 55 = .ok (.getfield 79, 3) := by decide +kernel
theorem dX9_tryOff_58 : decode cX9_tryOff 58 = .ok (.iload_n 2, 1) := by decide +kernel
theorem dX9_tryOff_59 : decode cX9_tryOff 59 = .ok (.aload_n 0, 1) := by decide +kernel
theorem dX9_tryOff_60 : decode cX9_tryOff 60 = .ok (.getfield 79, 3) := by decide +kernel
theorem dX9_tryOff_63 : decode cX9_tryOff 63 = .ok (.iload_n 2, 1) := by decide +kernel
theorem dX9_tryOff_64 : decode cX9_tryOff 64 = .ok (.iconst 1, 1) := by decide +kernel
theorem dX9_tryOff_65 : decode cX9_tryOff 65 = .ok (.iadd, 1) := by decide +kernel
theorem dX9_tryOff_66 : decode cX9_tryOff 66 = .ok (.iaload, 1) := by decide +kernel
theorem dX9_tryOff_67 : decode cX9_tryOff 67 = .ok (.iastore, 1) := by decide +kernel
theorem dX9_tryOff_68 : decode cX9_tryOff 68 = .ok (.iinc 2 1, 3) := by decide +kernel
theorem dX9_tryOff_71 : decode cX9_tryOff 71 = .ok (.goto (-69), 3) := by decide +kernel
theorem dX9_tryOff_74 : decode cX9_tryOff 74 = .ok (.aload_n 0, 1) := by decide +kernel
theorem dX9_tryOff_75 : decode cX9_tryOff 75 = .ok (.dup, 1) := by decide +kernel
theorem dX9_tryOff_76 : decode cX9_tryOff 76 = .ok (.getfield 132, 3) := by decide +kernel
theorem dX9_tryOff_79 : decode cX9_tryOff 79 = .ok (.iconst 1, 1) := by decide +kernel
theorem dX9_tryOff_80 : decode cX9_tryOff 80 = .ok (.isub, 1) := by decide +kernel
theorem dX9_tryOff_81 : decode cX9_tryOff 81 = .ok (.putfield 132, 3) := by decide +kernel
theorem dX9_tryOff_84 : decode cX9_tryOff 84 = .ok (.return_, 1) := by decide +kernel
set_option maxRecDepth 20000 in
theorem ggX9_stopOne_X9_tryOff : GoodIn wsX9_stopOne wsX9_tryOff := goodIn_r _ [7, 1, 2, 8, 9, 10, 11, 12, 13, 14, 15, 16, 17, 18, 19, 20, 21, 22, 23, 24, 25, 26, 27, 28, 29, 30, 31, 32, 33, 34, 35, 36, 37, 38, 39, 40, 41, 42, 43, 44, 45, 46, 47] (by decide +kernel) (by decide +kernel)
set_option maxRecDepth 20000 in
theorem gX9_stopOne_X9_tryOff : GoodIn wsX9_stopOne (wsV RX9 135 RX9 yX9_tryOff wsX9_tryOff) := goodIn_app (goodIn_of _ (by decide +kernel)) ggX9_stopOne_X9_tryOff
theorem dX9_stopOne_0 : decode cX9_stopOne 0 = .ok (.aload_n 0, 1) := by decide +kernel
theorem dX9_stopOne_1 : decode cX9_stopOne 1 = .ok (.getfield 132, 3) := by decide +kernel
theorem dX9_stopOne_4 : decode cX9_stopOne 4 = .ok (.iconst 1, 1) := by decide +kernel
theorem dX9_stopOne_5 : decode cX9_stopOne 5 = .ok (.isub, 1) := by decide +kernel
theorem dX9_stopOne_6 : decode cX9_stopOne 6 = .ok (.istore_n 2, 1) := by decide +kernel
theorem dX9_stopOne_7 : decode cX9_stopOne 7 = .ok (.iload_n 2, 1) := by decide +kernel
theorem dX9_stopOne_8 : decode cX9_stopOne 8 = .ok (.ifCond .lt 19, 3) := by decide +kernel
theorem dX9_stopOne_11 : decode cX9_stopOne 11 = .ok (.aload_n 0, 1) := by decide +kernel
theorem dX9_stopOne_12 : decode cX9_stopOne 12 = .ok (.getfield 69, 3) := by decide +kernel
theorem dX9_stopOne_15 : decode cX9_stopOne 15 = .ok (.iload_n 2, 1) := by decide +kernel
theorem dX9_stopOne_16 : decode cX9_stopOne 16 = .ok (.iaload, 1) := by decide +kernel
theorem dX9_stopOne_17 : decode cX9_stopOne 17 = .ok (.iload_n 1, 1) := by decide +kernel
theorem dX9_stopOne_18 : decode cX9_stopOne 18 = .ok (.if_icmp .ne 9, 3) := by decide +kernel
theorem dX9_stopOne_21 : decode cX9_stopOne 21 = .ok (.iinc 2 (-1), 3) := by decide +kernel
theorem dX9_stopOne_24 : decode cX9_stopOne 24 = .ok (.goto (-17), 3) := by decide +kernel
theorem dX9_stopOne_27 : decode cX9_stopOne 27 = .ok (.iload_n 2, 1) := by decide +kernel
theorem dX9_stopOne_28 : decode cX9_stopOne 28 = .ok (.ifCond .lt 8, 3) := by decide +kernel
theorem dX9_stopOne_31 : decode cX9_stopOne 31 = .ok (.aload_n 0, 1) := by decide +kernel
theorem dX9_stopOne_32 : decode cX9_stopOne 32 = .ok (.iload_n 2, 1) := by decide +kernel
theorem dX9_stopOne_33 : decode cX9_stopOne 33 = .ok (.invokevirtual 135, 3) := by decide +kernel
theorem dX9_stopOne_36 : decode cX9_stopOne 36 = .ok (.return_, 1) := by decide +kernel
set_option maxRecDepth 20000 in
theorem ggX9_tryTop_X9_isInt : GoodIn wsX9_tryTop wsX9_isInt := goodIn_r _ [12, 13, 14] (by decide +kernel) (by decide +kernel)
set_option maxRecDepth 20000 in
theorem gX9_tryTop_X9_isInt : GoodIn wsX9_tryTop (va_wsS RX9 139 yX9_isInt wsX9_isInt) := goodIn_app (goodIn_of _ (by decide +kernel)) ggX9_tryTop_X9_isInt
set_option maxRecDepth 20000 in
theorem ggX9_tryTop_X9_stopOne : GoodIn wsX9_tryTop wsX9_stopOne := goodIn_r _ [18, 1, 7, 19, 20, 21, 11, 22, 4, 3, 2, 23, 24, 25, 26, 27, 28, 29, 30, 31, 32, 33, 34, 35, 36, 37, 38, 39, 40, 41, 42, 43, 44, 45, 46, 47, 48, 49, 50, 51, 52, 53, 54, 55, 56, 57, 58, 59] (by decide +kernel) (by decide +kernel)
set_option maxRecDepth 20000 in
theorem gX9_tryTop_X9_stopOne : GoodIn wsX9_tryTop (wsV RX9 143 RX9 yX9_stopOne wsX9_stopOne) := goodIn_app (goodIn_of _ (by decide +kernel)) ggX9_tryTop_X9_stopOne
theorem dX9_tryTop_0 : decode cX9_tryTop 0 = .ok (.aload_n 0, 1) := by decide +kernel
theorem dX9_tryTop_1 : decode cX9_tryTop 1 = .ok (.dup, 1) := by decide +kernel
theorem dX9_tryTop_2 : decode cX9_tryTop 2 = .ok (.getfield 132, 3) := by decide +kernel
theorem dX9_tryTop_5 : decode cX9_tryTop 5 = .ok (.iconst 1, 1) := by decide +kernel
theorem dX9_tryTop_6 : decode cX9_tryTop 6 = .ok (.isub, 1) := by decide +kernel
theorem dX9_tryTop_7 : decode cX9_tryTop 7 = .ok (.putfield 132, 3) := by decide +kernel
theorem dX9_tryTop_10 : decode cX9_tryTop 10 = .ok (.aload_n 0, 1) := by decide +kernel
theorem dX9_tryTop_11 : decode cX9_tryTop 11 = .ok (.getfield 79, 3) := by decide +kernel
theorem dX9_tryTop_14 : decode cX9_tryTop 14 = .ok (.aload_n 0, 1) := by decide +kernel
theorem dX9_tryTop_15 : decode cX9_tryTop 15 = .ok (.getfield 132, 3) := by decide +kernel
theorem dX9_tryTop_18 : decode cX9_tryTop 18 = .ok (.iaload, 1) := by decide +kernel
theorem dX9_tryTop_19 : decode cX9_tryTop 19 = .ok (.istore_n 1, 1) := by decide +kernel
theorem dX9_tryTop_20 : decode cX9_tryTop 20 = .ok (.aload_n 0, 1) := by decide +kernel
theorem dX9_tryTop_21 : decode cX9_tryTop 21 = .ok (.getfield 75, 3) := by decide +kernel
theorem dX9_tryTop_24 : decode cX9_tryTop 24 = .ok (.aload_n 0, 1) := by decide +kernel
theorem dX9_tryTop_25 : decode cX9_tryTop 25 = .ok (.getfield 132, 3) := by decide +kernel
theorem dX9_tryTop_28 : decode cX9_tryTop 28 = .ok (.laload, 1) := by decide +kernel
theorem dX9_tryTop_29 : decode cX9_tryTop 29 = .ok (.lstore_n 2, 1) := by decide +kernel
theorem dX9_tryTop_30 : decode cX9_tryTop 30 = .ok (.aload_n 0, 1) := by decide +kernel
theorem dX9_tryTop_31 : decode cX9_tryTop 31 = .ok (.getfield 72, 3) := by decide +kernel
theorem dX9_tryTop_34 : decode cX9_tryTop 34 = .ok (.aload_n 0, 1) := by decide +kernel
theorem dX9_tryTop_35 : decode cX9_tryTop 35 = .ok (.getfield 132, 3) := by decide +kernel
theorem dX9_tryTop_38 : decode cX9_tryTop 38 = .ok (.iaload, 1) := by decide +kernel
theorem dX9_tryTop_39 : decode cX9_tryTop 39 = .ok (.tableswitch 199 0 4 #[33, 90, 110, 130, 145], 33) := by decide +kernel
theorem dX9_tryTop_72 : decode cX9_tryTop 72 = .ok (.aload_n 0, 1) := by decide +kernel
theorem dX9_tryTop_73 : decode cX9_tryTop 73 = .ok (.getfield 85, 3) := by decide +kernel
theorem dX9_tryTop_76 : decode cX9_tryTop 76 = .ok (.iload_n 1, 1) := by decide +kernel
theorem dX9_tryTop_77 : decode cX9_tryTop 77 = .ok (.laload, 1) := by decide +kernel
theorem dX9_tryTop_78 : decode cX9_tryTop 78 = .ok (.lload_n 2, 1) := by decide +kernel
theorem dX9_tryTop_79 : decode cX9_tryTop 79 = .ok (.lcmp, 1) := by decide +kernel
theorem dX9_tryTop_80 : decode cX9_tryTop 80 = .ok (.ifCond .ge 12, 3) := by decide +kernel
theorem dX9_tryTop_83 : decode cX9_tryTop 83 = .ok (.aload_n 0, 1) := by decide +kernel
theorem dX9_tryTop_84 : decode cX9_tryTop 84 = .ok (.getfield 85, 3) := by decide +kernel
theorem dX9_tryTop_87 : decode cX9_tryTop 87 = .ok (.iload_n 1, 1) := by decide +kernel
theorem dX9_tryTop_88 : decode cX9_tryTop 88 = .ok (.laload, 1) := by decide +kernel
theorem dX9_tryTop_89 : decode cX9_tryTop 89 = .ok (.goto 4, 3) := by decide +kernel
theorem dX9_tryTop_92 : decode cX9_tryTop 92 = .ok (.lload_n 2, 1) := by decide +kernel
theorem dX9_tryTop_93 : decode cX9_tryTop 93 = .ok (.lstore 4, 2) := by decide +kernel
theorem dX9_tryTop_95 : decode cX9_tryTop 95 = .ok (.aload_n 0, 1) := by decide +kernel
theorem dX9_tryTop_96 : decode cX9_tryTop 96 = .ok (.getfield 85, 3) := by decide +kernel
theorem dX9_tryTop_99 : decode cX9_tryTop 99 = .ok (.iload_n 1, 1) := by decide +kernel
theorem dX9_tryTop_100 : decode cX9_tryTop 100 = .ok (.dup2, 1) := by decide +kernel
theorem dX9_tryTop_101 : decode cX9_tryTop 101 = .ok (.laload, 1) := by decide +kernel
theorem dX9_tryTop_102 : decode cX9_tryTop 102 = .ok (.lload 4, 2) := by decide +kernel
theorem dX9_tryTop_104 : decode cX9_tryTop 104 = .ok (.lsub, 1) := by decide +kernel
theorem dX9_tryTop_105 : decode cX9_tryTop 105 = .ok (.lastore, 1) := by decide +kernel
theorem dX9_tryTop_106 : decode cX9_tryTop 106 = .ok (.aload_n 0, 1) := by decide +kernel
theorem dX9_tryTop_107 : decode cX9_tryTop 107 = .ok (.getfield 82, 3) := by decide +kernel
theorem dX9_tryTop_110 : decode cX9_tryTop 110 = .ok (.iload_n 1, 1) := by decide +kernel
theorem dX9_tryTop_111 : decode cX9_tryTop 111 = .ok (.dup2, 1) := by decide +kernel
theorem dX9_tryTop_112 : decode cX9_tryTop 112 = .ok (.laload, 1) := by decide +kernel
theorem dX9_tryTop_113 : decode cX9_tryTop 113 = .ok (.lload_n 2, 1) := by decide +kernel
theorem dX9_tryTop_114 : decode cX9_tryTop 114 = .ok (.lload 4, 2) := by decide +kernel
theorem dX9_tryTop_116 : decode cX9_tryTop 116 = .ok (.lsub, 1) := by decide +kernel
theorem dX9_tryTop_117 : decode cX9_tryTop 117 = .ok (.lsub, 1) := by decide +kernel
theorem dX9_tryTop_118 : decode cX9_tryTop 118 = .ok (.lastore, 1) := by decide +kernel
theorem dX9_tryTop_119 : decode cX9_tryTop 119 = .ok (.aload_n 0, 1) := by decide +kernel
theorem dX9_tryTop_120 : decode cX9_tryTop 120 = .ok (.getfield 82, 3) := by decide +kernel
theorem dX9_tryTop_123 : decode cX9_tryTop 123 = .ok (.iload_n 1, 1) := by decide +kernel
theorem dX9_tryTop_124 : decode cX9_tryTop 124 = .ok (.laload, 1) := by decide +kernel
theorem dX9_tryTop_125 : decode cX9_tryTop 125 = .ok (.invokestatic 139, 3) := by decide +kernel
theorem dX9_tryTop_128 : decode cX9_tryTop 128 = .ok (.ireturn, 1) := by decide +kernel
theorem dX9_tryTop_129 : decode cX9_tryTop 129 = .ok (.aload_n 0, 1) := by decide +kernel
theorem dX9_tryTop_130 : decode cX9_tryTop 130 = .ok (.getfield 82, 3) := by decide +kernel
theorem dX9_tryTop_133 : decode cX9_tryTop 133 = .ok (.iload_n 1, 1) := by decide +kernel
theorem dX9_tryTop_134 : decode cX9_tryTop 134 = .ok (.dup2, 1) := by decide +kernel
theorem dX9_tryTop_135 : decode cX9_tryTop 135 = .ok (.laload, 1) := by decide +kernel
theorem dX9_tryTop_136 : decode cX9_tryTop 136 = .ok (.lload_n 2, 1) := by decide +kernel
theorem dX9_tryTop_137 : decode cX9_tryTop 137 = .ok (.ladd, 1) := by decide +kernel
theorem dX9_tryTop_138 : decode cX9_tryTop 138 = .ok (.lastore, 1) := by decide +kernel
theorem dX9_tryTop_139 : decode cX9_tryTop 139 = .ok (.aload_n 0, 1) := by decide +kernel
theorem dX9_tryTop_140 : decode cX9_tryTop 140 = .ok (.getfield 82, 3) := by decide +kernel
theorem dX9_tryTop_143 : decode cX9_tryTop 143 = .ok (.iload_n 1, 1) := by decide +kernel
theorem dX9_tryTop_144 : decode cX9_tryTop 144 = .ok (.laload, 1) := by decide +kernel
theorem dX9_tryTop_145 : decode cX9_tryTop 145 = .ok (.invokestatic 139, 3) := by decide +kernel
theorem dX9_tryTop_148 : decode cX9_tryTop 148 = .ok (.ireturn, 1) := by decide +kernel
theorem dX9_tryTop_149 : decode cX9_tryTop 149 = .ok (.aload_n 0, 1) := by decide +kernel
theorem dX9_tryTop_150 : decode cX9_tryTop 150 = .ok (.getfield 85, 3) := by decide +kernel
theorem dX9_tryTop_153 : decode cX9_tryTop 153 = .ok (.iload_n 1, 1) := by decide +kernel
theorem dX9_tryTop_154 : decode cX9_tryTop 154 = .ok (.dup2, 1) := by decide +kernel
theorem dX9_tryTop_155 : decode cX9_tryTop 155 = .ok (.laload, 1) := by decide +kernel
theorem dX9_tryTop_156 : decode cX9_tryTop 156 = .ok (.lload_n 2, 1) := by decide +kernel
theorem dX9_tryTop_157 : decode cX9_tryTop 157 = .ok (.ladd, 1) := by decide +kernel
theorem dX9_tryTop_158 : decode cX9_tryTop 158 = .ok (.lastore, 1) := by decide +kernel
theorem dX9_tryTop_159 : decode cX9_tryTop 159 = .ok (.aload_n 0, 1) := by decide +kernel
theorem dX9_tryTop_160 : decode cX9_tryTop 160 = .ok (.getfield 85, 3) := by decide +kernel
theorem dX9_tryTop_163 : decode cX9_tryTop 163 = .ok (.iload_n 1, 1) := by decide +kernel
theorem dX9_tryTop_164 : decode cX9_tryTop 164 = .ok (.laload, 1) := by decide +kernel
theorem dX9_tryTop_165 : decode cX9_tryTop 165 = .ok (.invokestatic 139, 3) := by decide +kernel
theorem dX9_tryTop_168 : decode cX9_tryTop 168 = .ok (.ireturn, 1) := by decide +kernel
theorem dX9_tryTop_169 : decode cX9_tryTop 169 = .ok (.aload_n 0, 1) := by decide +kernel
theorem dX9_tryTop_170 : decode cX9_tryTop 170 = .ok (.aload_n 0, 1) := by decide +kernel
theorem dX9_tryTop_171 : decode cX9_tryTop 171 = .ok (.getfield 69, 3) := by decide +kernel
theorem dX9_tryTop_174 : decode cX9_tryTop 174 = .ok (.aload_n 0, 1) := by decide +kernel
theorem dX9_tryTop_175 : decode cX9_tryTop 175 = .ok (.getfield 132, 3) := by decide +kernel
theorem dX9_tryTop_178 : decode cX9_tryTop 178 = .ok (.iaload, 1) := by decide +kernel
theorem dX9_tryTop_179 : decode cX9_tryTop 179 = .ok (.invokevirtual 143, 3) := by decide +kernel
theorem dX9_tryTop_182 : decode cX9_tryTop 182 = .ok (.iconst 1, 1) := by decide +kernel
theorem dX9_tryTop_183 : decode cX9_tryTop 183 = .ok (.ireturn, 1) := by decide +kernel
theorem dX9_tryTop_184 : decode cX9_tryTop 184 = .ok (.aload_n 0, 1) := by decide +kernel
theorem dX9_tryTop_185 : decode cX9_tryTop 185 = .ok (.getfield 132, 3) := by decide +kernel
theorem dX9_tryTop_188 : decode cX9_tryTop 188 = .ok (.ifCond .le 20, 3) := by decide +kernel
theorem dX9_tryTop_191 : decode cX9_tryTop 191 = .ok (.aload_n 0, 1) := by decide +kernel
theorem dX9_tryTop_192 : decode cX9_tryTop 192 = .ok (.getfield 75, 3) := by decide +kernel
theorem dX9_tryTop_195 : decode cX9_tryTop 195 = .ok (.aload_n 0, 1) := by decide +kernel
theorem dX9_tryTop_196 : decode cX9_tryTop 196 = .ok (.getfield 132, 3) := by decide +kernel
theorem dX9_tryTop_199 : decode cX9_tryTop 199 = .ok (.iconst 1, 1) := by decide +kernel
theorem dX9_tryTop_200 : decode cX9_tryTop 200 = .ok (.isub, 1) := by decide +kernel
theorem dX9_tryTop_201 : decode cX9_tryTop 201 = .ok (.dup2, 1) := by decide +kernel
theorem dX9_tryTop_202 : decode cX9_tryTop 202 = .ok (.laload, 1) := by decide +kernel
theorem dX9_tryTop_203 : decode cX9_tryTop 203 = .ok (.ldc2_w 146, 3) := by decide +kernel
theorem dX9_tryTop_206 : decode cX9_tryTop 206 = .ok (.lmul, 1) := by decide +kernel
theorem dX9_tryTop_207 : decode cX9_tryTop 207 = .ok (.lastore, 1) := by decide +kernel
theorem dX9_tryTop_208 : decode cX9_tryTop 208 = .ok (.aload_n 0, 1) := by decide +kernel
theorem dX9_tryTop_209 : decode cX9_tryTop 209 = .ok (.getfield 132, 3) := by decide +kernel
theorem dX9_tryTop_212 : decode cX9_tryTop 212 = .ok (.ifCond .eq 20, 3) := by decide +kernel
theorem dX9_tryTop_215 : decode cX9_tryTop 215 = .ok (.aload_n 0, 1) := by decide +kernel
theorem dX9_tryTop_216 : decode cX9_tryTop 216 = .ok (.getfield 75, 3) := by decide +kernel
theorem dX9_tryTop_219 : decode cX9_tryTop 219 = .ok (.aload_n 0, 1) := by decide +kernel
theorem dX9_tryTop_220 : decode cX9_tryTop 220 = .ok (.getfield 132, 3) := by decide +kernel
theorem dX9_tryTop_223 : decode cX9_tryTop 223 = .ok (.iconst 1, 1) := by decide +kernel
theorem dX9_tryTop_224 : decode cX9_tryTop 224 = .ok (.isub, 1) := by decide +kernel
theorem dX9_tryTop_225 : decode cX9_tryTop 225 = .ok (.laload, 1) := by decide +kernel
theorem dX9_tryTop_226 : decode cX9_tryTop 226 = .ok (.invokestatic 139, 3) := by decide +kernel
theorem dX9_tryTop_229 : decode cX9_tryTop 229 = .ok (.ifCond .eq 7, 3) := by decide +kernel
theorem dX9_tryTop_232 : decode cX9_tryTop 232 = .ok (.iconst 1, 1) := by decide +kernel
theorem dX9_tryTop_233 : decode cX9_tryTop 233 = .ok (.goto 4, 3) := by decide +kernel
theorem dX9_tryTop_236 : decode cX9_tryTop 236 = .ok (.iconst 0, 1) := by decide +kernel
theorem dX9_tryTop_237 : decode cX9_tryTop 237 = .ok (.ireturn, 1) := by decide +kernel
theorem dX9_tryTop_238 : decode cX9_tryTop 238 = .ok (.iconst 0, 1) := by decide +kernel
theorem dX9_tryTop_239 : decode cX9_tryTop 239 = .ok (.istore 6, 2) := by decide +kernel
theorem dX9_tryTop_241 : decode cX9_tryTop 241 = .ok (.iload 6, 2) := by decide +kernel
theorem dX9_tryTop_243 : decode cX9_tryTop 243 = .ok (.aload_n 0, 1) := by decide +kernel
theorem dX9_tryTop_244 : decode cX9_tryTop 244 = .ok (.getfield 132, 3) := by decide +kernel
theorem dX9_tryTop_247 : decode cX9_tryTop 247 = .ok (.if_icmp .ge 52, 3) := by decide +kernel
theorem dX9_tryTop_250 : decode cX9_tryTop 250 = .ok (.aload_n 0, 1) := by decide +kernel
theorem dX9_tryTop_251 : decode cX9_tryTop 251 = .ok (.getfield 72, 3) := by decide +kernel
theorem dX9_tryTop_254 : decode cX9_tryTop 254 = .ok (.iload 6, 2) := by decide +kernel
theorem dX9_tryTop_256 : decode cX9_tryTop 256 = .ok (.aload_n 0, 1) := by decide +kernel
theorem dX9_tryTop_257 : decode cX9_tryTop 257 = .ok (.getfield 72, 3) := by decide +kernel
theorem dX9_tryTop_260 : decode cX9_tryTop 260 = .ok (.iload 6, 2) := by decide +kernel
theorem dX9_tryTop_262 : decode cX9_tryTop 262 = .ok (.iaload, 1) := by decide +kernel
theorem dX9_tryTop_263 : decode cX9_tryTop 263 = .ok (.ifCond .ne 7, 3) := by decide +kernel
theorem dX9_tryTop_266 : decode cX9_tryTop 266 = .ok (.iconst 1, 1) := by decide +kernel
theorem dX9_tryTop_267 : decode cX9_tryTop 267 = .ok (.goto 25, 3) := by decide +kernel
theorem dX9_tryTop_270 : decode cX9_tryTop 270 = .ok (.aload_n 0, 1) := by decide +kernel
theorem dX9_tryTop_271 : decode cX9_tryTop 271 = .ok (.getfield 72, 3) := by decide +kernel
theorem dX9_tryTop_274 : decode cX9_tryTop 274 = .ok (.iload 6, 2) := by decide +kernel
theorem dX9_tryTop_276 : decode cX9_tryTop 276 = .ok (.iaload, 1) := by decide +kernel
theorem dX9_tryTop_277 : decode cX9_tryTop 277 = .ok (.iconst 1, 1) := by decide +kernel
theorem dX9_tryTop_278 : decode cX9_tryTop 278 = .ok (.if_icmp .ne 7, 3) := by decide +kernel
theorem dX9_tryTop_281 : decode cX9_tryTop 281 = .ok (.iconst 0, 1) := by decide +kernel
theorem dX9_tryTop_282 : decode cX9_tryTop 282 = .ok (.goto 10, 3) := by decide +kernel
theorem dX9_tryTop_285 : decode cX9_tryTop 285 = .ok (.aload_n 0, 1) := by decide +kernel
theorem dX9_tryTop_286 : decode cX9_tryTop 286 = .ok (.getfield 72, 3) := by decide +kernel
theorem dX9_tryTop_289 : decode cX9_tryTop 289 = .ok (.iload 6, 2) := by decide +kernel
theorem dX9_tryTop_291 : decode cX9_tryTop 291 = .ok (.iaload, 1) := by decide +kernel
theorem dX9_tryTop_292 : decode cX9_tryTop 292 = .ok (.iastore, 1) := by decide +kernel
theorem dX9_tryTop_293 : decode cX9_tryTop 293 = .ok (.iinc 6 1, 3) := by decide +kernel
theorem dX9_tryTop_296 : decode cX9_tryTop 296 = .ok (.goto (-55), 3) := by decide +kernel
theorem dX9_tryTop_299 : decode cX9_tryTop 299 = .ok (.iconst 1, 1) := by decide +kernel
theorem dX9_tryTop_300 : decode cX9_tryTop 300 = .ok (.ireturn, 1) := by decide +kernel
theorem dX9_lay_0 : decode cX9_lay 0 = .ok (.iload_n 1, 1) := by decide +kernel
theorem dX9_lay_1 : decode cX9_lay 1 = .ok (.istore_n 2, 1) := by decide +kernel
theorem dX9_lay_2 : decode cX9_lay 2 = .ok (.iconst 0, 1) := by decide +kernel
theorem dX9_lay_3 : decode cX9_lay 3 = .ok (.istore_n 3, 1) := by decide +kernel
theorem dX9_lay_4 : decode cX9_lay 4 = .ok (.iconst 0, 1) := by decide +kernel
theorem dX9_lay_5 : decode cX9_lay 5 = .ok (.istore 4, 2) := by decide +kernel
theorem dX9_lay_7 : decode cX9_lay 7 = .ok (.iload 4, 2) := by decide +kernel
theorem dX9_lay_9 : decode cX9_lay 9 = .ok (.aload_n 0, 1) := by decide +kernel
theorem dX9_lay_10 : decode cX9_lay 10 = .ok (.getfield 125, 3) := by decide +kernel
theorem dX9_lay_13 : decode cX9_lay 13 = .ok (.if_icmp .ge 136, 3) := by decide +kernel
theorem dX9_lay_16 : decode cX9_lay 16 = .ok (.aload_n 0, 1) := by decide +kernel
theorem dX9_lay_17 : decode cX9_lay 17 = .ok (.getfield 125, 3) := by decide +kernel
theorem dX9_lay_20 : decode cX9_lay 20 = .ok (.iload 4, 2) := by decide +kernel
theorem dX9_lay_22 : decode cX9_lay 22 = .ok (.isub, 1) := by decide +kernel
theorem dX9_lay_23 : decode cX9_lay 23 = .ok (.istore 5, 2) := by decide +kernel
theorem dX9_lay_25 : decode cX9_lay 25 = .ok (.iload_n 2, 1) := by decide +kernel
theorem dX9_lay_26 : decode cX9_lay 26 = .ok (.iload 5, 2) := by decide +kernel
theorem dX9_lay_28 : decode cX9_lay 28 = .ok (.irem, 1) := by decide +kernel
theorem dX9_lay_29 : decode cX9_lay 29 = .ok (.istore 6, 2) := by decide +kernel
theorem dX9_lay_31 : decode cX9_lay 31 = .ok (.iload_n 2, 1) := by decide +kernel
theorem dX9_lay_32 : decode cX9_lay 32 = .ok (.iload 5, 2) := by decide +kernel
theorem dX9_lay_34 : decode cX9_lay 34 = .ok (.idiv, 1) := by decide +kernel
theorem dX9_lay_35 : decode cX9_lay 35 = .ok (.istore_n 2, 1) := by decide +kernel
theorem dX9_lay_36 : decode cX9_lay 36 = .ok (.iconst 0, 1) := by decide +kernel
theorem dX9_lay_37 : decode cX9_lay 37 = .ok (.istore 7, 2) := by decide +kernel
theorem dX9_lay_39 : decode cX9_lay 39 = .ok (.iload_n 3, 1) := by decide +kernel
theorem dX9_lay_40 : decode cX9_lay 40 = .ok (.iload 7, 2) := by decide +kernel
theorem dX9_lay_42 : decode cX9_lay 42 = .ok (.ishr, 1) := by decide +kernel
theorem dX9_lay_43 : decode cX9_lay 43 = .ok (.iconst 1, 1) := by decide +kernel
theorem dX9_lay_44 : decode cX9_lay 44 = .ok (.iand, 1) := by decide +kernel
theorem dX9_lay_45 : decode cX9_lay 45 = .ok (.iconst 1, 1) := by decide +kernel
theorem dX9_lay_46 : decode cX9_lay 46 = .ok (.if_icmp .eq 8, 3) := by decide +kernel
theorem dX9_lay_49 : decode cX9_lay 49 = .ok (.iload 6, 2) := by decide +kernel
theorem dX9_lay_51 : decode cX9_lay 51 = .ok (.ifCond .le 28, 3) := by decide +kernel
theorem dX9_lay_54 : decode cX9_lay 54 = .ok (.iload 6, 2) := by decide +kernel
theorem dX9_lay_56 : decode cX9_lay 56 = .ok (.iload_n 3, 1) := by decide +kernel
theorem dX9_lay_57 : decode cX9_lay 57 = .ok (.iload 7, 2) := by decide +kernel
theorem dX9_lay_59 : decode cX9_lay 59 = .ok (.ishr, 1) := by decide +kernel
theorem dX9_lay_60 : decode cX9_lay 60 = .ok (.iconst 1, 1) := by decide +kernel
theorem dX9_lay_61 : decode cX9_lay 61 = .ok (.iand, 1) := by decide +kernel
theorem dX9_lay_62 : decode cX9_lay 62 = .ok (.ifCond .ne 7, 3) := by decide +kernel
theorem dX9_lay_65 : decode cX9_lay 65 = .ok (.iconst 1, 1) := by decide +kernel
theorem dX9_lay_66 : decode cX9_lay 66 = .ok (.goto 4, 3) := by decide +kernel
theorem dX9_lay_69 : decode cX9_lay 69 = .ok (.iconst 0, 1) := by decide +kernel
theorem dX9_lay_70 : decode cX9_lay 70 = .ok (.isub, 1) := by decide +kernel
theorem dX9_lay_71 : decode cX9_lay 71 = .ok (.istore 6, 2) := by decide +kernel
theorem dX9_lay_73 : decode cX9_lay 73 = .ok (.iinc 7 1, 3) := by decide +kernel
theorem dX9_lay_76 : decode cX9_lay 76 = .ok (.goto (-37), 3) := by decide +kernel
theorem dX9_lay_79 : decode cX9_lay 79 = .ok (.iload_n 3, 1) := by decide +kernel
theorem dX9_lay_80 : decode cX9_lay 80 = .ok (.iconst 1, 1) := by decide +kernel
theorem dX9_lay_81 : decode cX9_lay 81 = .ok (.iload 7, 2) := by decide +kernel
theorem dX9_lay_83 : decode cX9_lay 83 = .ok (.ishl, 1) := by decide +kernel
theorem dX9_lay_84 : decode cX9_lay 84 = .ok (.ior, 1) := by decide +kernel
theorem dX9_lay_85 : decode cX9_lay 85 = .ok (.istore_n 3, 1) := by decide +kernel
theorem dX9_lay_86 : decode cX9_lay 86 = .ok (.aload_n 0, 1) := by decide +kernel
theorem dX9_lay_87 : decode cX9_lay 87 = .ok (.getfield 69, 3) := by decide +kernel
theorem dX9_lay_90 : decode cX9_lay 90 = .ok (.iload 4, 2) := by decide +kernel
theorem dX9_lay_92 : decode cX9_lay 92 = .ok (.aload_n 0, 1) := by decide +kernel
theorem dX9_lay_93 : decode cX9_lay 93 = .ok (.getfield 41, 3) := by decide +kernel
theorem dX9_lay_96 : decode cX9_lay 96 = .ok (.iload 7, 2) := by decide +kernel
theorem dX9_lay_98 : decode cX9_lay 98 = .ok (.iaload, 1) := by decide +kernel
theorem dX9_lay_99 : decode cX9_lay 99 = .ok (.iastore, 1) := by decide +kernel
theorem dX9_lay_100 : decode cX9_lay 100 = .ok (.aload_n 0, 1) := by decide +kernel
theorem dX9_lay_101 : decode cX9_lay 101 = .ok (.getfield 72, 3) := by decide +kernel
theorem dX9_lay_104 : decode cX9_lay 104 = .ok (.iload 4, 2) := by decide +kernel
theorem dX9_lay_106 : decode cX9_lay 106 = .ok (.aload_n 0, 1) := by decide +kernel
theorem dX9_lay_107 : decode cX9_lay 107 = .ok (.getfield 44, 3) := by decide +kernel
theorem dX9_lay_110 : decode cX9_lay 110 = .ok (.iload 7, 2) := by decide +kernel
theorem dX9_lay_112 : decode cX9_lay 112 = .ok (.iaload, 1) := by decide +kernel
theorem dX9_lay_113 : decode cX9_lay 113 = .ok (.iastore, 1) := by decide +kernel
theorem dX9_lay_114 : decode cX9_lay 114 = .ok (.aload_n 0, 1) := by decide +kernel
theorem dX9_lay_115 : decode cX9_lay 115 = .ok (.getfield 75, 3) := by decide +kernel
theorem dX9_lay_118 : decode cX9_lay 118 = .ok (.iload 4, 2) := by decide +kernel
theorem dX9_lay_120 : decode cX9_lay 120 = .ok (.aload_n 0, 1) := by decide +kernel
theorem dX9_lay_121 : decode cX9_lay 121 = .ok (.getfield 47, 3) := by decide +kernel
theorem dX9_lay_124 : decode cX9_lay 124 = .ok (.iload 7, 2) := by decide +kernel
theorem dX9_lay_126 : decode cX9_lay 126 = .ok (.iaload, 1) := by decide +kernel
theorem dX9_lay_127 : decode cX9_lay 127 = .ok (.i2l, 1) := by decide +kernel
theorem dX9_lay_128 : decode cX9_lay 128 = .ok (.lastore, 1) := by decide +kernel
theorem dX9_lay_129 : decode cX9_lay 129 = .ok (.aload_n 0, 1) := by decide +kernel
theorem dX9_lay_130 : decode cX9_lay 130 = .ok (.getfield 79, 3) := by decide +kernel
theorem dX9_lay_133 : decode cX9_lay 133 = .ok (.iload 4, 2) := by decide +kernel
theorem dX9_lay_135 : decode cX9_lay 135 = .ok (.aload_n 0, 1) := by decide +kernel
theorem dX9_lay_136 : decode cX9_lay 136 = .ok (.getfield 50, 3) := by decide +kernel
theorem dX9_lay_139 : decode cX9_lay 139 = .ok (.iload 7, 2) := by decide +kernel
theorem dX9_lay_141 : decode cX9_lay 141 = .ok (.iaload, 1) := by decide +kernel
theorem dX9_lay_142 : decode cX9_lay 142 = .ok (.iastore, 1) := by decide +kernel
theorem dX9_lay_143 : decode cX9_lay 143 = .ok (.iinc 4 1, 3) := by decide +kernel
theorem dX9_lay_146 : decode cX9_lay 146 = .ok (.goto (-139), 3) := by decide +kernel
theorem dX9_lay_149 : decode cX9_lay 149 = .ok (.aload_n 0, 1) := by decide +kernel
theorem dX9_lay_150 : decode cX9_lay 150 = .ok (.aload_n 0, 1) := by decide +kernel
theorem dX9_lay_151 : decode cX9_lay 151 = .ok (.getfield 125, 3) := by decide +kernel
theorem dX9_lay_154 : decode cX9_lay 154 = .ok (.putfield 132, 3) := by decide +kernel
theorem dX9_lay_157 : decode cX9_lay 157 = .ok (.iconst 0, 1) := by decide +kernel
theorem dX9_lay_158 : decode cX9_lay 158 = .ok (.istore 4, 2) := by decide +kernel
theorem dX9_lay_160 : decode cX9_lay 160 = .ok (.iload 4, 2) := by decide +kernel
theorem dX9_lay_162 : decode cX9_lay 162 = .ok (.bipush 6, 2) := by decide +kernel
theorem dX9_lay_164 : decode cX9_lay 164 = .ok (.if_icmp .ge 39, 3) := by decide +kernel
theorem dX9_lay_167 : decode cX9_lay 167 = .ok (.aload_n 0, 1) := by decide +kernel
theorem dX9_lay_168 : decode cX9_lay 168 = .ok (.getfield 82, 3) := by decide +kernel
theorem dX9_lay_171 : decode cX9_lay 171 = .ok (.iload 4, 2) := by decide +kernel
theorem dX9_lay_173 : decode cX9_lay 173 = .ok (.aload_n 0, 1) := by decide +kernel
theorem dX9_lay_174 : decode cX9_lay 174 = .ok (.getfield 22, 3) := by decide +kernel
theorem dX9_lay_177 : decode cX9_lay 177 = .ok (.iload 4, 2) := by decide +kernel
theorem dX9_lay_179 : decode cX9_lay 179 = .ok (.iaload, 1) := by decide +kernel
theorem dX9_lay_180 : decode cX9_lay 180 = .ok (.i2l, 1) := by decide +kernel
theorem dX9_lay_181 : decode cX9_lay 181 = .ok (.lastore, 1) := by decide +kernel
theorem dX9_lay_182 : decode cX9_lay 182 = .ok (.aload_n 0, 1) := by decide +kernel
theorem dX9_lay_183 : decode cX9_lay 183 = .ok (.getfield 85, 3) := by decide +kernel
theorem dX9_lay_186 : decode cX9_lay 186 = .ok (.iload 4, 2) := by decide +kernel
theorem dX9_lay_188 : decode cX9_lay 188 = .ok (.aload_n 0, 1) := by decide +kernel
theorem dX9_lay_189 : decode cX9_lay 189 = .ok (.getfield 25, 3) := by decide +kernel
theorem dX9_lay_192 : decode cX9_lay 192 = .ok (.iload 4, 2) := by decide +kernel
theorem dX9_lay_194 : decode cX9_lay 194 = .ok (.iaload, 1) := by decide +kernel
theorem dX9_lay_195 : decode cX9_lay 195 = .ok (.i2l, 1) := by decide +kernel
theorem dX9_lay_196 : decode cX9_lay 196 = .ok (.lastore, 1) := by decide +kernel
theorem dX9_lay_197 : decode cX9_lay 197 = .ok (.iinc 4 1, 3) := by decide +kernel
theorem dX9_lay_200 : decode cX9_lay 200 = .ok (.goto (-40), 3) := by decide +kernel
theorem dX9_lay_203 : decode cX9_lay 203 = .ok (.return_, 1) := by decide +kernel
set_option maxRecDepth 20000 in
theorem ggX9_top_X9_lay : GoodIn wsX9_top wsX9_lay := goodIn_r _ [19, 1, 4, 3, 6, 5, 8, 7, 10, 9, 2, 12, 11, 14, 13, 43, 44, 45, 46, 47, 48, 49, 50, 51, 52, 53, 54, 55, 56, 57, 58, 59, 60, 61, 62, 63, 64, 65, 66, 67, 68, 69, 70, 71, 72, 73, 74, 75, 76, 77, 78, 79] (by decide +kernel) (by decide +kernel)
set_option maxRecDepth 20000 in
theorem gX9_top_X9_lay : GoodIn wsX9_top (wsV RX9 148 RX9 yX9_lay wsX9_lay) := goodIn_app (goodIn_of _ (by decide +kernel)) ggX9_top_X9_lay
set_option maxRecDepth 20000 in
theorem ggX9_top_X9_tryTop : GoodIn wsX9_top wsX9_tryTop := goodIn_r _ [23, 2, 10, 8, 6, 14, 12, 4, 24, 25, 26, 18, 27, 28, 29, 30, 31, 32, 33, 34, 35, 36, 37, 43, 44, 45, 46, 47, 48, 49, 50, 51, 52, 53, 54, 55, 56, 57, 58, 59, 60, 61, 62, 63, 64, 65, 66, 67, 68, 69, 70, 71, 72, 73, 74, 75, 76, 77, 78, 79] (by decide +kernel) (by decide +kernel)
set_option maxRecDepth 20000 in
theorem gX9_top_X9_tryTop : GoodIn wsX9_top (wsV RX9 151 RX9 yX9_tryTop wsX9_tryTop) := goodIn_app (goodIn_of _ (by decide +kernel)) ggX9_top_X9_tryTop
set_option maxRecDepth 20000 in
theorem ggX9_top_X9_goesWell : GoodIn wsX9_top wsX9_goesWell := goodIn_r _ [41, 42, 43, 44, 45, 46, 47, 48, 49, 50, 51, 52, 53, 54, 55, 56, 57, 58, 59, 60, 61, 62, 63, 64, 65, 66, 67, 68, 69, 70, 71, 72, 73, 74, 75, 76, 77, 78, 79] (by decide +kernel) (by decide +kernel)
set_option maxRecDepth 20000 in
theorem gX9_top_X9_goesWell : GoodIn wsX9_top (wsV RX9 104 RX9 yX9_goesWell wsX9_goesWell) := goodIn_app (goodIn_of _ (by decide +kernel)) ggX9_top_X9_goesWell
theorem dX9_top_0 : decode cX9_top 0 = .ok (.aload_n 0, 1) := by decide +kernel
theorem dX9_top_1 : decode cX9_top 1 = .ok (.iconst 0, 1) := by decide +kernel
theorem dX9_top_2 : decode cX9_top 2 = .ok (.invokevirtual 148, 3) := by decide +kernel
theorem dX9_top_5 : decode cX9_top 5 = .ok (.aload_n 0, 1) := by decide +kernel
theorem dX9_top_6 : decode cX9_top 6 = .ok (.aload_n 0, 1) := by decide +kernel
theorem dX9_top_7 : decode cX9_top 7 = .ok (.getfield 125, 3) := by decide +kernel
theorem dX9_top_10 : decode cX9_top 10 = .ok (.ifCond .eq 10, 3) := by decide +kernel
theorem dX9_top_13 : decode cX9_top 13 = .ok (.aload_n 0, 1) := by decide +kernel
theorem dX9_top_14 : decode cX9_top 14 = .ok (.invokevirtual 151, 3) := by decide +kernel
theorem dX9_top_17 : decode cX9_top 17 = .ok (.ifCond .ne 7, 3) := by decide +kernel
theorem dX9_top_20 : decode cX9_top 20 = .ok (.iconst 1, 1) := by decide +kernel
theorem dX9_top_21 : decode cX9_top 21 = .ok (.goto 4, 3) := by decide +kernel
theorem dX9_top_24 : decode cX9_top 24 = .ok (.iconst 0, 1) := by decide +kernel
theorem dX9_top_25 : decode cX9_top 25 = .ok (.invokevirtual 104, 3) := by decide +kernel
theorem dX9_top_28 : decode cX9_top 28 = .ok (.ifCond .ne 5, 3) := by decide +kernel
theorem dX9_top_31 : decode cX9_top 31 = .ok (.iconst 0, 1) := by decide +kernel
theorem dX9_top_32 : decode cX9_top 32 = .ok (.ireturn, 1) := by decide +kernel
theorem dX9_top_33 : decode cX9_top 33 = .ok (.aload_n 0, 1) := by decide +kernel
theorem dX9_top_34 : decode cX9_top 34 = .ok (.aload_n 0, 1) := by decide +kernel
theorem dX9_top_35 : decode cX9_top 35 = .ok (.getfield 132, 3) := by decide +kernel
theorem dX9_top_38 : decode cX9_top 38 = .ok (.putfield 125, 3) := by decide +kernel
theorem dX9_top_41 : decode cX9_top 41 = .ok (.iconst 0, 1) := by decide +kernel
theorem dX9_top_42 : decode cX9_top 42 = .ok (.istore_n 1, 1) := by decide +kernel
theorem dX9_top_43 : decode cX9_top 43 = .ok (.iload_n 1, 1) := by decide +kernel
theorem dX9_top_44 : decode cX9_top 44 = .ok (.aload_n 0, 1) := by decide +kernel
theorem dX9_top_45 : decode cX9_top 45 = .ok (.getfield 132, 3) := by decide +kernel
theorem dX9_top_48 : decode cX9_top 48 = .ok (.if_icmp .ge 58, 3) := by decide +kernel
theorem dX9_top_51 : decode cX9_top 51 = .ok (.aload_n 0, 1) := by decide +kernel
theorem dX9_top_52 : decode cX9_top 52 = .ok (.getfield 41, 3) := by decide +kernel
theorem dX9_top_55 : decode cX9_top 55 = .ok (.iload_n 1, 1) := by decide +kernel
theorem dX9_top_56 : decode cX9_top 56 = .ok (.aload_n 0, 1) := by decide +kernel
theorem dX9_top_57 : decode cX9_top 57 = .ok (.getfield 69, 3) := by decide +kernel
theorem dX9_top_60 : decode cX9_top 60 = .ok (.iload_n 1, 1) := by decide +kernel
theorem dX9_top_61 : decode cX9_top 61 = .ok (.iaload, 1) := by decide +kernel
theorem dX9_top_62 : decode cX9_top 62 = .ok (.iastore, 1) := by decide +kernel
theorem dX9_top_63 : decode cX9_top 63 = .ok (.aload_n 0, 1) := by decide +kernel
theorem dX9_top_64 : decode cX9_top 64 = .ok (.getfield 44, 3) := by decide +kernel
theorem dX9_top_67 : decode cX9_top 67 = .ok (.iload_n 1, 1) := by decide +kernel
theorem dX9_top_68 : decode cX9_top 68 = .ok (.aload_n 0, 1) := by decide +kernel
theorem dX9_top_69 : decode cX9_top 69 = .ok (.getfield 72, 3) := by decide +kernel
theorem dX9_top_72 : decode cX9_top 72 = .ok (.iload_n 1, 1) := by decide +kernel
theorem dX9_top_73 : decode cX9_top 73 = .ok (.iaload, 1) := by decide +kernel
theorem dX9_top_74 : decode cX9_top 74 = .ok (.iastore, 1) := by decide +kernel
theorem dX9_top_75 : decode cX9_top 75 = .ok (.aload_n 0, 1) := by decide +kernel
theorem dX9_top_76 : decode cX9_top 76 = .ok (.getfield 47, 3) := by decide +kernel
