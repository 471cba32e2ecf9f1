theorem dL_runs_190 : decode cL_runs 190 = .ok (.aload_n 0, 1) := by decide +kernel
theorem dL_runs_191 : decode cL_runs 191 = .ok (.iload 6, 2) := by decide +kernel
theorem dL_runs_193 : decode cL_runs 193 = .ok (.iconst 1, 1) := by decide +kernel
theorem dL_runs_194 : decode cL_runs 194 = .ok (.iadd, 1) := by decide +kernel
theorem dL_runs_195 : decode cL_runs 195 = .ok (.iaload, 1) := by decide +kernel
theorem dL_runs_196 : decode cL_runs 196 = .ok (.aload_n 2, 1) := by decide +kernel
theorem dL_runs_197 : decode cL_runs 197 = .ok (.bipush 6, 2) := by decide +kernel
theorem dL_runs_199 : decode cL_runs 199 = .ok (.iload 5, 2) := by decide +kernel
theorem dL_runs_201 : decode cL_runs 201 = .ok (.imul, 1) := by decide +kernel
theorem dL_runs_202 : decode cL_runs 202 = .ok (.iconst 2, 1) := by decide +kernel
theorem dL_runs_203 : decode cL_runs 203 = .ok (.iadd, 1) := by decide +kernel
theorem dL_runs_204 : decode cL_runs 204 = .ok (.iaload, 1) := by decide +kernel
theorem dL_runs_205 : decode cL_runs 205 = .ok (.iadd, 1) := by decide +kernel
theorem dL_runs_206 : decode cL_runs 206 = .ok (.istore 8, 2) := by decide +kernel
theorem dL_runs_208 : decode cL_runs 208 = .ok (.aload_n 0, 1) := by decide +kernel
theorem dL_runs_209 : decode cL_runs 209 = .ok (.iload 6, 2) := by decide +kernel
theorem dL_runs_211 : decode cL_runs 211 = .ok (.iconst 2, 1) := by decide +kernel
theorem dL_runs_212 : decode cL_runs 212 = .ok (.iadd, 1) := by decide +kernel
theorem dL_runs_213 : decode cL_runs 213 = .ok (.dup2, 1) := by decide +kernel
theorem dL_runs_214 : decode cL_runs 214 = .ok (.iaload, 1) := by decide +kernel
theorem dL_runs_215 : decode cL_runs 215 = .ok (.iload 8, 2) := by decide +kernel
theorem dL_runs_217 : decode cL_runs 217 = .ok (.sipush 300, 3) := by decide +kernel
theorem dL_runs_220 : decode cL_runs 220 = .ok (.idiv, 1) := by decide +kernel
theorem dL_runs_221 : decode cL_runs 221 = .ok (.aload_n 0, 1) := by decide +kernel
theorem dL_runs_222 : decode cL_runs 222 = .ok (.iload 6, 2) := by decide +kernel
theorem dL_runs_224 : decode cL_runs 224 = .ok (.iconst 1, 1) := by decide +kernel
theorem dL_runs_225 : decode cL_runs 225 = .ok (.iadd, 1) := by decide +kernel
theorem dL_runs_226 : decode cL_runs 226 = .ok (.iaload, 1) := by decide +kernel
theorem dL_runs_227 : decode cL_runs 227 = .ok (.sipush 300, 3) := by decide +kernel
theorem dL_runs_230 : decode cL_runs 230 = .ok (.idiv, 1) := by decide +kernel
theorem dL_runs_231 : decode cL_runs 231 = .ok (.isub, 1) := by decide +kernel
theorem dL_runs_232 : decode cL_runs 232 = .ok (.isub, 1) := by decide +kernel
theorem dL_runs_233 : decode cL_runs 233 = .ok (.iastore, 1) := by decide +kernel
theorem dL_runs_234 : decode cL_runs 234 = .ok (.iconst 3, 1) := by decide +kernel
theorem dL_runs_235 : decode cL_runs 235 = .ok (.istore 9, 2) := by decide +kernel
theorem dL_runs_237 : decode cL_runs 237 = .ok (.iload 9, 2) := by decide +kernel
theorem dL_runs_239 : decode cL_runs 239 = .ok (.bipush 6, 2) := by decide +kernel
theorem dL_runs_241 : decode cL_runs 241 = .ok (.if_icmp .ge 36, 3) := by decide +kernel
theorem dL_runs_244 : decode cL_runs 244 = .ok (.aload_n 0, 1) := by decide +kernel
theorem dL_runs_245 : decode cL_runs 245 = .ok (.iload 6, 2) := by decide +kernel
theorem dL_runs_247 : decode cL_runs 247 = .ok (.iload 9, 2) := by decide +kernel
theorem dL_runs_249 : decode cL_runs 249 = .ok (.iadd, 1) := by decide +kernel
theorem dL_runs_250 : decode cL_runs 250 = .ok (.dup2, 1) := by decide +kernel
theorem dL_runs_251 : decode cL_runs 251 = .ok (.iaload, 1) := by decide +kernel
theorem dL_runs_252 : decode cL_runs 252 = .ok (.iload 8, 2) := by decide +kernel
theorem dL_runs_254 : decode cL_runs 254 = .ok (.sipush 500, 3) := by decide +kernel
theorem dL_runs_257 : decode cL_runs 257 = .ok (.idiv, 1) := by decide +kernel
theorem dL_runs_258 : decode cL_runs 258 = .ok (.aload_n 0, 1) := by decide +kernel
theorem dL_runs_259 : decode cL_runs 259 = .ok (.iload 6, 2) := by decide +kernel
theorem dL_runs_261 : decode cL_runs 261 = .ok (.iconst 1, 1) := by decide +kernel
theorem dL_runs_262 : decode cL_runs 262 = .ok (.iadd, 1) := by decide +kernel
theorem dL_runs_263 : decode cL_runs 263 = .ok (.iaload, 1) := by decide +kernel
theorem dL_runs_264 : decode cL_runs 264 = .ok (.sipush 500, 3) := by decide +kernel
theorem dL_runs_267 : decode cL_runs 267 = .ok (.idiv, 1) := by decide +kernel
theorem dL_runs_268 : decode cL_runs 268 = .ok (.isub, 1) := by decide +kernel
theorem dL_runs_269 : decode cL_runs 269 = .ok (.isub, 1) := by decide +kernel
theorem dL_runs_270 : decode cL_runs 270 = .ok (.iastore, 1) := by decide +kernel
theorem dL_runs_271 : decode cL_runs 271 = .ok (.iinc 9 1, 3) := by decide +kernel
theorem dL_runs_274 : decode cL_runs 274 = .ok (.goto (-37), 3) := by decide +kernel
theorem dL_runs_277 : decode cL_runs 277 = .ok (.aload_n 0, 1) := by decide +kernel
theorem dL_runs_278 : decode cL_runs 278 = .ok (.iload 6, 2) := by decide +kernel
theorem dL_runs_280 : decode cL_runs 280 = .ok (.iconst 1, 1) := by decide +kernel
theorem dL_runs_281 : decode cL_runs 281 = .ok (.iadd, 1) := by decide +kernel
theorem dL_runs_282 : decode cL_runs 282 = .ok (.iload 8, 2) := by decide +kernel
theorem dL_runs_284 : decode cL_runs 284 = .ok (.iastore, 1) := by decide +kernel
theorem dL_runs_285 : decode cL_runs 285 = .ok (.bipush 6, 2) := by decide +kernel
theorem dL_runs_287 : decode cL_runs 287 = .ok (.istore 9, 2) := by decide +kernel
theorem dL_runs_289 : decode cL_runs 289 = .ok (.iload 9, 2) := by decide +kernel
theorem dL_runs_291 : decode cL_runs 291 = .ok (.bipush 9, 2) := by decide +kernel
theorem dL_runs_293 : decode cL_runs 293 = .ok (.if_icmp .ge 28, 3) := by decide +kernel
theorem dL_runs_296 : decode cL_runs 296 = .ok (.aload_n 0, 1) := by decide +kernel
theorem dL_runs_297 : decode cL_runs 297 = .ok (.iload 6, 2) := by decide +kernel
theorem dL_runs_299 : decode cL_runs 299 = .ok (.iload 9, 2) := by decide +kernel
theorem dL_runs_301 : decode cL_runs 301 = .ok (.iadd, 1) := by decide +kernel
theorem dL_runs_302 : decode cL_runs 302 = .ok (.dup2, 1) := by decide +kernel
theorem dL_runs_303 : decode cL_runs 303 = .ok (.iaload, 1) := by decide +kernel
theorem dL_runs_304 : decode cL_runs 304 = .ok (.aload_n 2, 1) := by decide +kernel
theorem dL_runs_305 : decode cL_runs 305 = .ok (.bipush 6, 2) := by decide +kernel
theorem dL_runs_307 : decode cL_runs 307 = .ok (.iload 5, 2) := by decide +kernel
theorem dL_runs_309 : decode cL_runs 309 = .ok (.imul, 1) := by decide +kernel
theorem dL_runs_310 : decode cL_runs 310 = .ok (.iconst 2, 1) := by decide +kernel
theorem dL_runs_311 : decode cL_runs 311 = .ok (.iadd, 1) := by decide +kernel
theorem dL_runs_312 : decode cL_runs 312 = .ok (.iaload, 1) := by decide +kernel
theorem dL_runs_313 : decode cL_runs 313 = .ok (.iadd, 1) := by decide +kernel
theorem dL_runs_314 : decode cL_runs 314 = .ok (.iastore, 1) := by decide +kernel
theorem dL_runs_315 : decode cL_runs 315 = .ok (.iinc 9 1, 3) := by decide +kernel
theorem dL_runs_318 : decode cL_runs 318 = .ok (.goto (-29), 3) := by decide +kernel
theorem dL_runs_321 : decode cL_runs 321 = .ok (.iinc 5 1, 3) := by decide +kernel
theorem dL_runs_324 : decode cL_runs 324 = .ok (.goto (-202), 3) := by decide +kernel
theorem dL_runs_327 : decode cL_runs 327 = .ok (.iload 4, 2) := by decide +kernel
theorem dL_runs_329 : decode cL_runs 329 = .ok (.ireturn, 1) := by decide +kernel
theorem dL_remove_0 : decode cL_remove 0 = .ok (.bipush 8, 2) := by decide +kernel
theorem dL_remove_2 : decode cL_remove 2 = .ok (.iload_n 3, 1) := by decide +kernel
theorem dL_remove_3 : decode cL_remove 3 = .ok (.imul, 1) := by decide +kernel
theorem dL_remove_4 : decode cL_remove 4 = .ok (.iload 4, 2) := by decide +kernel
theorem dL_remove_6 : decode cL_remove 6 = .ok (.iadd, 1) := by decide +kernel
theorem dL_remove_7 : decode cL_remove 7 = .ok (.istore 5, 2) := by decide +kernel
theorem dL_remove_9 : decode cL_remove 9 = .ok (.iload 5, 2) := by decide +kernel
theorem dL_remove_11 : decode cL_remove 11 = .ok (.bipush 8, 2) := by decide +kernel
theorem dL_remove_13 : decode cL_remove 13 = .ok (.iload_n 3, 1) := by decide +kernel
theorem dL_remove_14 : decode cL_remove 14 = .ok (.imul, 1) := by decide +kernel
theorem dL_remove_15 : decode cL_remove 15 = .ok (.aload_n 0, 1) := by decide +kernel
theorem dL_remove_16 : decode cL_remove 16 = .ok (.bipush 16, 2) := by decide +kernel
theorem dL_remove_18 : decode cL_remove 18 = .ok (.iload_n 3, 1) := by decide +kernel
theorem dL_remove_19 : decode cL_remove 19 = .ok (.imul, 1) := by decide +kernel
theorem dL_remove_20 : decode cL_remove 20 = .ok (.bipush 12, 2) := by decide +kernel
theorem dL_remove_22 : decode cL_remove 22 = .ok (.iadd, 1) := by decide +kernel
theorem dL_remove_23 : decode cL_remove 23 = .ok (.iaload, 1) := by decide +kernel
theorem dL_remove_24 : decode cL_remove 24 = .ok (.iadd, 1) := by decide +kernel
theorem dL_remove_25 : decode cL_remove 25 = .ok (.iconst 1, 1) := by decide +kernel
theorem dL_remove_26 : decode cL_remove 26 = .ok (.isub, 1) := by decide +kernel
theorem dL_remove_27 : decode cL_remove 27 = .ok (.if_icmp .ge 57, 3) := by decide +kernel
theorem dL_remove_30 : decode cL_remove 30 = .ok (.aload_n 1, 1) := by decide +kernel
theorem dL_remove_31 : decode cL_remove 31 = .ok (.iload 5, 2) := by decide +kernel
theorem dL_remove_33 : decode cL_remove 33 = .ok (.aload_n 1, 1) := by decide +kernel
theorem dL_remove_34 : decode cL_remove 34 = .ok (.iload 5, 2) := by decide +kernel
theorem dL_remove_36 : decode cL_remove 36 = .ok (.iconst 1, 1) := by decide +kernel
theorem dL_remove_37 : decode cL_remove 37 = .ok (.iadd, 1) := by decide +kernel
theorem dL_remove_38 : decode cL_remove 38 = .ok (.iaload, 1) := by decide +kernel
theorem dL_remove_39 : decode cL_remove 39 = .ok (.iastore, 1) := by decide +kernel
theorem dL_remove_40 : decode cL_remove 40 = .ok (.aload_n 1, 1) := by decide +kernel
theorem dL_remove_41 : decode cL_remove 41 = .ok (.bipush 32, 2) := by decide +kernel
theorem dL_remove_43 : decode cL_remove 43 = .ok (.iload 5, 2) := by decide +kernel
theorem dL_remove_45 : decode cL_remove 45 = .ok (.iadd, 1) := by decide +kernel
theorem dL_remove_46 : decode cL_remove 46 = .ok (.aload_n 1, 1) := by decide +kernel
theorem dL_remove_47 : decode cL_remove 47 = .ok (.bipush 33, 2) := by decide +kernel
theorem dL_remove_49 : decode cL_remove 49 = .ok (.iload 5, 2) := by decide +kernel
theorem dL_remove_51 : decode cL_remove 51 = .ok (.iadd, 1) := by decide +kernel
theorem dL_remove_52 : decode cL_remove 52 = .ok (.iaload, 1) := by decide +kernel
theorem dL_remove_53 : decode cL_remove 53 = .ok (.iastore, 1) := by decide +kernel
theorem dL_remove_54 : decode cL_remove 54 = .ok (.aload_n 2, 1) := by decide +kernel
theorem dL_remove_55 : decode cL_remove 55 = .ok (.iload 5, 2) := by decide +kernel
theorem dL_remove_57 : decode cL_remove 57 = .ok (.aload_n 2, 1) := by decide +kernel
theorem dL_remove_58 : decode cL_remove 58 = .ok (.iload 5, 2) := by decide +kernel
theorem dL_remove_60 : decode cL_remove 60 = .ok (.iconst 1, 1) := by decide +kernel
theorem dL_remove_61 : decode cL_remove 61 = .ok (.iadd, 1) := by decide +kernel
theorem dL_remove_62 : decode cL_remove 62 = .ok (.iaload, 1) := by decide +kernel
theorem dL_remove_63 : decode cL_remove 63 = .ok (.iastore, 1) := by decide +kernel
theorem dL_remove_64 : decode cL_remove 64 = .ok (.aload_n 2, 1) := by decide +kernel
theorem dL_remove_65 : decode cL_remove 65 = .ok (.bipush 32, 2) := by decide +kernel
theorem dL_remove_67 : decode cL_remove 67 = .ok (.iload 5, 2) := by decide +kernel
theorem dL_remove_69 : decode cL_remove 69 = .ok (.iadd, 1) := by decide +kernel
theorem dL_remove_70 : decode cL_remove 70 = .ok (.aload_n 2, 1) := by decide +kernel
theorem dL_remove_71 : decode cL_remove 71 = .ok (.bipush 33, 2) := by decide +kernel
theorem dL_remove_73 : decode cL_remove 73 = .ok (.iload 5, 2) := by decide +kernel
theorem dL_remove_75 : decode cL_remove 75 = .ok (.iadd, 1) := by decide +kernel
theorem dL_remove_76 : decode cL_remove 76 = .ok (.iaload, 1) := by decide +kernel
theorem dL_remove_77 : decode cL_remove 77 = .ok (.iastore, 1) := by decide +kernel
theorem dL_remove_78 : decode cL_remove 78 = .ok (.iinc 5 1, 3) := by decide +kernel
theorem dL_remove_81 : decode cL_remove 81 = .ok (.goto (-72), 3) := by decide +kernel
theorem dL_remove_84 : decode cL_remove 84 = .ok (.aload_n 0, 1) := by decide +kernel
theorem dL_remove_85 : decode cL_remove 85 = .ok (.bipush 16, 2) := by decide +kernel
theorem dL_remove_87 : decode cL_remove 87 = .ok (.iload_n 3, 1) := by decide +kernel
theorem dL_remove_88 : decode cL_remove 88 = .ok (.imul, 1) := by decide +kernel
theorem dL_remove_89 : decode cL_remove 89 = .ok (.bipush 12, 2) := by decide +kernel
theorem dL_remove_91 : decode cL_remove 91 = .ok (.iadd, 1) := by decide +kernel
theorem dL_remove_92 : decode cL_remove 92 = .ok (.dup2, 1) := by decide +kernel
theorem dL_remove_93 : decode cL_remove 93 = .ok (.iaload, 1) := by decide +kernel
theorem dL_remove_94 : decode cL_remove 94 = .ok (.iconst 1, 1) := by decide +kernel
theorem dL_remove_95 : decode cL_remove 95 = .ok (.isub, 1) := by decide +kernel
theorem dL_remove_96 : decode cL_remove 96 = .ok (.iastore, 1) := by decide +kernel
theorem dL_remove_97 : decode cL_remove 97 = .ok (.return_, 1) := by decide +kernel
theorem dL_shop_0 : decode cL_shop 0 = .ok (.iload_n 1, 1) := by decide +kernel
theorem dL_shop_1 : decode cL_shop 1 = .ok (.ifCond .ne 12, 3) := by decide +kernel
theorem dL_shop_4 : decode cL_shop 4 = .ok (.aload_n 0, 1) := by decide +kernel
theorem dL_shop_5 : decode cL_shop 5 = .ok (.iload_n 2, 1) := by decide +kernel
theorem dL_shop_6 : decode cL_shop 6 = .ok (.iload_n 3, 1) := by decide +kernel
theorem dL_shop_7 : decode cL_shop 7 = .ok (.invokevirtual 22, 3) := by decide +kernel
theorem dL_shop_10 : decode cL_shop 10 = .ok (.goto 22, 3) := by decide +kernel
theorem dL_shop_13 : decode cL_shop 13 = .ok (.iload_n 1, 1) := by decide +kernel
theorem dL_shop_14 : decode cL_shop 14 = .ok (.iconst 1, 1) := by decide +kernel
theorem dL_shop_15 : decode cL_shop 15 = .ok (.if_icmp .ne 11, 3) := by decide +kernel
theorem dL_shop_18 : decode cL_shop 18 = .ok (.aload_n 0, 1) := by decide +kernel
theorem dL_shop_19 : decode cL_shop 19 = .ok (.iload_n 2, 1) := by decide +kernel
theorem dL_shop_20 : decode cL_shop 20 = .ok (.invokevirtual 28, 3) := by decide +kernel
theorem dL_shop_23 : decode cL_shop 23 = .ok (.goto 9, 3) := by decide +kernel
theorem dL_shop_26 : decode cL_shop 26 = .ok (.aload_n 0, 1) := by decide +kernel
theorem dL_shop_27 : decode cL_shop 27 = .ok (.iload_n 2, 1) := by decide +kernel
theorem dL_shop_28 : decode cL_shop 28 = .ok (.iload_n 3, 1) := by decide +kernel
theorem dL_shop_29 : decode cL_shop 29 = .ok (.invokevirtual 32, 3) := by decide +kernel
theorem dL_shop_32 : decode cL_shop 32 = .ok (.ireturn, 1) := by decide +kernel
theorem dL_shop_33 : decode cL_shop 33 = .ok (.astore 4, 2) := by decide +kernel
theorem dL_shop_35 : decode cL_shop 35 = .ok (.sipush (-1001), 3) := by decide +kernel
theorem dL_shop_38 : decode cL_shop 38 = .ok (.ireturn, 1) := by decide +kernel
theorem dL_shop_39 : decode cL_shop 39 = .ok (.astore 4, 2) := by decide +kernel
theorem dL_shop_41 : decode cL_shop 41 = .ok (.sipush (-1003), 3) := by decide +kernel
theorem dL_shop_44 : decode cL_shop 44 = .ok (.ireturn, 1) := by decide +kernel
theorem dL_told_0 : decode cL_told 0 = .ok (.aload_n 0, 1) := by decide +kernel
theorem dL_told_1 : decode cL_told 1 = .ok (.iload_n 1, 1) := by decide +kernel
theorem dL_told_2 : decode cL_told 2 = .ok (.iload_n 2, 1) := by decide +kernel
theorem dL_told_3 : decode cL_told 3 = .ok (.iload_n 3, 1) := by decide +kernel
theorem dL_told_4 : decode cL_told 4 = .ok (.iload 4, 2) := by decide +kernel
theorem dL_told_6 : decode cL_told 6 = .ok (.invokevirtual 39, 3) := by decide +kernel
theorem dL_told_9 : decode cL_told 9 = .ok (.ireturn, 1) := by decide +kernel
theorem dL_told_10 : decode cL_told 10 = .ok (.astore 5, 2) := by decide +kernel
theorem dL_told_12 : decode cL_told 12 = .ok (.sipush (-1003), 3) := by decide +kernel
theorem dL_told_15 : decode cL_told 15 = .ok (.ireturn, 1) := by decide +kernel
theorem dL_alike_0 : decode cL_alike 0 = .ok (.aload_n 0, 1) := by decide +kernel
theorem dL_alike_1 : decode cL_alike 1 = .ok (.invokevirtual 43, 3) := by decide +kernel
theorem dL_alike_4 : decode cL_alike 4 = .ok (.iload 7, 2) := by decide +kernel
theorem dL_alike_6 : decode cL_alike 6 = .ok (.if_icmp .ne 7, 3) := by decide +kernel
theorem dL_alike_9 : decode cL_alike 9 = .ok (.iconst 1, 1) := by decide +kernel
theorem dL_alike_10 : decode cL_alike 10 = .ok (.goto 4, 3) := by decide +kernel
theorem dL_alike_13 : decode cL_alike 13 = .ok (.iconst 0, 1) := by decide +kernel
theorem dL_alike_14 : decode cL_alike 14 = .ok (.istore 9, 2) := by decide +kernel
theorem dL_alike_16 : decode cL_alike 16 = .ok (.iconst 0, 1) := by decide +kernel
theorem dL_alike_17 : decode cL_alike 17 = .ok (.istore 10, 2) := by decide +kernel
theorem dL_alike_19 : decode cL_alike 19 = .ok (.iload 10, 2) := by decide +kernel
theorem dL_alike_21 : decode cL_alike 21 = .ok (.iconst 4, 1) := by decide +kernel
theorem dL_alike_22 : decode cL_alike 22 = .ok (.if_icmp .ge 513, 3) := by decide +kernel
theorem dL_alike_25 : decode cL_alike 25 = .ok (.bipush 16, 2) := by decide +kernel
theorem dL_alike_27 : decode cL_alike 27 = .ok (.iload 10, 2) := by decide +kernel
theorem dL_alike_29 : decode cL_alike 29 = .ok (.imul, 1) := by decide +kernel
theorem dL_alike_30 : decode cL_alike 30 = .ok (.istore 11, 2) := by decide +kernel
theorem dL_alike_32 : decode cL_alike 32 = .ok (.iload 9, 2) := by decide +kernel
theorem dL_alike_34 : decode cL_alike 34 = .ok (.ifCond .eq 126, 3) := by decide +kernel
theorem dL_alike_37 : decode cL_alike 37 = .ok (.aload_n 0, 1) := by decide +kernel
theorem dL_alike_38 : decode cL_alike 38 = .ok (.iload 10, 2) := by decide +kernel
theorem dL_alike_40 : decode cL_alike 40 = .ok (.iconst 0, 1) := by decide +kernel
theorem dL_alike_41 : decode cL_alike 41 = .ok (.invokevirtual 47, 3) := by decide +kernel
theorem dL_alike_44 : decode cL_alike 44 = .ok (.aload_n 1, 1) := by decide +kernel
theorem dL_alike_45 : decode cL_alike 45 = .ok (.iload 11, 2) := by decide +kernel
theorem dL_alike_47 : decode cL_alike 47 = .ok (.iaload, 1) := by decide +kernel
theorem dL_alike_48 : decode cL_alike 48 = .ok (.if_icmp .ne 112, 3) := by decide +kernel
theorem dL_alike_51 : decode cL_alike 51 = .ok (.aload_n 0, 1) := by decide +kernel
theorem dL_alike_52 : decode cL_alike 52 = .ok (.iload 10, 2) := by decide +kernel
theorem dL_alike_54 : decode cL_alike 54 = .ok (.iconst 1, 1) := by decide +kernel
theorem dL_alike_55 : decode cL_alike 55 = .ok (.invokevirtual 47, 3) := by decide +kernel
theorem dL_alike_58 : decode cL_alike 58 = .ok (.aload_n 1, 1) := by decide +kernel
theorem dL_alike_59 : decode cL_alike 59 = .ok (.iload 11, 2) := by decide +kernel
theorem dL_alike_61 : decode cL_alike 61 = .ok (.iconst 1, 1) := by decide +kernel
theorem dL_alike_62 : decode cL_alike 62 = .ok (.iadd, 1) := by decide +kernel
theorem dL_alike_63 : decode cL_alike 63 = .ok (.iaload, 1) := by decide +kernel
theorem dL_alike_64 : decode cL_alike 64 = .ok (.if_icmp .ne 96, 3) := by decide +kernel
theorem dL_alike_67 : decode cL_alike 67 = .ok (.aload_n 0, 1) := by decide +kernel
theorem dL_alike_68 : decode cL_alike 68 = .ok (.iload 10, 2) := by decide +kernel
theorem dL_alike_70 : decode cL_alike 70 = .ok (.invokevirtual 50, 3) := by decide +kernel
theorem dL_alike_73 : decode cL_alike 73 = .ok (.aload_n 1, 1) := by decide +kernel
theorem dL_alike_74 : decode cL_alike 74 = .ok (.iload 11, 2) := by decide +kernel
theorem dL_alike_76 : decode cL_alike 76 = .ok (.iconst 1, 1) := by decide +kernel
theorem dL_alike_77 : decode cL_alike 77 = .ok (.iadd, 1) := by decide +kernel
theorem dL_alike_78 : decode cL_alike 78 = .ok (.iaload, 1) := by decide +kernel
theorem dL_alike_79 : decode cL_alike 79 = .ok (.if_icmp .ne 81, 3) := by decide +kernel
theorem dL_alike_82 : decode cL_alike 82 = .ok (.aload_n 0, 1) := by decide +kernel
theorem dL_alike_83 : decode cL_alike 83 = .ok (.iload 10, 2) := by decide +kernel
theorem dL_alike_85 : decode cL_alike 85 = .ok (.iconst 2, 1) := by decide +kernel
theorem dL_alike_86 : decode cL_alike 86 = .ok (.invokevirtual 47, 3) := by decide +kernel
theorem dL_alike_89 : decode cL_alike 89 = .ok (.aload_n 1, 1) := by decide +kernel
theorem dL_alike_90 : decode cL_alike 90 = .ok (.iload 11, 2) := by decide +kernel
theorem dL_alike_92 : decode cL_alike 92 = .ok (.bipush 12, 2) := by decide +kernel
theorem dL_alike_94 : decode cL_alike 94 = .ok (.iadd, 1) := by decide +kernel
theorem dL_alike_95 : decode cL_alike 95 = .ok (.iaload, 1) := by decide +kernel
theorem dL_alike_96 : decode cL_alike 96 = .ok (.if_icmp .ne 64, 3) := by decide +kernel
theorem dL_alike_99 : decode cL_alike 99 = .ok (.aload_n 0, 1) := by decide +kernel
theorem dL_alike_100 : decode cL_alike 100 = .ok (.iload 10, 2) := by decide +kernel
theorem dL_alike_102 : decode cL_alike 102 = .ok (.iconst 3, 1) := by decide +kernel
theorem dL_alike_103 : decode cL_alike 103 = .ok (.invokevirtual 47, 3) := by decide +kernel
theorem dL_alike_106 : decode cL_alike 106 = .ok (.aload 4, 2) := by decide +kernel
theorem dL_alike_108 : decode cL_alike 108 = .ok (.bipush 12, 2) := by decide +kernel
theorem dL_alike_110 : decode cL_alike 110 = .ok (.aload_n 1, 1) := by decide +kernel
theorem dL_alike_111 : decode cL_alike 111 = .ok (.iload 11, 2) := by decide +kernel
theorem dL_alike_113 : decode cL_alike 113 = .ok (.iaload, 1) := by decide +kernel
theorem dL_alike_114 : decode cL_alike 114 = .ok (.iadd, 1) := by decide +kernel
theorem dL_alike_115 : decode cL_alike 115 = .ok (.iaload, 1) := by decide +kernel
theorem dL_alike_116 : decode cL_alike 116 = .ok (.iconst 1, 1) := by decide +kernel
theorem dL_alike_117 : decode cL_alike 117 = .ok (.isub, 1) := by decide +kernel
theorem dL_alike_118 : decode cL_alike 118 = .ok (.aload_n 1, 1) := by decide +kernel
theorem dL_alike_119 : decode cL_alike 119 = .ok (.aload 4, 2) := by decide +kernel
theorem dL_alike_121 : decode cL_alike 121 = .ok (.iload 10, 2) := by decide +kernel
theorem dL_alike_123 : decode cL_alike 123 = .ok (.invokestatic 18, 3) := by decide +kernel
theorem dL_alike_126 : decode cL_alike 126 = .ok (.isub, 1) := by decide +kernel
theorem dL_alike_127 : decode cL_alike 127 = .ok (.if_icmp .ne 33, 3) := by decide +kernel
theorem dL_alike_130 : decode cL_alike 130 = .ok (.aload_n 0, 1) := by decide +kernel
theorem dL_alike_131 : decode cL_alike 131 = .ok (.iload 10, 2) := by decide +kernel
theorem dL_alike_133 : decode cL_alike 133 = .ok (.iconst 4, 1) := by decide +kernel
theorem dL_alike_134 : decode cL_alike 134 = .ok (.invokevirtual 47, 3) := by decide +kernel
theorem dL_alike_137 : decode cL_alike 137 = .ok (.aload_n 1, 1) := by decide +kernel
theorem dL_alike_138 : decode cL_alike 138 = .ok (.aload 6, 2) := by decide +kernel
theorem dL_alike_140 : decode cL_alike 140 = .ok (.iload 10, 2) := by decide +kernel
theorem dL_alike_142 : decode cL_alike 142 = .ok (.invokestatic 14, 3) := by decide +kernel
theorem dL_alike_145 : decode cL_alike 145 = .ok (.ifCond .eq 7, 3) := by decide +kernel
theorem dL_alike_148 : decode cL_alike 148 = .ok (.iconst 1, 1) := by decide +kernel
theorem dL_alike_149 : decode cL_alike 149 = .ok (.goto 4, 3) := by decide +kernel
theorem dL_alike_152 : decode cL_alike 152 = .ok (.iconst 0, 1) := by decide +kernel
theorem dL_alike_153 : decode cL_alike 153 = .ok (.if_icmp .ne 7, 3) := by decide +kernel
theorem dL_alike_156 : decode cL_alike 156 = .ok (.iconst 1, 1) := by decide +kernel
theorem dL_alike_157 : decode cL_alike 157 = .ok (.goto 4, 3) := by decide +kernel
theorem dL_alike_160 : decode cL_alike 160 = .ok (.iconst 0, 1) := by decide +kernel
theorem dL_alike_161 : decode cL_alike 161 = .ok (.istore 9, 2) := by decide +kernel
theorem dL_alike_163 : decode cL_alike 163 = .ok (.iconst 0, 1) := by decide +kernel
theorem dL_alike_164 : decode cL_alike 164 = .ok (.istore 12, 2) := by decide +kernel
theorem dL_alike_166 : decode cL_alike 166 = .ok (.iconst 0, 1) := by decide +kernel
theorem dL_alike_167 : decode cL_alike 167 = .ok (.istore 13, 2) := by decide +kernel
theorem dL_alike_169 : decode cL_alike 169 = .ok (.iload 13, 2) := by decide +kernel
theorem dL_alike_171 : decode cL_alike 171 = .ok (.iconst 3, 1) := by decide +kernel
theorem dL_alike_172 : decode cL_alike 172 = .ok (.if_icmp .ge 173, 3) := by decide +kernel
theorem dL_alike_175 : decode cL_alike 175 = .ok (.iload 9, 2) := by decide +kernel
theorem dL_alike_177 : decode cL_alike 177 = .ok (.ifCond .eq 51, 3) := by decide +kernel
theorem dL_alike_180 : decode cL_alike 180 = .ok (.aload_n 0, 1) := by decide +kernel
theorem dL_alike_181 : decode cL_alike 181 = .ok (.iload 10, 2) := by decide +kernel
theorem dL_alike_183 : decode cL_alike 183 = .ok (.iload 13, 2) := by decide +kernel
theorem dL_alike_185 : decode cL_alike 185 = .ok (.iconst 0, 1) := by decide +kernel
theorem dL_alike_186 : decode cL_alike 186 = .ok (.invokevirtual 53, 3) := by decide +kernel
theorem dL_alike_189 : decode cL_alike 189 = .ok (.aload_n 1, 1) := by decide +kernel
theorem dL_alike_190 : decode cL_alike 190 = .ok (.iload 11, 2) := by decide +kernel
theorem dL_alike_192 : decode cL_alike 192 = .ok (.bipush 6, 2) := by decide +kernel
theorem dL_alike_194 : decode cL_alike 194 = .ok (.iadd, 1) := by decide +kernel
theorem dL_alike_195 : decode cL_alike 195 = .ok (.iload 13, 2) := by decide +kernel
theorem dL_alike_197 : decode cL_alike 197 = .ok (.iadd, 1) := by decide +kernel
theorem dL_alike_198 : decode cL_alike 198 = .ok (.iaload, 1) := by decide +kernel
theorem dL_alike_199 : decode cL_alike 199 = .ok (.if_icmp .ne 29, 3) := by decide +kernel
theorem dL_alike_202 : decode cL_alike 202 = .ok (.aload_n 0, 1) := by decide +kernel
theorem dL_alike_203 : decode cL_alike 203 = .ok (.iload 10, 2) := by decide +kernel
theorem dL_alike_205 : decode cL_alike 205 = .ok (.iload 13, 2) := by decide +kernel
theorem dL_alike_207 : decode cL_alike 207 = .ok (.iconst 1, 1) := by decide +kernel
theorem dL_alike_208 : decode cL_alike 208 = .ok (.invokevirtual 53, 3) := by decide +kernel
theorem dL_alike_211 : decode cL_alike 211 = .ok (.aload_n 1, 1) := by decide +kernel
theorem dL_alike_212 : decode cL_alike 212 = .ok (.iload 11, 2) := by decide +kernel
theorem dL_alike_214 : decode cL_alike 214 = .ok (.bipush 9, 2) := by decide +kernel
theorem dL_alike_216 : decode cL_alike 216 = .ok (.iadd, 1) := by decide +kernel
theorem dL_alike_217 : decode cL_alike 217 = .ok (.iload 13, 2) := by decide +kernel
theorem dL_alike_219 : decode cL_alike 219 = .ok (.iadd, 1) := by decide +kernel
theorem dL_alike_220 : decode cL_alike 220 = .ok (.iaload, 1) := by decide +kernel
theorem dL_alike_221 : decode cL_alike 221 = .ok (.if_icmp .ne 7, 3) := by decide +kernel
theorem dL_alike_224 : decode cL_alike 224 = .ok (.iconst 1, 1) := by decide +kernel
theorem dL_alike_225 : decode cL_alike 225 = .ok (.goto 4, 3) := by decide +kernel
theorem dL_alike_228 : decode cL_alike 228 = .ok (.iconst 0, 1) := by decide +kernel
theorem dL_alike_229 : decode cL_alike 229 = .ok (.istore 9, 2) := by decide +kernel
theorem dL_alike_231 : decode cL_alike 231 = .ok (.iload 12, 2) := by decide +kernel
theorem dL_alike_233 : decode cL_alike 233 = .ok (.aload_n 1, 1) := by decide +kernel
theorem dL_alike_234 : decode cL_alike 234 = .ok (.iload 11, 2) := by decide +kernel
theorem dL_alike_236 : decode cL_alike 236 = .ok (.bipush 6, 2) := by decide +kernel
theorem dL_alike_238 : decode cL_alike 238 = .ok (.iadd, 1) := by decide +kernel
theorem dL_alike_239 : decode cL_alike 239 = .ok (.iload 13, 2) := by decide +kernel
theorem dL_alike_241 : decode cL_alike 241 = .ok (.iadd, 1) := by decide +kernel
theorem dL_alike_242 : decode cL_alike 242 = .ok (.iaload, 1) := by decide +kernel
theorem dL_alike_243 : decode cL_alike 243 = .ok (.aload 6, 2) := by decide +kernel
theorem dL_alike_245 : decode cL_alike 245 = .ok (.iload 13, 2) := by decide +kernel
theorem dL_alike_247 : decode cL_alike 247 = .ok (.iaload, 1) := by decide +kernel
theorem dL_alike_248 : decode cL_alike 248 = .ok (.aload 6, 2) := by decide +kernel
theorem dL_alike_250 : decode cL_alike 250 = .ok (.iload 13, 2) := by decide +kernel
theorem dL_alike_252 : decode cL_alike 252 = .ok (.iaload, 1) := by decide +kernel
theorem dL_alike_253 : decode cL_alike 253 = .ok (.aload 6, 2) := by decide +kernel
theorem dL_alike_255 : decode cL_alike 255 = .ok (.iconst 3, 1) := by decide +kernel
theorem dL_alike_256 : decode cL_alike 256 = .ok (.iload 13, 2) := by decide +kernel
theorem dL_alike_258 : decode cL_alike 258 = .ok (.iadd, 1) := by decide +kernel
theorem dL_alike_259 : decode cL_alike 259 = .ok (.iaload, 1) := by decide +kernel
theorem dL_alike_260 : decode cL_alike 260 = .ok (.imul, 1) := by decide +kernel
theorem dL_alike_261 : decode cL_alike 261 = .ok (.bipush 100, 2) := by decide +kernel
theorem dL_alike_263 : decode cL_alike 263 = .ok (.idiv, 1) := by decide +kernel
theorem dL_alike_264 : decode cL_alike 264 = .ok (.iadd, 1) := by decide +kernel
theorem dL_alike_265 : decode cL_alike 265 = .ok (.if_icmp .gt 24, 3) := by decide +kernel
theorem dL_alike_268 : decode cL_alike 268 = .ok (.aload_n 1, 1) := by decide +kernel
theorem dL_alike_269 : decode cL_alike 269 = .ok (.iload 11, 2) := by decide +kernel
theorem dL_alike_271 : decode cL_alike 271 = .ok (.bipush 9, 2) := by decide +kernel
theorem dL_alike_273 : decode cL_alike 273 = .ok (.iadd, 1) := by decide +kernel
theorem dL_alike_274 : decode cL_alike 274 = .ok (.iload 13, 2) := by decide +kernel
theorem dL_alike_276 : decode cL_alike 276 = .ok (.iadd, 1) := by decide +kernel
theorem dL_alike_277 : decode cL_alike 277 = .ok (.iaload, 1) := by decide +kernel
theorem dL_alike_278 : decode cL_alike 278 = .ok (.aload 6, 2) := by decide +kernel
theorem dL_alike_280 : decode cL_alike 280 = .ok (.bipush 6, 2) := by decide +kernel
theorem dL_alike_282 : decode cL_alike 282 = .ok (.iload 13, 2) := by decide +kernel
theorem dL_alike_284 : decode cL_alike 284 = .ok (.iadd, 1) := by decide +kernel
theorem dL_alike_285 : decode cL_alike 285 = .ok (.iaload, 1) := by decide +kernel
theorem dL_alike_286 : decode cL_alike 286 = .ok (.if_icmp .le 10, 3) := by decide +kernel
theorem dL_alike_289 : decode cL_alike 289 = .ok (.iconst 1, 1) := by decide +kernel
theorem dL_alike_290 : decode cL_alike 290 = .ok (.iload 13, 2) := by decide +kernel
theorem dL_alike_292 : decode cL_alike 292 = .ok (.ishl, 1) := by decide +kernel
theorem dL_alike_293 : decode cL_alike 293 = .ok (.goto 4, 3) := by decide +kernel
theorem dL_alike_296 : decode cL_alike 296 = .ok (.iconst 0, 1) := by decide +kernel
theorem dL_alike_297 : decode cL_alike 297 = .ok (.iadd, 1) := by decide +kernel
theorem dL_alike_298 : decode cL_alike 298 = .ok (.istore 12, 2) := by decide +kernel
theorem dL_alike_300 : decode cL_alike 300 = .ok (.iload 9, 2) := by decide +kernel
theorem dL_alike_302 : decode cL_alike 302 = .ok (.ifCond .eq 34, 3) := by decide +kernel
theorem dL_alike_305 : decode cL_alike 305 = .ok (.aload_n 0, 1) := by decide +kernel
theorem dL_alike_306 : decode cL_alike 306 = .ok (.iload 10, 2) := by decide +kernel
theorem dL_alike_308 : decode cL_alike 308 = .ok (.iload 13, 2) := by decide +kernel
theorem dL_alike_310 : decode cL_alike 310 = .ok (.invokevirtual 57, 3) := by decide +kernel
theorem dL_alike_313 : decode cL_alike 313 = .ok (.aload_n 1, 1) := by decide +kernel
theorem dL_alike_314 : decode cL_alike 314 = .ok (.aload_n 2, 1) := by decide +kernel
theorem dL_alike_315 : decode cL_alike 315 = .ok (.aload_n 3, 1) := by decide +kernel
theorem dL_alike_316 : decode cL_alike 316 = .ok (.aload 5, 2) := by decide +kernel
theorem dL_alike_318 : decode cL_alike 318 = .ok (.aload 6, 2) := by decide +kernel
theorem dL_alike_320 : decode cL_alike 320 = .ok (.iload 10, 2) := by decide +kernel
theorem dL_alike_322 : decode cL_alike 322 = .ok (.iload 13, 2) := by decide +kernel
theorem dL_alike_324 : decode cL_alike 324 = .ok (.iload 7, 2) := by decide +kernel
theorem dL_alike_326 : decode cL_alike 326 = .ok (.invokestatic 8, 3) := by decide +kernel
theorem dL_alike_329 : decode cL_alike 329 = .ok (.if_icmp .ne 7, 3) := by decide +kernel
theorem dL_alike_332 : decode cL_alike 332 = .ok (.iconst 1, 1) := by decide +kernel
theorem dL_alike_333 : decode cL_alike 333 = .ok (.goto 4, 3) := by decide +kernel
theorem dL_alike_336 : decode cL_alike 336 = .ok (.iconst 0, 1) := by decide +kernel
theorem dL_alike_337 : decode cL_alike 337 = .ok (.istore 9, 2) := by decide +kernel
theorem dL_alike_339 : decode cL_alike 339 = .ok (.iinc 13 1, 3) := by decide +kernel
theorem dL_alike_342 : decode cL_alike 342 = .ok (.goto (-173), 3) := by decide +kernel
theorem dL_alike_345 : decode cL_alike 345 = .ok (.iload 9, 2) := by decide +kernel
theorem dL_alike_347 : decode cL_alike 347 = .ok (.ifCond .eq 19, 3) := by decide +kernel
theorem dL_alike_350 : decode cL_alike 350 = .ok (.aload_n 0, 1) := by decide +kernel
theorem dL_alike_351 : decode cL_alike 351 = .ok (.iload 10, 2) := by decide +kernel
theorem dL_alike_353 : decode cL_alike 353 = .ok (.iconst 5, 1) := by decide +kernel
theorem dL_alike_354 : decode cL_alike 354 = .ok (.invokevirtual 47, 3) := by decide +kernel
theorem dL_alike_357 : decode cL_alike 357 = .ok (.iload 12, 2) := by decide +kernel
theorem dL_alike_359 : decode cL_alike 359 = .ok (.if_icmp .ne 7, 3) := by decide +kernel
theorem dL_alike_362 : decode cL_alike 362 = .ok (.iconst 1, 1) := by decide +kernel
theorem dL_alike_363 : decode cL_alike 363 = .ok (.goto 4, 3) := by decide +kernel
theorem dL_alike_366 : decode cL_alike 366 = .ok (.iconst 0, 1) := by decide +kernel
theorem dL_alike_367 : decode cL_alike 367 = .ok (.istore 9, 2) := by decide +kernel
theorem dL_alike_369 : decode cL_alike 369 = .ok (.iconst 0, 1) := by decide +kernel
theorem dL_alike_370 : decode cL_alike 370 = .ok (.istore 13, 2) := by decide +kernel
theorem dL_alike_372 : decode cL_alike 372 = .ok (.iload 13, 2) := by decide +kernel
theorem dL_alike_374 : decode cL_alike 374 = .ok (.iconst 4, 1) := by decide +kernel
theorem dL_alike_375 : decode cL_alike 375 = .ok (.if_icmp .ge 41, 3) := by decide +kernel
theorem dL_alike_378 : decode cL_alike 378 = .ok (.iload 9, 2) := by decide +kernel
theorem dL_alike_380 : decode cL_alike 380 = .ok (.ifCond .eq 27, 3) := by decide +kernel
theorem dL_alike_383 : decode cL_alike 383 = .ok (.aload_n 0, 1) := by decide +kernel
theorem dL_alike_384 : decode cL_alike 384 = .ok (.iload 10, 2) := by decide +kernel
theorem dL_alike_386 : decode cL_alike 386 = .ok (.iload 13, 2) := by decide +kernel
theorem dL_alike_388 : decode cL_alike 388 = .ok (.invokevirtual 60, 3) := by decide +kernel
theorem dL_alike_391 : decode cL_alike 391 = .ok (.aload_n 1, 1) := by decide +kernel
theorem dL_alike_392 : decode cL_alike 392 = .ok (.iload 11, 2) := by decide +kernel
theorem dL_alike_394 : decode cL_alike 394 = .ok (.iconst 2, 1) := by decide +kernel
theorem dL_alike_395 : decode cL_alike 395 = .ok (.iadd, 1) := by decide +kernel
theorem dL_alike_396 : decode cL_alike 396 = .ok (.iload 13, 2) := by decide +kernel
theorem dL_alike_398 : decode cL_alike 398 = .ok (.iadd, 1) := by decide +kernel
theorem dL_alike_399 : decode cL_alike 399 = .ok (.iaload, 1) := by decide +kernel
theorem dL_alike_400 : decode cL_alike 400 = .ok (.if_icmp .ne 7, 3) := by decide +kernel
theorem dL_alike_403 : decode cL_alike 403 = .ok (.iconst 1, 1) := by decide +kernel
theorem dL_alike_404 : decode cL_alike 404 = .ok (.goto 4, 3) := by decide +kernel
theorem dL_alike_407 : decode cL_alike 407 = .ok (.iconst 0, 1) := by decide +kernel
theorem dL_alike_408 : decode cL_alike 408 = .ok (.istore 9, 2) := by decide +kernel
theorem dL_alike_410 : decode cL_alike 410 = .ok (.iinc 13 1, 3) := by decide +kernel
theorem dL_alike_413 : decode cL_alike 413 = .ok (.goto (-41), 3) := by decide +kernel
theorem dL_alike_416 : decode cL_alike 416 = .ok (.iconst 0, 1) := by decide +kernel
theorem dL_alike_417 : decode cL_alike 417 = .ok (.istore 13, 2) := by decide +kernel
theorem dL_alike_419 : decode cL_alike 419 = .ok (.iload 13, 2) := by decide +kernel
theorem dL_alike_421 : decode cL_alike 421 = .ok (.aload_n 1, 1) := by decide +kernel
theorem dL_alike_422 : decode cL_alike 422 = .ok (.iload 11, 2) := by decide +kernel
theorem dL_alike_424 : decode cL_alike 424 = .ok (.bipush 12, 2) := by decide +kernel
theorem dL_alike_426 : decode cL_alike 426 = .ok (.iadd, 1) := by decide +kernel
theorem dL_alike_427 : decode cL_alike 427 = .ok (.iaload, 1) := by decide +kernel
theorem dL_alike_428 : decode cL_alike 428 = .ok (.if_icmp .ge 101, 3) := by decide +kernel
theorem dL_alike_431 : decode cL_alike 431 = .ok (.bipush 8, 2) := by decide +kernel
theorem dL_alike_433 : decode cL_alike 433 = .ok (.iload 10, 2) := by decide +kernel
theorem dL_alike_435 : decode cL_alike 435 = .ok (.imul, 1) := by decide +kernel
theorem dL_alike_436 : decode cL_alike 436 = .ok (.iload 13, 2) := by decide +kernel
theorem dL_alike_438 : decode cL_alike 438 = .ok (.iadd, 1) := by decide +kernel
theorem dL_alike_439 : decode cL_alike 439 = .ok (.istore 14, 2) := by decide +kernel
theorem dL_alike_441 : decode cL_alike 441 = .ok (.iload 9, 2) := by decide +kernel
theorem dL_alike_443 : decode cL_alike 443 = .ok (.ifCond .eq 77, 3) := by decide +kernel
theorem dL_alike_446 : decode cL_alike 446 = .ok (.aload_n 0, 1) := by decide +kernel
theorem dL_alike_447 : decode cL_alike 447 = .ok (.iload 10, 2) := by decide +kernel
theorem dL_alike_449 : decode cL_alike 449 = .ok (.iload 13, 2) := by decide +kernel
theorem dL_alike_451 : decode cL_alike 451 = .ok (.iconst 0, 1) := by decide +kernel
theorem dL_alike_452 : decode cL_alike 452 = .ok (.invokevirtual 63, 3) := by decide +kernel
theorem dL_alike_455 : decode cL_alike 455 = .ok (.aload_n 2, 1) := by decide +kernel
theorem dL_alike_456 : decode cL_alike 456 = .ok (.iload 14, 2) := by decide +kernel
theorem dL_alike_458 : decode cL_alike 458 = .ok (.iaload, 1) := by decide +kernel
theorem dL_alike_459 : decode cL_alike 459 = .ok (.if_icmp .ne 61, 3) := by decide +kernel
theorem dL_alike_462 : decode cL_alike 462 = .ok (.aload_n 0, 1) := by decide +kernel
theorem dL_alike_463 : decode cL_alike 463 = .ok (.iload 10, 2) := by decide +kernel
theorem dL_alike_465 : decode cL_alike 465 = .ok (.iload 13, 2) := by decide +kernel
theorem dL_alike_467 : decode cL_alike 467 = .ok (.iconst 1, 1) := by decide +kernel
theorem dL_alike_468 : decode cL_alike 468 = .ok (.invokevirtual 63, 3) := by decide +kernel
theorem dL_alike_471 : decode cL_alike 471 = .ok (.aload_n 2, 1) := by decide +kernel
theorem dL_alike_472 : decode cL_alike 472 = .ok (.bipush 32, 2) := by decide +kernel
theorem dL_alike_474 : decode cL_alike 474 = .ok (.iload 14, 2) := by decide +kernel
theorem dL_alike_476 : decode cL_alike 476 = .ok (.iadd, 1) := by decide +kernel
theorem dL_alike_477 : decode cL_alike 477 = .ok (.iaload, 1) := by decide +kernel
theorem dL_alike_478 : decode cL_alike 478 = .ok (.if_icmp .ne 42, 3) := by decide +kernel
theorem dL_alike_481 : decode cL_alike 481 = .ok (.aload_n 0, 1) := by decide +kernel
theorem dL_alike_482 : decode cL_alike 482 = .ok (.iload 10, 2) := by decide +kernel
theorem dL_alike_484 : decode cL_alike 484 = .ok (.iload 13, 2) := by decide +kernel
theorem dL_alike_486 : decode cL_alike 486 = .ok (.iconst 2, 1) := by decide +kernel
theorem dL_alike_487 : decode cL_alike 487 = .ok (.invokevirtual 63, 3) := by decide +kernel
theorem dL_alike_490 : decode cL_alike 490 = .ok (.aload_n 3, 1) := by decide +kernel
theorem dL_alike_491 : decode cL_alike 491 = .ok (.iload 14, 2) := by decide +kernel
theorem dL_alike_493 : decode cL_alike 493 = .ok (.iaload, 1) := by decide +kernel
theorem dL_alike_494 : decode cL_alike 494 = .ok (.if_icmp .ne 26, 3) := by decide +kernel
theorem dL_alike_497 : decode cL_alike 497 = .ok (.aload_n 0, 1) := by decide +kernel
theorem dL_alike_498 : decode cL_alike 498 = .ok (.iload 10, 2) := by decide +kernel
theorem dL_alike_500 : decode cL_alike 500 = .ok (.iload 13, 2) := by decide +kernel
theorem dL_alike_502 : decode cL_alike 502 = .ok (.iconst 3, 1) := by decide +kernel
theorem dL_alike_503 : decode cL_alike 503 = .ok (.invokevirtual 63, 3) := by decide +kernel
theorem dL_alike_506 : decode cL_alike 506 = .ok (.aload_n 3, 1) := by decide +kernel
theorem dL_alike_507 : decode cL_alike 507 = .ok (.bipush 32, 2) := by decide +kernel
theorem dL_alike_509 : decode cL_alike 509 = .ok (.iload 14, 2) := by decide +kernel
theorem dL_alike_511 : decode cL_alike 511 = .ok (.iadd, 1) := by decide +kernel
theorem dL_alike_512 : decode cL_alike 512 = .ok (.iaload, 1) := by decide +kernel
theorem dL_alike_513 : decode cL_alike 513 = .ok (.if_icmp .ne 7, 3) := by decide +kernel
theorem dL_alike_516 : decode cL_alike 516 = .ok (.iconst 1, 1) := by decide +kernel
theorem dL_alike_517 : decode cL_alike 517 = .ok (.goto 4, 3) := by decide +kernel
theorem dL_alike_520 : decode cL_alike 520 = .ok (.iconst 0, 1) := by decide +kernel
theorem dL_alike_521 : decode cL_alike 521 = .ok (.istore 9, 2) := by decide +kernel
theorem dL_alike_523 : decode cL_alike 523 = .ok (.iinc 13 1, 3) := by decide +kernel
theorem dL_alike_526 : decode cL_alike 526 = .ok (.goto (-107), 3) := by decide +kernel
theorem dL_alike_529 : decode cL_alike 529 = .ok (.iinc 10 1, 3) := by decide +kernel
theorem dL_alike_532 : decode cL_alike 532 = .ok (.goto (-513), 3) := by decide +kernel
theorem dL_alike_535 : decode cL_alike 535 = .ok (.iconst 0, 1) := by decide +kernel
theorem dL_alike_536 : decode cL_alike 536 = .ok (.istore 10, 2) := by decide +kernel
theorem dL_alike_538 : decode cL_alike 538 = .ok (.iload 10, 2) := by decide +kernel
theorem dL_alike_540 : decode cL_alike 540 = .ok (.iconst 3, 1) := by decide +kernel
theorem dL_alike_541 : decode cL_alike 541 = .ok (.if_icmp .ge 92, 3) := by decide +kernel
theorem dL_alike_544 : decode cL_alike 544 = .ok (.iconst 0, 1) := by decide +kernel
theorem dL_alike_545 : decode cL_alike 545 = .ok (.istore 11, 2) := by decide +kernel
theorem dL_alike_547 : decode cL_alike 547 = .ok (.iload 11, 2) := by decide +kernel
theorem dL_alike_549 : decode cL_alike 549 = .ok (.aload 4, 2) := by decide +kernel
theorem dL_alike_551 : decode cL_alike 551 = .ok (.bipush 12, 2) := by decide +kernel
theorem dL_alike_553 : decode cL_alike 553 = .ok (.iload 10, 2) := by decide +kernel
theorem dL_alike_555 : decode cL_alike 555 = .ok (.iadd, 1) := by decide +kernel
theorem dL_alike_556 : decode cL_alike 556 = .ok (.iaload, 1) := by decide +kernel
theorem dL_alike_557 : decode cL_alike 557 = .ok (.if_icmp .gt 70, 3) := by decide +kernel
theorem dL_alike_560 : decode cL_alike 560 = .ok (.iload 9, 2) := by decide +kernel
theorem dL_alike_562 : decode cL_alike 562 = .ok (.ifCond .eq 56, 3) := by decide +kernel
theorem dL_alike_565 : decode cL_alike 565 = .ok (.aload_n 0, 1) := by decide +kernel
theorem dL_alike_566 : decode cL_alike 566 = .ok (.iload 10, 2) := by decide +kernel
theorem dL_alike_568 : decode cL_alike 568 = .ok (.iload 11, 2) := by decide +kernel
theorem dL_alike_570 : decode cL_alike 570 = .ok (.invokevirtual 67, 3) := by decide +kernel
theorem dL_alike_573 : decode cL_alike 573 = .ok (.iload 11, 2) := by decide +kernel
theorem dL_alike_575 : decode cL_alike 575 = .ok (.aload 4, 2) := by decide +kernel
theorem dL_alike_577 : decode cL_alike 577 = .ok (.bipush 12, 2) := by decide +kernel
theorem dL_alike_579 : decode cL_alike 579 = .ok (.iload 10, 2) := by decide +kernel
theorem dL_alike_581 : decode cL_alike 581 = .ok (.iadd, 1) := by decide +kernel
theorem dL_alike_582 : decode cL_alike 582 = .ok (.iaload, 1) := by decide +kernel
theorem dL_alike_583 : decode cL_alike 583 = .ok (.if_icmp .ne 7, 3) := by decide +kernel
theorem dL_alike_586 : decode cL_alike 586 = .ok (.iconst (-1), 1) := by decide +kernel
theorem dL_alike_587 : decode cL_alike 587 = .ok (.goto 24, 3) := by decide +kernel
theorem dL_alike_590 : decode cL_alike 590 = .ok (.aload 4, 2) := by decide +kernel
theorem dL_alike_592 : decode cL_alike 592 = .ok (.iconst 4, 1) := by decide +kernel
theorem dL_alike_593 : decode cL_alike 593 = .ok (.iload 10, 2) := by decide +kernel
theorem dL_alike_595 : decode cL_alike 595 = .ok (.imul, 1) := by decide +kernel
theorem dL_alike_596 : decode cL_alike 596 = .ok (.aload 4, 2) := by decide +kernel
theorem dL_alike_598 : decode cL_alike 598 = .ok (.bipush 12, 2) := by decide +kernel
theorem dL_alike_600 : decode cL_alike 600 = .ok (.iload 10, 2) := by decide +kernel
theorem dL_alike_602 : decode cL_alike 602 = .ok (.iadd, 1) := by decide +kernel
theorem dL_alike_603 : decode cL_alike 603 = .ok (.iaload, 1) := by decide +kernel
theorem dL_alike_604 : decode cL_alike 604 = .ok (.iadd, 1) := by decide +kernel
theorem dL_alike_605 : decode cL_alike 605 = .ok (.iconst 1, 1) := by decide +kernel
theorem dL_alike_606 : decode cL_alike 606 = .ok (.isub, 1) := by decide +kernel
theorem dL_alike_607 : decode cL_alike 607 = .ok (.iload 11, 2) := by decide +kernel
theorem dL_alike_609 : decode cL_alike 609 = .ok (.isub, 1) := by decide +kernel
theorem dL_alike_610 : decode cL_alike 610 = .ok (.iaload, 1) := by decide +kernel
theorem dL_alike_611 : decode cL_alike 611 = .ok (.if_icmp .ne 7, 3) := by decide +kernel
theorem dL_alike_614 : decode cL_alike 614 = .ok (.iconst 1, 1) := by decide +kernel
theorem dL_alike_615 : decode cL_alike 615 = .ok (.goto 4, 3) := by decide +kernel
theorem dL_alike_618 : decode cL_alike 618 = .ok (.iconst 0, 1) := by decide +kernel
theorem dL_alike_619 : decode cL_alike 619 = .ok (.istore 9, 2) := by decide +kernel
theorem dL_alike_621 : decode cL_alike 621 = .ok (.iinc 11 1, 3) := by decide +kernel
theorem dL_alike_624 : decode cL_alike 624 = .ok (.goto (-77), 3) := by decide +kernel
theorem dL_alike_627 : decode cL_alike 627 = .ok (.iinc 10 1, 3) := by decide +kernel
theorem dL_alike_630 : decode cL_alike 630 = .ok (.goto (-92), 3) := by decide +kernel
theorem dL_alike_633 : decode cL_alike 633 = .ok (.aload_n 1, 1) := by decide +kernel
theorem dL_alike_634 : decode cL_alike 634 = .ok (.aload_n 2, 1) := by decide +kernel
theorem dL_alike_635 : decode cL_alike 635 = .ok (.aload_n 3, 1) := by decide +kernel
theorem dL_alike_636 : decode cL_alike 636 = .ok (.aload 5, 2) := by decide +kernel
theorem dL_alike_638 : decode cL_alike 638 = .ok (.aload 6, 2) := by decide +kernel
theorem dL_alike_640 : decode cL_alike 640 = .ok (.iload 7, 2) := by decide +kernel
theorem dL_alike_642 : decode cL_alike 642 = .ok (.aload 8, 2) := by decide +kernel
theorem dL_alike_644 : decode cL_alike 644 = .ok (.invokestatic 70, 3) := by decide +kernel
theorem dL_alike_647 : decode cL_alike 647 = .ok (.istore 10, 2) := by decide +kernel
theorem dL_alike_649 : decode cL_alike 649 = .ok (.iload 9, 2) := by decide +kernel
theorem dL_alike_651 : decode cL_alike 651 = .ok (.ifCond .eq 16, 3) := by decide +kernel
theorem dL_alike_654 : decode cL_alike 654 = .ok (.aload_n 0, 1) := by decide +kernel
theorem dL_alike_655 : decode cL_alike 655 = .ok (.invokevirtual 74, 3) := by decide +kernel
theorem dL_alike_658 : decode cL_alike 658 = .ok (.iload 10, 2) := by decide +kernel
theorem dL_alike_660 : decode cL_alike 660 = .ok (.if_icmp .ne 7, 3) := by decide +kernel
theorem dL_alike_663 : decode cL_alike 663 = .ok (.iconst 1, 1) := by decide +kernel
theorem dL_alike_664 : decode cL_alike 664 = .ok (.goto 4, 3) := by decide +kernel
theorem dL_alike_667 : decode cL_alike 667 = .ok (.iconst 0, 1) := by decide +kernel
theorem dL_alike_668 : decode cL_alike 668 = .ok (.istore 9, 2) := by decide +kernel
theorem dL_alike_670 : decode cL_alike 670 = .ok (.iconst 0, 1) := by decide +kernel
theorem dL_alike_671 : decode cL_alike 671 = .ok (.istore 11, 2) := by decide +kernel
theorem dL_alike_673 : decode cL_alike 673 = .ok (.iload 11, 2) := by decide +kernel
theorem dL_alike_675 : decode cL_alike 675 = .ok (.iconst 3, 1) := by decide +kernel
theorem dL_alike_676 : decode cL_alike 676 = .ok (.if_icmp .ge 49, 3) := by decide +kernel
theorem dL_alike_679 : decode cL_alike 679 = .ok (.iload 9, 2) := by decide +kernel
theorem dL_alike_681 : decode cL_alike 681 = .ok (.ifCond .eq 35, 3) := by decide +kernel
theorem dL_alike_684 : decode cL_alike 684 = .ok (.aload_n 0, 1) := by decide +kernel
theorem dL_alike_685 : decode cL_alike 685 = .ok (.iload 11, 2) := by decide +kernel
theorem dL_alike_687 : decode cL_alike 687 = .ok (.invokevirtual 77, 3) := by decide +kernel
theorem dL_alike_690 : decode cL_alike 690 = .ok (.aload 8, 2) := by decide +kernel
theorem dL_alike_692 : decode cL_alike 692 = .ok (.iload 11, 2) := by decide +kernel
theorem dL_alike_694 : decode cL_alike 694 = .ok (.iaload, 1) := by decide +kernel
theorem dL_alike_695 : decode cL_alike 695 = .ok (.if_icmp .ne 21, 3) := by decide +kernel
theorem dL_alike_698 : decode cL_alike 698 = .ok (.aload_n 0, 1) := by decide +kernel
theorem dL_alike_699 : decode cL_alike 699 = .ok (.iload 11, 2) := by decide +kernel
theorem dL_alike_701 : decode cL_alike 701 = .ok (.invokevirtual 80, 3) := by decide +kernel
theorem dL_alike_704 : decode cL_alike 704 = .ok (.aload 8, 2) := by decide +kernel
theorem dL_alike_706 : decode cL_alike 706 = .ok (.iload 11, 2) := by decide +kernel
theorem dL_alike_708 : decode cL_alike 708 = .ok (.iaload, 1) := by decide +kernel
theorem dL_alike_709 : decode cL_alike 709 = .ok (.if_icmp .ne 7, 3) := by decide +kernel
theorem dL_alike_712 : decode cL_alike 712 = .ok (.iconst 1, 1) := by decide +kernel
theorem dL_alike_713 : decode cL_alike 713 = .ok (.goto 4, 3) := by decide +kernel
theorem dL_alike_716 : decode cL_alike 716 = .ok (.iconst 0, 1) := by decide +kernel
theorem dL_alike_717 : decode cL_alike 717 = .ok (.istore 9, 2) := by decide +kernel
theorem dL_alike_719 : decode cL_alike 719 = .ok (.iinc 11 1, 3) := by decide +kernel
theorem dL_alike_722 : decode cL_alike 722 = .ok (.goto (-49), 3) := by decide +kernel
theorem dL_alike_725 : decode cL_alike 725 = .ok (.iload 9, 2) := by decide +kernel
theorem dL_alike_727 : decode cL_alike 727 = .ok (.ireturn, 1) := by decide +kernel
theorem dL_law_0 : decode cL_law 0 = .ok (.new 23, 3) := by decide +kernel
theorem dL_law_3 : decode cL_law 3 = .ok (.dup, 1) := by decide +kernel
theorem dL_law_4 : decode cL_law 4 = .ok (.invokespecial 83, 3) := by decide +kernel
theorem dL_law_7 : decode cL_law 7 = .ok (.astore_n 1, 1) := by decide +kernel
theorem dL_law_8 : decode cL_law 8 = .ok (.bipush 64, 2) := by decide +kernel
theorem dL_law_10 : decode cL_law 10 = .ok (.newarray .int, 2) := by decide +kernel
theorem dL_law_12 : decode cL_law 12 = .ok (.astore_n 2, 1) := by decide +kernel
theorem dL_law_13 : decode cL_law 13 = .ok (.bipush 64, 2) := by decide +kernel
theorem dL_law_15 : decode cL_law 15 = .ok (.newarray .int, 2) := by decide +kernel
theorem dL_law_17 : decode cL_law 17 = .ok (.astore_n 3, 1) := by decide +kernel
theorem dL_law_18 : decode cL_law 18 = .ok (.bipush 64, 2) := by decide +kernel
theorem dL_law_20 : decode cL_law 20 = .ok (.newarray .int, 2) := by decide +kernel
theorem dL_law_22 : decode cL_law 22 = .ok (.astore 4, 2) := by decide +kernel
theorem dL_law_24 : decode cL_law 24 = .ok (.bipush 16, 2) := by decide +kernel
theorem dL_law_26 : decode cL_law 26 = .ok (.newarray .int, 2) := by decide +kernel
theorem dL_law_28 : decode cL_law 28 = .ok (.astore 5, 2) := by decide +kernel
theorem dL_law_30 : decode cL_law 30 = .ok (.bipush 18, 2) := by decide +kernel
theorem dL_law_32 : decode cL_law 32 = .ok (.newarray .int, 2) := by decide +kernel
theorem dL_law_34 : decode cL_law 34 = .ok (.astore 6, 2) := by decide +kernel
theorem dL_law_36 : decode cL_law 36 = .ok (.bipush 17, 2) := by decide +kernel
theorem dL_law_38 : decode cL_law 38 = .ok (.newarray .int, 2) := by decide +kernel
theorem dL_law_40 : decode cL_law 40 = .ok (.astore 7, 2) := by decide +kernel
theorem dL_law_42 : decode cL_law 42 = .ok (.iconst 3, 1) := by decide +kernel
theorem dL_law_43 : decode cL_law 43 = .ok (.newarray .int, 2) := by decide +kernel
theorem dL_law_45 : decode cL_law 45 = .ok (.astore 8, 2) := by decide +kernel
theorem dL_law_47 : decode cL_law 47 = .ok (.iconst 0, 1) := by decide +kernel
theorem dL_law_48 : decode cL_law 48 = .ok (.istore 9, 2) := by decide +kernel
theorem dL_law_50 : decode cL_law 50 = .ok (.iconst 0, 1) := by decide +kernel
theorem dL_law_51 : decode cL_law 51 = .ok (.istore 10, 2) := by decide +kernel
theorem dL_law_53 : decode cL_law 53 = .ok (.iconst 0, 1) := by decide +kernel
theorem dL_law_54 : decode cL_law 54 = .ok (.istore 11, 2) := by decide +kernel
theorem dL_law_56 : decode cL_law 56 = .ok (.iconst 0, 1) := by decide +kernel
theorem dL_law_57 : decode cL_law 57 = .ok (.istore 12, 2) := by decide +kernel
theorem dL_law_59 : decode cL_law 59 = .ok (.iconst 1, 1) := by decide +kernel
theorem dL_law_60 : decode cL_law 60 = .ok (.istore 13, 2) := by decide +kernel
theorem dL_law_62 : decode cL_law 62 = .ok (.iconst 0, 1) := by decide +kernel
theorem dL_law_63 : decode cL_law 63 = .ok (.istore 14, 2) := by decide +kernel
theorem dL_law_65 : decode cL_law 65 = .ok (.iload 14, 2) := by decide +kernel
theorem dL_law_67 : decode cL_law 67 = .ok (.iconst 4, 1) := by decide +kernel
theorem dL_law_68 : decode cL_law 68 = .ok (.if_icmp .ge 162, 3) := by decide +kernel
theorem dL_law_71 : decode cL_law 71 = .ok (.aload_n 0, 1) := by decide +kernel
theorem dL_law_72 : decode cL_law 72 = .ok (.iload 14, 2) := by decide +kernel
theorem dL_law_74 : decode cL_law 74 = .ok (.invokestatic 84, 3) := by decide +kernel
theorem dL_law_77 : decode cL_law 77 = .ok (.istore 15, 2) := by decide +kernel
theorem dL_law_79 : decode cL_law 79 = .ok (.iload 15, 2) := by decide +kernel
theorem dL_law_81 : decode cL_law 81 = .ok (.iconst 4, 1) := by decide +kernel
theorem dL_law_82 : decode cL_law 82 = .ok (.invokestatic 88, 3) := by decide +kernel
theorem dL_law_85 : decode cL_law 85 = .ok (.iconst 3, 1) := by decide +kernel
theorem dL_law_86 : decode cL_law 86 = .ok (.if_icmp .ne 15, 3) := by decide +kernel
theorem dL_law_89 : decode cL_law 89 = .ok (.iload 15, 2) := by decide +kernel
theorem dL_law_91 : decode cL_law 91 = .ok (.bipush 16, 2) := by decide +kernel
theorem dL_law_93 : decode cL_law 93 = .ok (.idiv, 1) := by decide +kernel
theorem dL_law_94 : decode cL_law 94 = .ok (.iconst 3, 1) := by decide +kernel
theorem dL_law_95 : decode cL_law 95 = .ok (.invokestatic 88, 3) := by decide +kernel
theorem dL_law_98 : decode cL_law 98 = .ok (.goto 4, 3) := by decide +kernel
theorem dL_law_101 : decode cL_law 101 = .ok (.iconst 0, 1) := by decide +kernel
theorem dL_law_102 : decode cL_law 102 = .ok (.istore 16, 2) := by decide +kernel
theorem dL_law_104 : decode cL_law 104 = .ok (.aload_n 2, 1) := by decide +kernel
theorem dL_law_105 : decode cL_law 105 = .ok (.bipush 16, 2) := by decide +kernel
theorem dL_law_107 : decode cL_law 107 = .ok (.iload 14, 2) := by decide +kernel
theorem dL_law_109 : decode cL_law 109 = .ok (.imul, 1) := by decide +kernel
theorem dL_law_110 : decode cL_law 110 = .ok (.iload 16, 2) := by decide +kernel
theorem dL_law_112 : decode cL_law 112 = .ok (.iastore, 1) := by decide +kernel
theorem dL_law_113 : decode cL_law 113 = .ok (.aload_n 2, 1) := by decide +kernel
theorem dL_law_114 : decode cL_law 114 = .ok (.bipush 16, 2) := by decide +kernel
theorem dL_law_116 : decode cL_law 116 = .ok (.iload 14, 2) := by decide +kernel
theorem dL_law_118 : decode cL_law 118 = .ok (.imul, 1) := by decide +kernel
theorem dL_law_119 : decode cL_law 119 = .ok (.iconst 1, 1) := by decide +kernel
theorem dL_law_120 : decode cL_law 120 = .ok (.iadd, 1) := by decide +kernel
theorem dL_law_121 : decode cL_law 121 = .ok (.iload 15, 2) := by decide +kernel
theorem dL_law_123 : decode cL_law 123 = .ok (.bipush 16, 2) := by decide +kernel
theorem dL_law_125 : decode cL_law 125 = .ok (.idiv, 1) := by decide +kernel
theorem dL_law_126 : decode cL_law 126 = .ok (.sipush 3000, 3) := by decide +kernel
theorem dL_law_129 : decode cL_law 129 = .ok (.invokestatic 88, 3) := by decide +kernel
theorem dL_law_132 : decode cL_law 132 = .ok (.iastore, 1) := by decide +kernel
theorem dL_law_133 : decode cL_law 133 = .ok (.iconst 2, 1) := by decide +kernel
theorem dL_law_134 : decode cL_law 134 = .ok (.istore 17, 2) := by decide +kernel
theorem dL_law_136 : decode cL_law 136 = .ok (.iload 17, 2) := by decide +kernel
theorem dL_law_138 : decode cL_law 138 = .ok (.bipush 6, 2) := by decide +kernel
theorem dL_law_140 : decode cL_law 140 = .ok (.if_icmp .ge 22, 3) := by decide +kernel
theorem dL_law_143 : decode cL_law 143 = .ok (.aload_n 2, 1) := by decide +kernel
theorem dL_law_144 : decode cL_law 144 = .ok (.bipush 16, 2) := by decide +kernel
theorem dL_law_146 : decode cL_law 146 = .ok (.iload 14, 2) := by decide +kernel
theorem dL_law_148 : decode cL_law 148 = .ok (.imul, 1) := by decide +kernel
theorem dL_law_149 : decode cL_law 149 = .ok (.iload 17, 2) := by decide +kernel
theorem dL_law_151 : decode cL_law 151 = .ok (.iadd, 1) := by decide +kernel
theorem dL_law_152 : decode cL_law 152 = .ok (.sipush 900, 3) := by decide +kernel
theorem dL_law_155 : decode cL_law 155 = .ok (.iastore, 1) := by decide +kernel
theorem dL_law_156 : decode cL_law 156 = .ok (.iinc 17 1, 3) := by decide +kernel
theorem dL_law_159 : decode cL_law 159 = .ok (.goto (-23), 3) := by decide +kernel
theorem dL_law_162 : decode cL_law 162 = .ok (.aload 5, 2) := by decide +kernel
theorem dL_law_164 : decode cL_law 164 = .ok (.iconst 4, 1) := by decide +kernel
theorem dL_law_165 : decode cL_law 165 = .ok (.iload 16, 2) := by decide +kernel
theorem dL_law_167 : decode cL_law 167 = .ok (.imul, 1) := by decide +kernel
theorem dL_law_168 : decode cL_law 168 = .ok (.aload 5, 2) := by decide +kernel
theorem dL_law_170 : decode cL_law 170 = .ok (.bipush 12, 2) := by decide +kernel
theorem dL_law_172 : decode cL_law 172 = .ok (.iload 16, 2) := by decide +kernel
theorem dL_law_174 : decode cL_law 174 = .ok (.iadd, 1) := by decide +kernel
theorem dL_law_175 : decode cL_law 175 = .ok (.iaload, 1) := by decide +kernel
theorem dL_law_176 : decode cL_law 176 = .ok (.iadd, 1) := by decide +kernel
theorem dL_law_177 : decode cL_law 177 = .ok (.iload 14, 2) := by decide +kernel
theorem dL_law_179 : decode cL_law 179 = .ok (.iastore, 1) := by decide +kernel
theorem dL_law_180 : decode cL_law 180 = .ok (.aload 5, 2) := by decide +kernel
theorem dL_law_182 : decode cL_law 182 = .ok (.bipush 12, 2) := by decide +kernel
theorem dL_law_184 : decode cL_law 184 = .ok (.iload 16, 2) := by decide +kernel
theorem dL_law_186 : decode cL_law 186 = .ok (.iadd, 1) := by decide +kernel
theorem dL_law_187 : decode cL_law 187 = .ok (.dup2, 1) := by decide +kernel
theorem dL_law_188 : decode cL_law 188 = .ok (.iaload, 1) := by decide +kernel
theorem dL_law_189 : decode cL_law 189 = .ok (.iconst 1, 1) := by decide +kernel
theorem dL_law_190 : decode cL_law 190 = .ok (.iadd, 1) := by decide +kernel
theorem dL_law_191 : decode cL_law 191 = .ok (.iastore, 1) := by decide +kernel
theorem dL_law_192 : decode cL_law 192 = .ok (.iload 13, 2) := by decide +kernel
theorem dL_law_194 : decode cL_law 194 = .ok (.ifCond .eq 27, 3) := by decide +kernel
theorem dL_law_197 : decode cL_law 197 = .ok (.aload_n 1, 1) := by decide +kernel
theorem dL_law_198 : decode cL_law 198 = .ok (.iload 16, 2) := by decide +kernel
theorem dL_law_200 : decode cL_law 200 = .ok (.aload_n 2, 1) := by decide +kernel
theorem dL_law_201 : decode cL_law 201 = .ok (.bipush 16, 2) := by decide +kernel
theorem dL_law_203 : decode cL_law 203 = .ok (.iload 14, 2) := by decide +kernel
theorem dL_law_205 : decode cL_law 205 = .ok (.imul, 1) := by decide +kernel
theorem dL_law_206 : decode cL_law 206 = .ok (.iconst 1, 1) := by decide +kernel
theorem dL_law_207 : decode cL_law 207 = .ok (.iadd, 1) := by decide +kernel
theorem dL_law_208 : decode cL_law 208 = .ok (.iaload, 1) := by decide +kernel
theorem dL_law_209 : decode cL_law 209 = .ok (.invokevirtual 91, 3) := by decide +kernel
theorem dL_law_212 : decode cL_law 212 = .ok (.iload 14, 2) := by decide +kernel
theorem dL_law_214 : decode cL_law 214 = .ok (.if_icmp .ne 7, 3) := by decide +kernel
theorem dL_law_217 : decode cL_law 217 = .ok (.iconst 1, 1) := by decide +kernel
theorem dL_law_218 : decode cL_law 218 = .ok (.goto 4, 3) := by decide +kernel
theorem dL_law_221 : decode cL_law 221 = .ok (.iconst 0, 1) := by decide +kernel
theorem dL_law_222 : decode cL_law 222 = .ok (.istore 13, 2) := by decide +kernel
theorem dL_law_224 : decode cL_law 224 = .ok (.iinc 14 1, 3) := by decide +kernel
theorem dL_law_227 : decode cL_law 227 = .ok (.goto (-162), 3) := by decide +kernel
theorem dL_law_230 : decode cL_law 230 = .ok (.iconst 0, 1) := by decide +kernel
theorem dL_law_231 : decode cL_law 231 = .ok (.istore 14, 2) := by decide +kernel
theorem dL_law_233 : decode cL_law 233 = .ok (.iload 14, 2) := by decide +kernel
theorem dL_law_235 : decode cL_law 235 = .ok (.iconst 3, 1) := by decide +kernel
theorem dL_law_236 : decode cL_law 236 = .ok (.if_icmp .ge 336, 3) := by decide +kernel
theorem dL_law_239 : decode cL_law 239 = .ok (.aload_n 0, 1) := by decide +kernel
theorem dL_law_240 : decode cL_law 240 = .ok (.iconst 4, 1) := by decide +kernel
theorem dL_law_241 : decode cL_law 241 = .ok (.iload 14, 2) := by decide +kernel
theorem dL_law_243 : decode cL_law 243 = .ok (.iadd, 1) := by decide +kernel
theorem dL_law_244 : decode cL_law 244 = .ok (.invokestatic 84, 3) := by decide +kernel
theorem dL_law_247 : decode cL_law 247 = .ok (.istore 15, 2) := by decide +kernel
theorem dL_law_249 : decode cL_law 249 = .ok (.aload 6, 2) := by decide +kernel
theorem dL_law_251 : decode cL_law 251 = .ok (.bipush 6, 2) := by decide +kernel
theorem dL_law_253 : decode cL_law 253 = .ok (.iload 14, 2) := by decide +kernel
theorem dL_law_255 : decode cL_law 255 = .ok (.imul, 1) := by decide +kernel
theorem dL_law_256 : decode cL_law 256 = .ok (.iload 15, 2) := by decide +kernel
theorem dL_law_258 : decode cL_law 258 = .ok (.iconst 5, 1) := by decide +kernel
theorem dL_law_259 : decode cL_law 259 = .ok (.invokestatic 88, 3) := by decide +kernel
theorem dL_law_262 : decode cL_law 262 = .ok (.iconst 3, 1) := by decide +kernel
theorem dL_law_263 : decode cL_law 263 = .ok (.if_icmp .ge 7, 3) := by decide +kernel
theorem dL_law_266 : decode cL_law 266 = .ok (.iconst 0, 1) := by decide +kernel
theorem dL_law_267 : decode cL_law 267 = .ok (.goto 12, 3) := by decide +kernel
theorem dL_law_270 : decode cL_law 270 = .ok (.iload 15, 2) := by decide +kernel
theorem dL_law_272 : decode cL_law 272 = .ok (.bipush 16, 2) := by decide +kernel
theorem dL_law_274 : decode cL_law 274 = .ok (.idiv, 1) := by decide +kernel
theorem dL_law_275 : decode cL_law 275 = .ok (.iconst 3, 1) := by decide +kernel
theorem dL_law_276 : decode cL_law 276 = .ok (.invokestatic 88, 3) := by decide +kernel
theorem dL_law_279 : decode cL_law 279 = .ok (.iastore, 1) := by decide +kernel
theorem dL_law_280 : decode cL_law 280 = .ok (.aload 6, 2) := by decide +kernel
theorem dL_law_282 : decode cL_law 282 = .ok (.bipush 6, 2) := by decide +kernel
theorem dL_law_284 : decode cL_law 284 = .ok (.iload 14, 2) := by decide +kernel
theorem dL_law_286 : decode cL_law 286 = .ok (.imul, 1) := by decide +kernel
theorem dL_law_287 : decode cL_law 287 = .ok (.iconst 1, 1) := by decide +kernel
theorem dL_law_288 : decode cL_law 288 = .ok (.iadd, 1) := by decide +kernel
theorem dL_law_289 : decode cL_law 289 = .ok (.iload 15, 2) := by decide +kernel
theorem dL_law_291 : decode cL_law 291 = .ok (.bipush 32, 2) := by decide +kernel
theorem dL_law_293 : decode cL_law 293 = .ok (.idiv, 1) := by decide +kernel
theorem dL_law_294 : decode cL_law 294 = .ok (.iconst 5, 1) := by decide +kernel
theorem dL_law_295 : decode cL_law 295 = .ok (.invokestatic 88, 3) := by decide +kernel
theorem dL_law_298 : decode cL_law 298 = .ok (.iconst 3, 1) := by decide +kernel
theorem dL_law_299 : decode cL_law 299 = .ok (.if_icmp .ge 7, 3) := by decide +kernel
theorem dL_law_302 : decode cL_law 302 = .ok (.iconst 0, 1) := by decide +kernel
theorem dL_law_303 : decode cL_law 303 = .ok (.goto 12, 3) := by decide +kernel
theorem dL_law_306 : decode cL_law 306 = .ok (.iload 15, 2) := by decide +kernel
theorem dL_law_308 : decode cL_law 308 = .ok (.bipush 64, 2) := by decide +kernel
theorem dL_law_310 : decode cL_law 310 = .ok (.idiv, 1) := by decide +kernel
theorem dL_law_311 : decode cL_law 311 = .ok (.iconst 3, 1) := by decide +kernel
theorem dL_law_312 : decode cL_law 312 = .ok (.invokestatic 88, 3) := by decide +kernel
theorem dL_law_315 : decode cL_law 315 = .ok (.iastore, 1) := by decide +kernel
theorem dL_law_316 : decode cL_law 316 = .ok (.aload 6, 2) := by decide +kernel
theorem dL_law_318 : decode cL_law 318 = .ok (.bipush 6, 2) := by decide +kernel
theorem dL_law_320 : decode cL_law 320 = .ok (.iload 14, 2) := by decide +kernel
theorem dL_law_322 : decode cL_law 322 = .ok (.imul, 1) := by decide +kernel
theorem dL_law_323 : decode cL_law 323 = .ok (.iconst 2, 1) := by decide +kernel
theorem dL_law_324 : decode cL_law 324 = .ok (.iadd, 1) := by decide +kernel
theorem dL_law_325 : decode cL_law 325 = .ok (.iconst 1, 1) := by decide +kernel
theorem dL_law_326 : decode cL_law 326 = .ok (.iload 15, 2) := by decide +kernel
theorem dL_law_328 : decode cL_law 328 = .ok (.bipush 64, 2) := by decide +kernel
theorem dL_law_330 : decode cL_law 330 = .ok (.idiv, 1) := by decide +kernel
theorem dL_law_331 : decode cL_law 331 = .ok (.iload 15, 2) := by decide +kernel
theorem dL_law_333 : decode cL_law 333 = .ok (.bipush 8, 2) := by decide +kernel
theorem dL_law_335 : decode cL_law 335 = .ok (.idiv, 1) := by decide +kernel
theorem dL_law_336 : decode cL_law 336 = .ok (.iconst 3, 1) := by decide +kernel
theorem dL_law_337 : decode cL_law 337 = .ok (.invokestatic 88, 3) := by decide +kernel
theorem dL_law_340 : decode cL_law 340 = .ok (.ifCond .ne 9, 3) := by decide +kernel
theorem dL_law_343 : decode cL_law 343 = .ok (.sipush 2000, 3) := by decide +kernel
theorem dL_law_346 : decode cL_law 346 = .ok (.goto 6, 3) := by decide +kernel
theorem dL_law_349 : decode cL_law 349 = .ok (.sipush 400, 3) := by decide +kernel
theorem dL_law_352 : decode cL_law 352 = .ok (.invokestatic 88, 3) := by decide +kernel
theorem dL_law_355 : decode cL_law 355 = .ok (.iadd, 1) := by decide +kernel
theorem dL_law_356 : decode cL_law 356 = .ok (.iastore, 1) := by decide +kernel
theorem dL_law_357 : decode cL_law 357 = .ok (.aload 6, 2) := by decide +kernel
theorem dL_law_359 : decode cL_law 359 = .ok (.bipush 6, 2) := by decide +kernel
theorem dL_law_361 : decode cL_law 361 = .ok (.iload 14, 2) := by decide +kernel
theorem dL_law_363 : decode cL_law 363 = .ok (.imul, 1) := by decide +kernel
theorem dL_law_364 : decode cL_law 364 = .ok (.iconst 3, 1) := by decide +kernel
theorem dL_law_365 : decode cL_law 365 = .ok (.iadd, 1) := by decide +kernel
theorem dL_law_366 : decode cL_law 366 = .ok (.iload 15, 2) := by decide +kernel
theorem dL_law_368 : decode cL_law 368 = .ok (.sipush 128, 3) := by decide +kernel
theorem dL_law_371 : decode cL_law 371 = .ok (.idiv, 1) := by decide +kernel
theorem dL_law_372 : decode cL_law 372 = .ok (.iconst 3, 1) := by decide +kernel
theorem dL_law_373 : decode cL_law 373 = .ok (.invokestatic 88, 3) := by decide +kernel
theorem dL_law_376 : decode cL_law 376 = .ok (.iastore, 1) := by decide +kernel
theorem dL_law_377 : decode cL_law 377 = .ok (.aload 6, 2) := by decide +kernel
theorem dL_law_379 : decode cL_law 379 = .ok (.bipush 6, 2) := by decide +kernel
theorem dL_law_381 : decode cL_law 381 = .ok (.iload 14, 2) := by decide +kernel
theorem dL_law_383 : decode cL_law 383 = .ok (.imul, 1) := by decide +kernel
theorem dL_law_384 : decode cL_law 384 = .ok (.iconst 4, 1) := by decide +kernel
theorem dL_law_385 : decode cL_law 385 = .ok (.iadd, 1) := by decide +kernel
theorem dL_law_386 : decode cL_law 386 = .ok (.iconst 1, 1) := by decide +kernel
theorem dL_law_387 : decode cL_law 387 = .ok (.iload 15, 2) := by decide +kernel
theorem dL_law_389 : decode cL_law 389 = .ok (.sipush 256, 3) := by decide +kernel
theorem dL_law_392 : decode cL_law 392 = .ok (.idiv, 1) := by decide +kernel
theorem dL_law_393 : decode cL_law 393 = .ok (.iload 15, 2) := by decide +kernel
theorem dL_law_395 : decode cL_law 395 = .ok (.bipush 16, 2) := by decide +kernel
theorem dL_law_397 : decode cL_law 397 = .ok (.idiv, 1) := by decide +kernel
theorem dL_law_398 : decode cL_law 398 = .ok (.iconst 2, 1) := by decide +kernel
theorem dL_law_399 : decode cL_law 399 = .ok (.invokestatic 88, 3) := by decide +kernel
theorem dL_law_402 : decode cL_law 402 = .ok (.ifCond .ne 7, 3) := by decide +kernel
theorem dL_law_405 : decode cL_law 405 = .ok (.iconst 3, 1) := by decide +kernel
theorem dL_law_406 : decode cL_law 406 = .ok (.goto 5, 3) := by decide +kernel
theorem dL_law_409 : decode cL_law 409 = .ok (.bipush 100, 2) := by decide +kernel
theorem dL_law_411 : decode cL_law 411 = .ok (.invokestatic 88, 3) := by decide +kernel
theorem dL_law_414 : decode cL_law 414 = .ok (.iadd, 1) := by decide +kernel
theorem dL_law_415 : decode cL_law 415 = .ok (.iastore, 1) := by decide +kernel
theorem dL_law_416 : decode cL_law 416 = .ok (.aload 6, 2) := by decide +kernel
theorem dL_law_418 : decode cL_law 418 = .ok (.bipush 6, 2) := by decide +kernel
theorem dL_law_420 : decode cL_law 420 = .ok (.iload 14, 2) := by decide +kernel
theorem dL_law_422 : decode cL_law 422 = .ok (.imul, 1) := by decide +kernel
theorem dL_law_423 : decode cL_law 423 = .ok (.iconst 5, 1) := by decide +kernel
theorem dL_law_424 : decode cL_law 424 = .ok (.iadd, 1) := by decide +kernel
theorem dL_law_425 : decode cL_law 425 = .ok (.iconst (-1), 1) := by decide +kernel
theorem dL_law_426 : decode cL_law 426 = .ok (.iastore, 1) := by decide +kernel
theorem dL_law_427 : decode cL_law 427 = .ok (.iload 13, 2) := by decide +kernel
theorem dL_law_429 : decode cL_law 429 = .ok (.ifCond .eq 64, 3) := by decide +kernel
theorem dL_law_432 : decode cL_law 432 = .ok (.aload_n 1, 1) := by decide +kernel
theorem dL_law_433 : decode cL_law 433 = .ok (.aload 6, 2) := by decide +kernel
theorem dL_law_435 : decode cL_law 435 = .ok (.bipush 6, 2) := by decide +kernel
theorem dL_law_437 : decode cL_law 437 = .ok (.iload 14, 2) := by decide +kernel
theorem dL_law_439 : decode cL_law 439 = .ok (.imul, 1) := by decide +kernel
theorem dL_law_440 : decode cL_law 440 = .ok (.iaload, 1) := by decide +kernel
theorem dL_law_441 : decode cL_law 441 = .ok (.aload 6, 2) := by decide +kernel
theorem dL_law_443 : decode cL_law 443 = .ok (.bipush 6, 2) := by decide +kernel
theorem dL_law_445 : decode cL_law 445 = .ok (.iload 14, 2) := by decide +kernel
theorem dL_law_447 : decode cL_law 447 = .ok (.imul, 1) := by decide +kernel
theorem dL_law_448 : decode cL_law 448 = .ok (.iconst 1, 1) := by decide +kernel
theorem dL_law_449 : decode cL_law 449 = .ok (.iadd, 1) := by decide +kernel
theorem dL_law_450 : decode cL_law 450 = .ok (.iaload, 1) := by decide +kernel
theorem dL_law_451 : decode cL_law 451 = .ok (.aload 6, 2) := by decide +kernel
theorem dL_law_453 : decode cL_law 453 = .ok (.bipush 6, 2) := by decide +kernel
theorem dL_law_455 : decode cL_law 455 = .ok (.iload 14, 2) := by decide +kernel
theorem dL_law_457 : decode cL_law 457 = .ok (.imul, 1) := by decide +kernel
theorem dL_law_458 : decode cL_law 458 = .ok (.iconst 2, 1) := by decide +kernel
theorem dL_law_459 : decode cL_law 459 = .ok (.iadd, 1) := by decide +kernel
theorem dL_law_460 : decode cL_law 460 = .ok (.iaload, 1) := by decide +kernel
theorem dL_law_461 : decode cL_law 461 = .ok (.aload 6, 2) := by decide +kernel
theorem dL_law_463 : decode cL_law 463 = .ok (.bipush 6, 2) := by decide +kernel
theorem dL_law_465 : decode cL_law 465 = .ok (.iload 14, 2) := by decide +kernel
theorem dL_law_467 : decode cL_law 467 = .ok (.imul, 1) := by decide +kernel
theorem dL_law_468 : decode cL_law 468 = .ok (.iconst 3, 1) := by decide +kernel
theorem dL_law_469 : decode cL_law 469 = .ok (.iadd, 1) := by decide +kernel
theorem dL_law_470 : decode cL_law 470 = .ok (.iaload, 1) := by decide +kernel
theorem dL_law_471 : decode cL_law 471 = .ok (.aload 6, 2) := by decide +kernel
theorem dL_law_473 : decode cL_law 473 = .ok (.bipush 6, 2) := by decide +kernel
theorem dL_law_475 : decode cL_law 475 = .ok (.iload 14, 2) := by decide +kernel
theorem dL_law_477 : decode cL_law 477 = .ok (.imul, 1) := by decide +kernel
theorem dL_law_478 : decode cL_law 478 = .ok (.iconst 4, 1) := by decide +kernel
theorem dL_law_479 : decode cL_law 479 = .ok (.iadd, 1) := by decide +kernel
theorem dL_law_480 : decode cL_law 480 = .ok (.iaload, 1) := by decide +kernel
theorem dL_law_481 : decode cL_law 481 = .ok (.invokevirtual 94, 3) := by decide +kernel
theorem dL_law_484 : decode cL_law 484 = .ok (.iload 14, 2) := by decide +kernel
theorem dL_law_486 : decode cL_law 486 = .ok (.if_icmp .ne 7, 3) := by decide +kernel
theorem dL_law_489 : decode cL_law 489 = .ok (.iconst 1, 1) := by decide +kernel
theorem dL_law_490 : decode cL_law 490 = .ok (.goto 4, 3) := by decide +kernel
theorem dL_law_493 : decode cL_law 493 = .ok (.iconst 0, 1) := by decide +kernel
theorem dL_law_494 : decode cL_law 494 = .ok (.istore 13, 2) := by decide +kernel
theorem dL_law_496 : decode cL_law 496 = .ok (.aload 7, 2) := by decide +kernel
theorem dL_law_498 : decode cL_law 498 = .ok (.iload 14, 2) := by decide +kernel
theorem dL_law_500 : decode cL_law 500 = .ok (.iload 14, 2) := by decide +kernel
theorem dL_law_502 : decode cL_law 502 = .ok (.ifCond .ne 9, 3) := by decide +kernel
theorem dL_law_505 : decode cL_law 505 = .ok (.sipush 1000, 3) := by decide +kernel
theorem dL_law_508 : decode cL_law 508 = .ok (.goto 18, 3) := by decide +kernel
theorem dL_law_511 : decode cL_law 511 = .ok (.iload 14, 2) := by decide +kernel
theorem dL_law_513 : decode cL_law 513 = .ok (.iconst 1, 1) := by decide +kernel
theorem dL_law_514 : decode cL_law 514 = .ok (.if_icmp .ne 9, 3) := by decide +kernel
theorem dL_law_517 : decode cL_law 517 = .ok (.sipush 3000, 3) := by decide +kernel
theorem dL_law_520 : decode cL_law 520 = .ok (.goto 6, 3) := by decide +kernel
theorem dL_law_523 : decode cL_law 523 = .ok (.sipush 9000, 3) := by decide +kernel
theorem dL_law_526 : decode cL_law 526 = .ok (.iastore, 1) := by decide +kernel
theorem dL_law_527 : decode cL_law 527 = .ok (.aload 7, 2) := by decide +kernel
theorem dL_law_529 : decode cL_law 529 = .ok (.iconst 3, 1) := by decide +kernel
theorem dL_law_530 : decode cL_law 530 = .ok (.iload 14, 2) := by decide +kernel
theorem dL_law_532 : decode cL_law 532 = .ok (.iadd, 1) := by decide +kernel
theorem dL_law_533 : decode cL_law 533 = .ok (.bipush 10, 2) := by decide +kernel
theorem dL_law_535 : decode cL_law 535 = .ok (.iastore, 1) := by decide +kernel
theorem dL_law_536 : decode cL_law 536 = .ok (.aload 7, 2) := by decide +kernel
theorem dL_law_538 : decode cL_law 538 = .ok (.bipush 6, 2) := by decide +kernel
theorem dL_law_540 : decode cL_law 540 = .ok (.iload 14, 2) := by decide +kernel
theorem dL_law_542 : decode cL_law 542 = .ok (.iadd, 1) := by decide +kernel
theorem dL_law_543 : decode cL_law 543 = .ok (.iload 14, 2) := by decide +kernel
theorem dL_law_545 : decode cL_law 545 = .ok (.ifCond .ne 7, 3) := by decide +kernel
theorem dL_law_548 : decode cL_law 548 = .ok (.iconst 5, 1) := by decide +kernel
theorem dL_law_549 : decode cL_law 549 = .ok (.goto 16, 3) := by decide +kernel
theorem dL_law_552 : decode cL_law 552 = .ok (.iload 14, 2) := by decide +kernel
theorem dL_law_554 : decode cL_law 554 = .ok (.iconst 1, 1) := by decide +kernel
theorem dL_law_555 : decode cL_law 555 = .ok (.if_icmp .ne 8, 3) := by decide +kernel
theorem dL_law_558 : decode cL_law 558 = .ok (.bipush 20, 2) := by decide +kernel
theorem dL_law_560 : decode cL_law 560 = .ok (.goto 5, 3) := by decide +kernel
theorem dL_law_563 : decode cL_law 563 = .ok (.bipush 60, 2) := by decide +kernel
theorem dL_law_565 : decode cL_law 565 = .ok (.iastore, 1) := by decide +kernel
theorem dL_law_566 : decode cL_law 566 = .ok (.iinc 14 1, 3) := by decide +kernel
theorem dL_law_569 : decode cL_law 569 = .ok (.goto (-336), 3) := by decide +kernel
theorem dL_law_572 : decode cL_law 572 = .ok (.iconst 0, 1) := by decide +kernel
theorem dL_law_573 : decode cL_law 573 = .ok (.istore 14, 2) := by decide +kernel
theorem dL_law_575 : decode cL_law 575 = .ok (.iload 14, 2) := by decide +kernel
theorem dL_law_577 : decode cL_law 577 = .ok (.iconst 4, 1) := by decide +kernel
theorem dL_law_578 : decode cL_law 578 = .ok (.if_icmp .ge 18, 3) := by decide +kernel
theorem dL_law_581 : decode cL_law 581 = .ok (.aload 7, 2) := by decide +kernel
theorem dL_law_583 : decode cL_law 583 = .ok (.bipush 9, 2) := by decide +kernel
theorem dL_law_585 : decode cL_law 585 = .ok (.iload 14, 2) := by decide +kernel
theorem dL_law_587 : decode cL_law 587 = .ok (.iadd, 1) := by decide +kernel
theorem dL_law_588 : decode cL_law 588 = .ok (.iconst (-1), 1) := by decide +kernel
theorem dL_law_589 : decode cL_law 589 = .ok (.iastore, 1) := by decide +kernel
theorem dL_law_590 : decode cL_law 590 = .ok (.iinc 14 1, 3) := by decide +kernel
theorem dL_law_593 : decode cL_law 593 = .ok (.goto (-18), 3) := by decide +kernel
theorem dL_law_596 : decode cL_law 596 = .ok (.bipush 7, 2) := by decide +kernel
theorem dL_law_598 : decode cL_law 598 = .ok (.istore 14, 2) := by decide +kernel
theorem dL_law_600 : decode cL_law 600 = .ok (.iload 14, 2) := by decide +kernel
theorem dL_law_602 : decode cL_law 602 = .ok (.bipush 67, 2) := by decide +kernel
theorem dL_law_604 : decode cL_law 604 = .ok (.if_icmp .ge 1372, 3) := by decide +kernel
theorem dL_law_607 : decode cL_law 607 = .ok (.iload 13, 2) := by decide +kernel
theorem dL_law_609 : decode cL_law 609 = .ok (.ifCond .eq 1367, 3) := by decide +kernel
theorem dL_law_612 : decode cL_law 612 = .ok (.aload_n 0, 1) := by decide +kernel
theorem dL_law_613 : decode cL_law 613 = .ok (.iload 14, 2) := by decide +kernel
theorem dL_law_615 : decode cL_law 615 = .ok (.invokestatic 84, 3) := by decide +kernel
theorem dL_law_618 : decode cL_law 618 = .ok (.istore 15, 2) := by decide +kernel
theorem dL_law_620 : decode cL_law 620 = .ok (.iload 15, 2) := by decide +kernel
theorem dL_law_622 : decode cL_law 622 = .ok (.bipush 14, 2) := by decide +kernel
theorem dL_law_624 : decode cL_law 624 = .ok (.invokestatic 88, 3) := by decide +kernel
theorem dL_law_627 : decode cL_law 627 = .ok (.istore 16, 2) := by decide +kernel
theorem dL_law_629 : decode cL_law 629 = .ok (.iload 15, 2) := by decide +kernel
theorem dL_law_631 : decode cL_law 631 = .ok (.bipush 16, 2) := by decide +kernel
theorem dL_law_633 : decode cL_law 633 = .ok (.idiv, 1) := by decide +kernel
theorem dL_law_634 : decode cL_law 634 = .ok (.iconst 4, 1) := by decide +kernel
theorem dL_law_635 : decode cL_law 635 = .ok (.invokestatic 88, 3) := by decide +kernel
theorem dL_law_638 : decode cL_law 638 = .ok (.istore 17, 2) := by decide +kernel
theorem dL_law_640 : decode cL_law 640 = .ok (.iload 15, 2) := by decide +kernel
theorem dL_law_642 : decode cL_law 642 = .ok (.bipush 64, 2) := by decide +kernel
theorem dL_law_644 : decode cL_law 644 = .ok (.idiv, 1) := by decide +kernel
theorem dL_law_645 : decode cL_law 645 = .ok (.iconst 4, 1) := by decide +kernel
theorem dL_law_646 : decode cL_law 646 = .ok (.invokestatic 88, 3) := by decide +kernel
theorem dL_law_649 : decode cL_law 649 = .ok (.istore 18, 2) := by decide +kernel
theorem dL_law_651 : decode cL_law 651 = .ok (.bipush 16, 2) := by decide +kernel
theorem dL_law_653 : decode cL_law 653 = .ok (.iload 17, 2) := by decide +kernel
theorem dL_law_655 : decode cL_law 655 = .ok (.imul, 1) := by decide +kernel
theorem dL_law_656 : decode cL_law 656 = .ok (.istore 19, 2) := by decide +kernel
theorem dL_law_658 : decode cL_law 658 = .ok (.iload 16, 2) := by decide +kernel
theorem dL_law_660 : decode cL_law 660 = .ok (.iconst 2, 1) := by decide +kernel
theorem dL_law_661 : decode cL_law 661 = .ok (.if_icmp .ge 244, 3) := by decide +kernel
theorem dL_law_664 : decode cL_law 664 = .ok (.iload 18, 2) := by decide +kernel
theorem dL_law_666 : decode cL_law 666 = .ok (.iconst 1, 1) := by decide +kernel
theorem dL_law_667 : decode cL_law 667 = .ok (.if_icmp .le 19, 3) := by decide +kernel
theorem dL_law_670 : decode cL_law 670 = .ok (.iload 15, 2) := by decide +kernel
theorem dL_law_672 : decode cL_law 672 = .ok (.sipush 256, 3) := by decide +kernel
theorem dL_law_675 : decode cL_law 675 = .ok (.idiv, 1) := by decide +kernel
theorem dL_law_676 : decode cL_law 676 = .ok (.bipush 9, 2) := by decide +kernel
theorem dL_law_678 : decode cL_law 678 = .ok (.invokestatic 88, 3) := by decide +kernel
theorem dL_law_681 : decode cL_law 681 = .ok (.iconst 4, 1) := by decide +kernel
theorem dL_law_682 : decode cL_law 682 = .ok (.isub, 1) := by decide +kernel
theorem dL_law_683 : decode cL_law 683 = .ok (.goto 13, 3) := by decide +kernel
theorem dL_law_686 : decode cL_law 686 = .ok (.iload 15, 2) := by decide +kernel
theorem dL_law_688 : decode cL_law 688 = .ok (.sipush 256, 3) := by decide +kernel
theorem dL_law_691 : decode cL_law 691 = .ok (.idiv, 1) := by decide +kernel
theorem dL_law_692 : decode cL_law 692 = .ok (.iconst 4, 1) := by decide +kernel
theorem dL_law_693 : decode cL_law 693 = .ok (.invokestatic 88, 3) := by decide +kernel
theorem dL_law_696 : decode cL_law 696 = .ok (.istore 20, 2) := by decide +kernel
theorem dL_law_698 : decode cL_law 698 = .ok (.iload 18, 2) := by decide +kernel
theorem dL_law_700 : decode cL_law 700 = .ok (.ifCond .ne 19, 3) := by decide +kernel
theorem dL_law_703 : decode cL_law 703 = .ok (.iconst 1, 1) := by decide +kernel
theorem dL_law_704 : decode cL_law 704 = .ok (.iload 15, 2) := by decide +kernel
theorem dL_law_706 : decode cL_law 706 = .ok (.sipush 512, 3) := by decide +kernel
theorem dL_law_709 : decode cL_law 709 = .ok (.idiv, 1) := by decide +kernel
theorem dL_law_710 : decode cL_law 710 = .ok (.bipush 20, 2) := by decide +kernel
theorem dL_law_712 : decode cL_law 712 = .ok (.invokestatic 88, 3) := by decide +kernel
theorem dL_law_715 : decode cL_law 715 = .ok (.iadd, 1) := by decide +kernel
theorem dL_law_716 : decode cL_law 716 = .ok (.goto 40, 3) := by decide +kernel
theorem dL_law_719 : decode cL_law 719 = .ok (.iload 18, 2) := by decide +kernel
theorem dL_law_721 : decode cL_law 721 = .ok (.iconst 2, 1) := by decide +kernel
theorem dL_law_722 : decode cL_law 722 = .ok (.if_icmp .ne 19, 3) := by decide +kernel
theorem dL_law_725 : decode cL_law 725 = .ok (.iconst 1, 1) := by decide +kernel
theorem dL_law_726 : decode cL_law 726 = .ok (.iload 15, 2) := by decide +kernel
theorem dL_law_728 : decode cL_law 728 = .ok (.sipush 512, 3) := by decide +kernel
theorem dL_law_731 : decode cL_law 731 = .ok (.idiv, 1) := by decide +kernel
theorem dL_law_732 : decode cL_law 732 = .ok (.bipush 100, 2) := by decide +kernel
theorem dL_law_734 : decode cL_law 734 = .ok (.invokestatic 88, 3) := by decide +kernel
theorem dL_law_737 : decode cL_law 737 = .ok (.iadd, 1) := by decide +kernel
theorem dL_law_738 : decode cL_law 738 = .ok (.goto 18, 3) := by decide +kernel
theorem dL_law_741 : decode cL_law 741 = .ok (.iload 15, 2) := by decide +kernel
theorem dL_law_743 : decode cL_law 743 = .ok (.sipush 512, 3) := by decide +kernel
theorem dL_law_746 : decode cL_law 746 = .ok (.idiv, 1) := by decide +kernel
theorem dL_law_747 : decode cL_law 747 = .ok (.sipush 300, 3) := by decide +kernel
theorem dL_law_750 : decode cL_law 750 = .ok (.invokestatic 88, 3) := by decide +kernel
theorem dL_law_753 : decode cL_law 753 = .ok (.bipush 100, 2) := by decide +kernel
theorem dL_law_755 : decode cL_law 755 = .ok (.isub, 1) := by decide +kernel
theorem dL_law_756 : decode cL_law 756 = .ok (.istore 21, 2) := by decide +kernel
theorem dL_law_758 : decode cL_law 758 = .ok (.aload_n 2, 1) := by decide +kernel
theorem dL_law_759 : decode cL_law 759 = .ok (.iload 19, 2) := by decide +kernel
theorem dL_law_761 : decode cL_law 761 = .ok (.bipush 12, 2) := by decide +kernel
theorem dL_law_763 : decode cL_law 763 = .ok (.iadd, 1) := by decide +kernel
theorem dL_law_764 : decode cL_law 764 = .ok (.iaload, 1) := by decide +kernel
theorem dL_law_765 : decode cL_law 765 = .ok (.istore 22, 2) := by decide +kernel
theorem dL_law_767 : decode cL_law 767 = .ok (.aload_n 1, 1) := by decide +kernel
theorem dL_law_768 : decode cL_law 768 = .ok (.iload 17, 2) := by decide +kernel
theorem dL_law_770 : decode cL_law 770 = .ok (.iload 18, 2) := by decide +kernel
theorem dL_law_772 : decode cL_law 772 = .ok (.iload 20, 2) := by decide +kernel
theorem dL_law_774 : decode cL_law 774 = .ok (.iload 21, 2) := by decide +kernel
theorem dL_law_776 : decode cL_law 776 = .ok (.invokestatic 98, 3) := by decide +kernel
theorem dL_law_779 : decode cL_law 779 = .ok (.iload 22, 2) := by decide +kernel
theorem dL_law_781 : decode cL_law 781 = .ok (.bipush 8, 2) := by decide +kernel
theorem dL_law_783 : decode cL_law 783 = .ok (.if_icmp .ne 9, 3) := by decide +kernel
theorem dL_law_786 : decode cL_law 786 = .ok (.sipush (-1003), 3) := by decide +kernel
theorem dL_law_789 : decode cL_law 789 = .ok (.goto 7, 3) := by decide +kernel
theorem dL_law_792 : decode cL_law 792 = .ok (.iload 22, 2) := by decide +kernel
theorem dL_law_794 : decode cL_law 794 = .ok (.iconst 1, 1) := by decide +kernel
theorem dL_law_795 : decode cL_law 795 = .ok (.iadd, 1) := by decide +kernel
theorem dL_law_796 : decode cL_law 796 = .ok (.if_icmp .ne 7, 3) := by decide +kernel
theorem dL_law_799 : decode cL_law 799 = .ok (.iconst 1, 1) := by decide +kernel
theorem dL_law_800 : decode cL_law 800 = .ok (.goto 4, 3) := by decide +kernel
theorem dL_law_803 : decode cL_law 803 = .ok (.iconst 0, 1) := by decide +kernel
theorem dL_law_804 : decode cL_law 804 = .ok (.istore 13, 2) := by decide +kernel
theorem dL_law_806 : decode cL_law 806 = .ok (.iload 22, 2) := by decide +kernel
theorem dL_law_808 : decode cL_law 808 = .ok (.bipush 8, 2) := by decide +kernel
theorem dL_law_810 : decode cL_law 810 = .ok (.if_icmp .ge 92, 3) := by decide +kernel
theorem dL_law_813 : decode cL_law 813 = .ok (.aload_n 3, 1) := by decide +kernel
theorem dL_law_814 : decode cL_law 814 = .ok (.bipush 8, 2) := by decide +kernel
theorem dL_law_816 : decode cL_law 816 = .ok (.iload 17, 2) := by decide +kernel
theorem dL_law_818 : decode cL_law 818 = .ok (.imul, 1) := by decide +kernel
theorem dL_law_819 : decode cL_law 819 = .ok (.iload 22, 2) := by decide +kernel
theorem dL_law_821 : decode cL_law 821 = .ok (.iadd, 1) := by decide +kernel
theorem dL_law_822 : decode cL_law 822 = .ok (.iload 18, 2) := by decide +kernel
theorem dL_law_824 : decode cL_law 824 = .ok (.iastore, 1) := by decide +kernel
theorem dL_law_825 : decode cL_law 825 = .ok (.aload_n 3, 1) := by decide +kernel
theorem dL_law_826 : decode cL_law 826 = .ok (.bipush 32, 2) := by decide +kernel
theorem dL_law_828 : decode cL_law 828 = .ok (.bipush 8, 2) := by decide +kernel
theorem dL_law_830 : decode cL_law 830 = .ok (.iload 17, 2) := by decide +kernel
theorem dL_law_832 : decode cL_law 832 = .ok (.imul, 1) := by decide +kernel
theorem dL_law_833 : decode cL_law 833 = .ok (.iadd, 1) := by decide +kernel
theorem dL_law_834 : decode cL_law 834 = .ok (.iload 22, 2) := by decide +kernel
theorem dL_law_836 : decode cL_law 836 = .ok (.iadd, 1) := by decide +kernel
theorem dL_law_837 : decode cL_law 837 = .ok (.iload 9, 2) := by decide +kernel
theorem dL_law_839 : decode cL_law 839 = .ok (.iastore, 1) := by decide +kernel
theorem dL_law_840 : decode cL_law 840 = .ok (.aload 4, 2) := by decide +kernel
theorem dL_law_842 : decode cL_law 842 = .ok (.bipush 8, 2) := by decide +kernel
theorem dL_law_844 : decode cL_law 844 = .ok (.iload 17, 2) := by decide +kernel
theorem dL_law_846 : decode cL_law 846 = .ok (.imul, 1) := by decide +kernel
theorem dL_law_847 : decode cL_law 847 = .ok (.iload 22, 2) := by decide +kernel
theorem dL_law_849 : decode cL_law 849 = .ok (.iadd, 1) := by decide +kernel
theorem dL_law_850 : decode cL_law 850 = .ok (.iload 18, 2) := by decide +kernel
theorem dL_law_852 : decode cL_law 852 = .ok (.iconst 1, 1) := by decide +kernel
theorem dL_law_853 : decode cL_law 853 = .ok (.if_icmp .le 7, 3) := by decide +kernel
theorem dL_law_856 : decode cL_law 856 = .ok (.iconst (-1), 1) := by decide +kernel
theorem dL_law_857 : decode cL_law 857 = .ok (.goto 5, 3) := by decide +kernel
theorem dL_law_860 : decode cL_law 860 = .ok (.iload 20, 2) := by decide +kernel
theorem dL_law_862 : decode cL_law 862 = .ok (.iastore, 1) := by decide +kernel
theorem dL_law_863 : decode cL_law 863 = .ok (.aload 4, 2) := by decide +kernel
theorem dL_law_865 : decode cL_law 865 = .ok (.bipush 32, 2) := by decide +kernel
theorem dL_law_867 : decode cL_law 867 = .ok (.bipush 8, 2) := by decide +kernel
theorem dL_law_869 : decode cL_law 869 = .ok (.iload 17, 2) := by decide +kernel
theorem dL_law_871 : decode cL_law 871 = .ok (.imul, 1) := by decide +kernel
theorem dL_law_872 : decode cL_law 872 = .ok (.iadd, 1) := by decide +kernel
theorem dL_law_873 : decode cL_law 873 = .ok (.iload 22, 2) := by decide +kernel
theorem dL_law_875 : decode cL_law 875 = .ok (.iadd, 1) := by decide +kernel
theorem dL_law_876 : decode cL_law 876 = .ok (.iload 18, 2) := by decide +kernel
theorem dL_law_878 : decode cL_law 878 = .ok (.iconst 2, 1) := by decide +kernel
theorem dL_law_879 : decode cL_law 879 = .ok (.irem, 1) := by decide +kernel
theorem dL_law_880 : decode cL_law 880 = .ok (.iconst 1, 1) := by decide +kernel
theorem dL_law_881 : decode cL_law 881 = .ok (.if_icmp .ne 7, 3) := by decide +kernel
theorem dL_law_884 : decode cL_law 884 = .ok (.iconst (-1), 1) := by decide +kernel
theorem dL_law_885 : decode cL_law 885 = .ok (.goto 5, 3) := by decide +kernel
theorem dL_law_888 : decode cL_law 888 = .ok (.iload 21, 2) := by decide +kernel
theorem dL_law_890 : decode cL_law 890 = .ok (.iastore, 1) := by decide +kernel
theorem dL_law_891 : decode cL_law 891 = .ok (.aload_n 2, 1) := by decide +kernel
theorem dL_law_892 : decode cL_law 892 = .ok (.iload 19, 2) := by decide +kernel
theorem dL_law_894 : decode cL_law 894 = .ok (.bipush 12, 2) := by decide +kernel
theorem dL_law_896 : decode cL_law 896 = .ok (.iadd, 1) := by decide +kernel
theorem dL_law_897 : decode cL_law 897 = .ok (.dup2, 1) := by decide +kernel
theorem dL_law_898 : decode cL_law 898 = .ok (.iaload, 1) := by decide +kernel
theorem dL_law_899 : decode cL_law 899 = .ok (.iconst 1, 1) := by decide +kernel
theorem dL_law_900 : decode cL_law 900 = .ok (.iadd, 1) := by decide +kernel
theorem dL_law_901 : decode cL_law 901 = .ok (.iastore, 1) := by decide +kernel
theorem dL_law_902 : decode cL_law 902 = .ok (.goto 1035, 3) := by decide +kernel
theorem dL_law_905 : decode cL_law 905 = .ok (.iload 16, 2) := by decide +kernel
theorem dL_law_907 : decode cL_law 907 = .ok (.iconst 2, 1) := by decide +kernel
theorem dL_law_908 : decode cL_law 908 = .ok (.if_icmp .ne 118, 3) := by decide +kernel
theorem dL_law_911 : decode cL_law 911 = .ok (.iload 15, 2) := by decide +kernel
theorem dL_law_913 : decode cL_law 913 = .ok (.sipush 256, 3) := by decide +kernel
theorem dL_law_916 : decode cL_law 916 = .ok (.idiv, 1) := by decide +kernel
theorem dL_law_917 : decode cL_law 917 = .ok (.iconst 4, 1) := by decide +kernel
theorem dL_law_918 : decode cL_law 918 = .ok (.invokestatic 88, 3) := by decide +kernel
theorem dL_law_921 : decode cL_law 921 = .ok (.ifCond .ne 7, 3) := by decide +kernel
theorem dL_law_924 : decode cL_law 924 = .ok (.iconst (-1), 1) := by decide +kernel
theorem dL_law_925 : decode cL_law 925 = .ok (.goto 14, 3) := by decide +kernel
theorem dL_law_928 : decode cL_law 928 = .ok (.iload 15, 2) := by decide +kernel
theorem dL_law_930 : decode cL_law 930 = .ok (.sipush 256, 3) := by decide +kernel
theorem dL_law_933 : decode cL_law 933 = .ok (.idiv, 1) := by decide +kernel
theorem dL_law_934 : decode cL_law 934 = .ok (.bipush 31, 2) := by decide +kernel
theorem dL_law_936 : decode cL_law 936 = .ok (.invokestatic 88, 3) := by decide +kernel
theorem dL_law_939 : decode cL_law 939 = .ok (.istore 20, 2) := by decide +kernel
theorem dL_law_941 : decode cL_law 941 = .ok (.iload 20, 2) := by decide +kernel
theorem dL_law_943 : decode cL_law 943 = .ok (.ifCond .ge 20, 3) := by decide +kernel
theorem dL_law_946 : decode cL_law 946 = .ok (.iload 15, 2) := by decide +kernel
theorem dL_law_948 : decode cL_law 948 = .ok (.sipush 512, 3) := by decide +kernel
theorem dL_law_951 : decode cL_law 951 = .ok (.idiv, 1) := by decide +kernel
theorem dL_law_952 : decode cL_law 952 = .ok (.bipush 99, 2) := by decide +kernel
theorem dL_law_954 : decode cL_law 954 = .ok (.invokestatic 88, 3) := by decide +kernel
theorem dL_law_957 : decode cL_law 957 = .ok (.bipush 50, 2) := by decide +kernel
theorem dL_law_959 : decode cL_law 959 = .ok (.isub, 1) := by decide +kernel
theorem dL_law_960 : decode cL_law 960 = .ok (.goto 13, 3) := by decide +kernel
theorem dL_law_963 : decode cL_law 963 = .ok (.iload 15, 2) := by decide +kernel
theorem dL_law_965 : decode cL_law 965 = .ok (.sipush 512, 3) := by decide +kernel
theorem dL_law_968 : decode cL_law 968 = .ok (.idiv, 1) := by decide +kernel
theorem dL_law_969 : decode cL_law 969 = .ok (.iconst 3, 1) := by decide +kernel
theorem dL_law_970 : decode cL_law 970 = .ok (.invokestatic 88, 3) := by decide +kernel
theorem dL_law_973 : decode cL_law 973 = .ok (.istore 21, 2) := by decide +kernel
theorem dL_law_975 : decode cL_law 975 = .ok (.aload_n 1, 1) := by decide +kernel
theorem dL_law_976 : decode cL_law 976 = .ok (.iload 18, 2) := by decide +kernel
theorem dL_law_978 : decode cL_law 978 = .ok (.iload 20, 2) := by decide +kernel
theorem dL_law_980 : decode cL_law 980 = .ok (.iload 21, 2) := by decide +kernel
theorem dL_law_982 : decode cL_law 982 = .ok (.invokevirtual 102, 3) := by decide +kernel
theorem dL_law_985 : decode cL_law 985 = .ok (.aload 7, 2) := by decide +kernel
theorem dL_law_987 : decode cL_law 987 = .ok (.bipush 9, 2) := by decide +kernel
theorem dL_law_989 : decode cL_law 989 = .ok (.iload 18, 2) := by decide +kernel
theorem dL_law_991 : decode cL_law 991 = .ok (.iadd, 1) := by decide +kernel
theorem dL_law_992 : decode cL_law 992 = .ok (.iaload, 1) := by decide +kernel
theorem dL_law_993 : decode cL_law 993 = .ok (.if_icmp .ne 7, 3) := by decide +kernel
theorem dL_law_996 : decode cL_law 996 = .ok (.iconst 1, 1) := by decide +kernel
theorem dL_law_997 : decode cL_law 997 = .ok (.goto 4, 3) := by decide +kernel
theorem dL_law_1000 : decode cL_law 1000 = .ok (.iconst 0, 1) := by decide +kernel
theorem dL_law_1001 : decode cL_law 1001 = .ok (.istore 13, 2) := by decide +kernel
theorem dL_law_1003 : decode cL_law 1003 = .ok (.aload 7, 2) := by decide +kernel
theorem dL_law_1005 : decode cL_law 1005 = .ok (.bipush 9, 2) := by decide +kernel
theorem dL_law_1007 : decode cL_law 1007 = .ok (.iload 18, 2) := by decide +kernel
theorem dL_law_1009 : decode cL_law 1009 = .ok (.iadd, 1) := by decide +kernel
theorem dL_law_1010 : decode cL_law 1010 = .ok (.iload 20, 2) := by decide +kernel
theorem dL_law_1012 : decode cL_law 1012 = .ok (.iastore, 1) := by decide +kernel
theorem dL_law_1013 : decode cL_law 1013 = .ok (.aload 7, 2) := by decide +kernel
theorem dL_law_1015 : decode cL_law 1015 = .ok (.bipush 13, 2) := by decide +kernel
theorem dL_law_1017 : decode cL_law 1017 = .ok (.iload 18, 2) := by decide +kernel
theorem dL_law_1019 : decode cL_law 1019 = .ok (.iadd, 1) := by decide +kernel
theorem dL_law_1020 : decode cL_law 1020 = .ok (.iload 21, 2) := by decide +kernel
theorem dL_law_1022 : decode cL_law 1022 = .ok (.iastore, 1) := by decide +kernel
theorem dL_law_1023 : decode cL_law 1023 = .ok (.goto 914, 3) := by decide +kernel
theorem dL_law_1026 : decode cL_law 1026 = .ok (.iload 16, 2) := by decide +kernel
theorem dL_law_1028 : decode cL_law 1028 = .ok (.iconst 3, 1) := by decide +kernel
theorem dL_law_1029 : decode cL_law 1029 = .ok (.if_icmp .ne 154, 3) := by decide +kernel
theorem dL_law_1032 : decode cL_law 1032 = .ok (.iload 15, 2) := by decide +kernel
theorem dL_law_1034 : decode cL_law 1034 = .ok (.sipush 256, 3) := by decide +kernel
theorem dL_law_1037 : decode cL_law 1037 = .ok (.idiv, 1) := by decide +kernel
theorem dL_law_1038 : decode cL_law 1038 = .ok (.iconst 3, 1) := by decide +kernel
theorem dL_law_1039 : decode cL_law 1039 = .ok (.invokestatic 88, 3) := by decide +kernel
theorem dL_law_1042 : decode cL_law 1042 = .ok (.istore 20, 2) := by decide +kernel
theorem dL_law_1044 : decode cL_law 1044 = .ok (.aload 7, 2) := by decide +kernel
theorem dL_law_1046 : decode cL_law 1046 = .ok (.iload 20, 2) := by decide +kernel
theorem dL_law_1048 : decode cL_law 1048 = .ok (.bipush 100, 2) := by decide +kernel
theorem dL_law_1050 : decode cL_law 1050 = .ok (.iload 15, 2) := by decide +kernel
theorem dL_law_1052 : decode cL_law 1052 = .ok (.sipush 512, 3) := by decide +kernel
theorem dL_law_1055 : decode cL_law 1055 = .ok (.idiv, 1) := by decide +kernel
theorem dL_law_1056 : decode cL_law 1056 = .ok (.iload 20, 2) := by decide +kernel
theorem dL_law_1058 : decode cL_law 1058 = .ok (.ifCond .ne 9, 3) := by decide +kernel
theorem dL_law_1061 : decode cL_law 1061 = .ok (.sipush 1500, 3) := by decide +kernel
theorem dL_law_1064 : decode cL_law 1064 = .ok (.goto 6, 3) := by decide +kernel
theorem dL_law_1067 : decode cL_law 1067 = .ok (.sipush 9000, 3) := by decide +kernel
theorem dL_law_1070 : decode cL_law 1070 = .ok (.invokestatic 88, 3) := by decide +kernel
theorem dL_law_1073 : decode cL_law 1073 = .ok (.iadd, 1) := by decide +kernel
theorem dL_law_1074 : decode cL_law 1074 = .ok (.iastore, 1) := by decide +kernel
theorem dL_law_1075 : decode cL_law 1075 = .ok (.aload 7, 2) := by decide +kernel
theorem dL_law_1077 : decode cL_law 1077 = .ok (.iconst 3, 1) := by decide +kernel
theorem dL_law_1078 : decode cL_law 1078 = .ok (.iload 20, 2) := by decide +kernel
theorem dL_law_1080 : decode cL_law 1080 = .ok (.iadd, 1) := by decide +kernel
theorem dL_law_1081 : decode cL_law 1081 = .ok (.iload 15, 2) := by decide +kernel
theorem dL_law_1083 : decode cL_law 1083 = .ok (.sipush 1024, 3) := by decide +kernel
theorem dL_law_1086 : decode cL_law 1086 = .ok (.idiv, 1) := by decide +kernel
theorem dL_law_1087 : decode cL_law 1087 = .ok (.bipush 21, 2) := by decide +kernel
theorem dL_law_1089 : decode cL_law 1089 = .ok (.invokestatic 88, 3) := by decide +kernel
theorem dL_law_1092 : decode cL_law 1092 = .ok (.iastore, 1) := by decide +kernel
theorem dL_law_1093 : decode cL_law 1093 = .ok (.aload 7, 2) := by decide +kernel
theorem dL_law_1095 : decode cL_law 1095 = .ok (.bipush 6, 2) := by decide +kernel
theorem dL_law_1097 : decode cL_law 1097 = .ok (.iload 20, 2) := by decide +kernel
theorem dL_law_1099 : decode cL_law 1099 = .ok (.iadd, 1) := by decide +kernel
theorem dL_law_1100 : decode cL_law 1100 = .ok (.iload 15, 2) := by decide +kernel
theorem dL_law_1102 : decode cL_law 1102 = .ok (.sipush 2048, 3) := by decide +kernel
theorem dL_law_1105 : decode cL_law 1105 = .ok (.idiv, 1) := by decide +kernel
theorem dL_law_1106 : decode cL_law 1106 = .ok (.iload 20, 2) := by decide +kernel
theorem dL_law_1108 : decode cL_law 1108 = .ok (.ifCond .ne 8, 3) := by decide +kernel
theorem dL_law_1111 : decode cL_law 1111 = .ok (.bipush 9, 2) := by decide +kernel
theorem dL_law_1113 : decode cL_law 1113 = .ok (.goto 5, 3) := by decide +kernel
theorem dL_law_1116 : decode cL_law 1116 = .ok (.bipush 60, 2) := by decide +kernel
theorem dL_law_1118 : decode cL_law 1118 = .ok (.invokestatic 88, 3) := by decide +kernel
theorem dL_law_1121 : decode cL_law 1121 = .ok (.iastore, 1) := by decide +kernel
theorem dL_law_1122 : decode cL_law 1122 = .ok (.aload_n 1, 1) := by decide +kernel
theorem dL_law_1123 : decode cL_law 1123 = .ok (.iload 20, 2) := by decide +kernel
theorem dL_law_1125 : decode cL_law 1125 = .ok (.aload 7, 2) := by decide +kernel
theorem dL_law_1127 : decode cL_law 1127 = .ok (.iload 20, 2) := by decide +kernel
theorem dL_law_1129 : decode cL_law 1129 = .ok (.iaload, 1) := by decide +kernel
theorem dL_law_1130 : decode cL_law 1130 = .ok (.aload 7, 2) := by decide +kernel
theorem dL_law_1132 : decode cL_law 1132 = .ok (.iconst 3, 1) := by decide +kernel
theorem dL_law_1133 : decode cL_law 1133 = .ok (.iload 20, 2) := by decide +kernel
theorem dL_law_1135 : decode cL_law 1135 = .ok (.iadd, 1) := by decide +kernel
theorem dL_law_1136 : decode cL_law 1136 = .ok (.iaload, 1) := by decide +kernel
theorem dL_law_1137 : decode cL_law 1137 = .ok (.aload 7, 2) := by decide +kernel
theorem dL_law_1139 : decode cL_law 1139 = .ok (.bipush 6, 2) := by decide +kernel
theorem dL_law_1141 : decode cL_law 1141 = .ok (.iload 20, 2) := by decide +kernel
theorem dL_law_1143 : decode cL_law 1143 = .ok (.iadd, 1) := by decide +kernel
theorem dL_law_1144 : decode cL_law 1144 = .ok (.iaload, 1) := by decide +kernel
theorem dL_law_1145 : decode cL_law 1145 = .ok (.invokevirtual 105, 3) := by decide +kernel
theorem dL_law_1148 : decode cL_law 1148 = .ok (.aload 7, 2) := by decide +kernel
theorem dL_law_1150 : decode cL_law 1150 = .ok (.iload 20, 2) := by decide +kernel
theorem dL_law_1152 : decode cL_law 1152 = .ok (.iaload, 1) := by decide +kernel
theorem dL_law_1153 : decode cL_law 1153 = .ok (.aload 7, 2) := by decide +kernel
theorem dL_law_1155 : decode cL_law 1155 = .ok (.iload 20, 2) := by decide +kernel
theorem dL_law_1157 : decode cL_law 1157 = .ok (.iaload, 1) := by decide +kernel
theorem dL_law_1158 : decode cL_law 1158 = .ok (.aload 7, 2) := by decide +kernel
theorem dL_law_1160 : decode cL_law 1160 = .ok (.iconst 3, 1) := by decide +kernel
theorem dL_law_1161 : decode cL_law 1161 = .ok (.iload 20, 2) := by decide +kernel
theorem dL_law_1163 : decode cL_law 1163 = .ok (.iadd, 1) := by decide +kernel
theorem dL_law_1164 : decode cL_law 1164 = .ok (.iaload, 1) := by decide +kernel
theorem dL_law_1165 : decode cL_law 1165 = .ok (.imul, 1) := by decide +kernel
theorem dL_law_1166 : decode cL_law 1166 = .ok (.bipush 100, 2) := by decide +kernel
theorem dL_law_1168 : decode cL_law 1168 = .ok (.idiv, 1) := by decide +kernel
theorem dL_law_1169 : decode cL_law 1169 = .ok (.iadd, 1) := by decide +kernel
theorem dL_law_1170 : decode cL_law 1170 = .ok (.if_icmp .ne 7, 3) := by decide +kernel
theorem dL_law_1173 : decode cL_law 1173 = .ok (.iconst 1, 1) := by decide +kernel
theorem dL_law_1174 : decode cL_law 1174 = .ok (.goto 4, 3) := by decide +kernel
theorem dL_law_1177 : decode cL_law 1177 = .ok (.iconst 0, 1) := by decide +kernel
theorem dL_law_1178 : decode cL_law 1178 = .ok (.istore 13, 2) := by decide +kernel
theorem dL_law_1180 : decode cL_law 1180 = .ok (.goto 757, 3) := by decide +kernel
theorem dL_law_1183 : decode cL_law 1183 = .ok (.iload 16, 2) := by decide +kernel
theorem dL_law_1185 : decode cL_law 1185 = .ok (.iconst 4, 1) := by decide +kernel
theorem dL_law_1186 : decode cL_law 1186 = .ok (.if_icmp .ne 79, 3) := by decide +kernel
theorem dL_law_1189 : decode cL_law 1189 = .ok (.iload 15, 2) := by decide +kernel
theorem dL_law_1191 : decode cL_law 1191 = .ok (.sipush 256, 3) := by decide +kernel
theorem dL_law_1194 : decode cL_law 1194 = .ok (.idiv, 1) := by decide +kernel
theorem dL_law_1195 : decode cL_law 1195 = .ok (.iconst 3, 1) := by decide +kernel
theorem dL_law_1196 : decode cL_law 1196 = .ok (.invokestatic 88, 3) := by decide +kernel
theorem dL_law_1199 : decode cL_law 1199 = .ok (.istore 20, 2) := by decide +kernel
theorem dL_law_1201 : decode cL_law 1201 = .ok (.iload 15, 2) := by decide +kernel
theorem dL_law_1203 : decode cL_law 1203 = .ok (.sipush 512, 3) := by decide +kernel
theorem dL_law_1206 : decode cL_law 1206 = .ok (.idiv, 1) := by decide +kernel
theorem dL_law_1207 : decode cL_law 1207 = .ok (.iconst 3, 1) := by decide +kernel
theorem dL_law_1208 : decode cL_law 1208 = .ok (.invokestatic 88, 3) := by decide +kernel
theorem dL_law_1211 : decode cL_law 1211 = .ok (.ifCond .ne 7, 3) := by decide +kernel
theorem dL_law_1214 : decode cL_law 1214 = .ok (.iconst (-1), 1) := by decide +kernel
theorem dL_law_1215 : decode cL_law 1215 = .ok (.goto 5, 3) := by decide +kernel
theorem dL_law_1218 : decode cL_law 1218 = .ok (.iload 17, 2) := by decide +kernel
theorem dL_law_1220 : decode cL_law 1220 = .ok (.istore 21, 2) := by decide +kernel
theorem dL_law_1222 : decode cL_law 1222 = .ok (.aload_n 1, 1) := by decide +kernel
theorem dL_law_1223 : decode cL_law 1223 = .ok (.iload 20, 2) := by decide +kernel
theorem dL_law_1225 : decode cL_law 1225 = .ok (.iload 21, 2) := by decide +kernel
theorem dL_law_1227 : decode cL_law 1227 = .ok (.invokevirtual 108, 3) := by decide +kernel
theorem dL_law_1230 : decode cL_law 1230 = .ok (.aload 6, 2) := by decide +kernel
theorem dL_law_1232 : decode cL_law 1232 = .ok (.bipush 6, 2) := by decide +kernel
theorem dL_law_1234 : decode cL_law 1234 = .ok (.iload 20, 2) := by decide +kernel
theorem dL_law_1236 : decode cL_law 1236 = .ok (.imul, 1) := by decide +kernel
theorem dL_law_1237 : decode cL_law 1237 = .ok (.iconst 5, 1) := by decide +kernel
theorem dL_law_1238 : decode cL_law 1238 = .ok (.iadd, 1) := by decide +kernel
theorem dL_law_1239 : decode cL_law 1239 = .ok (.iaload, 1) := by decide +kernel
theorem dL_law_1240 : decode cL_law 1240 = .ok (.if_icmp .ne 7, 3) := by decide +kernel
theorem dL_law_1243 : decode cL_law 1243 = .ok (.iconst 1, 1) := by decide +kernel
theorem dL_law_1244 : decode cL_law 1244 = .ok (.goto 4, 3) := by decide +kernel
theorem dL_law_1247 : decode cL_law 1247 = .ok (.iconst 0, 1) := by decide +kernel
theorem dL_law_1248 : decode cL_law 1248 = .ok (.istore 13, 2) := by decide +kernel
theorem dL_law_1250 : decode cL_law 1250 = .ok (.aload 6, 2) := by decide +kernel
theorem dL_law_1252 : decode cL_law 1252 = .ok (.bipush 6, 2) := by decide +kernel
theorem dL_law_1254 : decode cL_law 1254 = .ok (.iload 20, 2) := by decide +kernel
theorem dL_law_1256 : decode cL_law 1256 = .ok (.imul, 1) := by decide +kernel
theorem dL_law_1257 : decode cL_law 1257 = .ok (.iconst 5, 1) := by decide +kernel
theorem dL_law_1258 : decode cL_law 1258 = .ok (.iadd, 1) := by decide +kernel
theorem dL_law_1259 : decode cL_law 1259 = .ok (.iload 21, 2) := by decide +kernel
theorem dL_law_1261 : decode cL_law 1261 = .ok (.iastore, 1) := by decide +kernel
theorem dL_law_1262 : decode cL_law 1262 = .ok (.goto 675, 3) := by decide +kernel
theorem dL_law_1265 : decode cL_law 1265 = .ok (.iload 16, 2) := by decide +kernel
theorem dL_law_1267 : decode cL_law 1267 = .ok (.bipush 7, 2) := by decide +kernel
theorem dL_law_1269 : decode cL_law 1269 = .ok (.if_icmp .ge 131, 3) := by decide +kernel
theorem dL_law_1272 : decode cL_law 1272 = .ok (.iload 15, 2) := by decide +kernel
theorem dL_law_1274 : decode cL_law 1274 = .ok (.sipush 256, 3) := by decide +kernel
theorem dL_law_1277 : decode cL_law 1277 = .ok (.idiv, 1) := by decide +kernel
theorem dL_law_1278 : decode cL_law 1278 = .ok (.iconst 3, 1) := by decide +kernel
theorem dL_law_1279 : decode cL_law 1279 = .ok (.invokestatic 88, 3) := by decide +kernel
theorem dL_law_1282 : decode cL_law 1282 = .ok (.istore 20, 2) := by decide +kernel
theorem dL_law_1284 : decode cL_law 1284 = .ok (.aload_n 2, 1) := by decide +kernel
theorem dL_law_1285 : decode cL_law 1285 = .ok (.iload 19, 2) := by decide +kernel
theorem dL_law_1287 : decode cL_law 1287 = .ok (.iaload, 1) := by decide +kernel
theorem dL_law_1288 : decode cL_law 1288 = .ok (.ifCond .ne 12, 3) := by decide +kernel
theorem dL_law_1291 : decode cL_law 1291 = .ok (.iload 11, 2) := by decide +kernel
theorem dL_law_1293 : decode cL_law 1293 = .ok (.ifCond .ne 7, 3) := by decide +kernel
theorem dL_law_1296 : decode cL_law 1296 = .ok (.iconst 1, 1) := by decide +kernel
theorem dL_law_1297 : decode cL_law 1297 = .ok (.goto 4, 3) := by decide +kernel
theorem dL_law_1300 : decode cL_law 1300 = .ok (.iconst 0, 1) := by decide +kernel
theorem dL_law_1301 : decode cL_law 1301 = .ok (.istore 21, 2) := by decide +kernel
theorem dL_law_1303 : decode cL_law 1303 = .ok (.aload_n 1, 1) := by decide +kernel
theorem dL_law_1304 : decode cL_law 1304 = .ok (.iconst 0, 1) := by decide +kernel
theorem dL_law_1305 : decode cL_law 1305 = .ok (.iload 17, 2) := by decide +kernel
theorem dL_law_1307 : decode cL_law 1307 = .ok (.iload 20, 2) := by decide +kernel
theorem dL_law_1309 : decode cL_law 1309 = .ok (.invokestatic 111, 3) := by decide +kernel
theorem dL_law_1312 : decode cL_law 1312 = .ok (.iload 21, 2) := by decide +kernel
theorem dL_law_1314 : decode cL_law 1314 = .ok (.ifCond .eq 10, 3) := by decide +kernel
theorem dL_law_1317 : decode cL_law 1317 = .ok (.iload 20, 2) := by decide +kernel
theorem dL_law_1319 : decode cL_law 1319 = .ok (.iconst 1, 1) := by decide +kernel
theorem dL_law_1320 : decode cL_law 1320 = .ok (.iadd, 1) := by decide +kernel
theorem dL_law_1321 : decode cL_law 1321 = .ok (.goto 6, 3) := by decide +kernel
theorem dL_law_1324 : decode cL_law 1324 = .ok (.sipush (-1003), 3) := by decide +kernel
theorem dL_law_1327 : decode cL_law 1327 = .ok (.if_icmp .ne 7, 3) := by decide +kernel
theorem dL_law_1330 : decode cL_law 1330 = .ok (.iconst 1, 1) := by decide +kernel
theorem dL_law_1331 : decode cL_law 1331 = .ok (.goto 4, 3) := by decide +kernel
theorem dL_law_1334 : decode cL_law 1334 = .ok (.iconst 0, 1) := by decide +kernel
theorem dL_law_1335 : decode cL_law 1335 = .ok (.istore 13, 2) := by decide +kernel
theorem dL_law_1337 : decode cL_law 1337 = .ok (.iload 11, 2) := by decide +kernel
theorem dL_law_1339 : decode cL_law 1339 = .ok (.ifCond .ne 8, 3) := by decide +kernel
theorem dL_law_1342 : decode cL_law 1342 = .ok (.iload 21, 2) := by decide +kernel
theorem dL_law_1344 : decode cL_law 1344 = .ok (.ifCond .eq 7, 3) := by decide +kernel
theorem dL_law_1347 : decode cL_law 1347 = .ok (.iconst 1, 1) := by decide +kernel
theorem dL_law_1348 : decode cL_law 1348 = .ok (.goto 4, 3) := by decide +kernel
theorem dL_law_1351 : decode cL_law 1351 = .ok (.iconst 0, 1) := by decide +kernel
theorem dL_law_1352 : decode cL_law 1352 = .ok (.istore 11, 2) := by decide +kernel
theorem dL_law_1354 : decode cL_law 1354 = .ok (.iconst 0, 1) := by decide +kernel
theorem dL_law_1355 : decode cL_law 1355 = .ok (.istore 22, 2) := by decide +kernel
theorem dL_law_1357 : decode cL_law 1357 = .ok (.iload 22, 2) := by decide +kernel
theorem dL_law_1359 : decode cL_law 1359 = .ok (.iload 20, 2) := by decide +kernel
theorem dL_law_1361 : decode cL_law 1361 = .ok (.if_icmp .gt 36, 3) := by decide +kernel
theorem dL_law_1364 : decode cL_law 1364 = .ok (.iload 21, 2) := by decide +kernel
theorem dL_law_1366 : decode cL_law 1366 = .ok (.ifCond .eq 31, 3) := by decide +kernel
theorem dL_law_1369 : decode cL_law 1369 = .ok (.aload_n 2, 1) := by decide +kernel
theorem dL_law_1370 : decode cL_law 1370 = .ok (.iload 19, 2) := by decide +kernel
theorem dL_law_1372 : decode cL_law 1372 = .ok (.bipush 6, 2) := by decide +kernel
theorem dL_law_1374 : decode cL_law 1374 = .ok (.iadd, 1) := by decide +kernel
theorem dL_law_1375 : decode cL_law 1375 = .ok (.iload 22, 2) := by decide +kernel
theorem dL_law_1377 : decode cL_law 1377 = .ok (.iadd, 1) := by decide +kernel
theorem dL_law_1378 : decode cL_law 1378 = .ok (.iconst 0, 1) := by decide +kernel
theorem dL_law_1379 : decode cL_law 1379 = .ok (.iastore, 1) := by decide +kernel
theorem dL_law_1380 : decode cL_law 1380 = .ok (.aload_n 2, 1) := by decide +kernel
theorem dL_law_1381 : decode cL_law 1381 = .ok (.iload 19, 2) := by decide +kernel
theorem dL_law_1383 : decode cL_law 1383 = .ok (.bipush 9, 2) := by decide +kernel
theorem dL_law_1385 : decode cL_law 1385 = .ok (.iadd, 1) := by decide +kernel
theorem dL_law_1386 : decode cL_law 1386 = .ok (.iload 22, 2) := by decide +kernel
theorem dL_law_1388 : decode cL_law 1388 = .ok (.iadd, 1) := by decide +kernel
theorem dL_law_1389 : decode cL_law 1389 = .ok (.iconst 0, 1) := by decide +kernel
theorem dL_law_1390 : decode cL_law 1390 = .ok (.iastore, 1) := by decide +kernel
theorem dL_law_1391 : decode cL_law 1391 = .ok (.iinc 22 1, 3) := by decide +kernel
theorem dL_law_1394 : decode cL_law 1394 = .ok (.goto (-37), 3) := by decide +kernel
theorem dL_law_1397 : decode cL_law 1397 = .ok (.goto 540, 3) := by decide +kernel
theorem dL_law_1400 : decode cL_law 1400 = .ok (.iload 16, 2) := by decide +kernel
theorem dL_law_1402 : decode cL_law 1402 = .ok (.bipush 7, 2) := by decide +kernel
theorem dL_law_1404 : decode cL_law 1404 = .ok (.if_icmp .ne 270, 3) := by decide +kernel
theorem dL_law_1407 : decode cL_law 1407 = .ok (.aload_n 2, 1) := by decide +kernel
theorem dL_law_1408 : decode cL_law 1408 = .ok (.iload 19, 2) := by decide +kernel
theorem dL_law_1410 : decode cL_law 1410 = .ok (.iaload, 1) := by decide +kernel
theorem dL_law_1411 : decode cL_law 1411 = .ok (.ifCond .ne 12, 3) := by decide +kernel
theorem dL_law_1414 : decode cL_law 1414 = .ok (.iload 12, 2) := by decide +kernel
theorem dL_law_1416 : decode cL_law 1416 = .ok (.ifCond .ne 7, 3) := by decide +kernel
theorem dL_law_1419 : decode cL_law 1419 = .ok (.iconst 1, 1) := by decide +kernel
theorem dL_law_1420 : decode cL_law 1420 = .ok (.goto 4, 3) := by decide +kernel
theorem dL_law_1423 : decode cL_law 1423 = .ok (.iconst 0, 1) := by decide +kernel
theorem dL_law_1424 : decode cL_law 1424 = .ok (.istore 20, 2) := by decide +kernel
theorem dL_law_1426 : decode cL_law 1426 = .ok (.ldc 115, 2) := by decide +kernel
theorem dL_law_1428 : decode cL_law 1428 = .ok (.istore 21, 2) := by decide +kernel
theorem dL_law_1430 : decode cL_law 1430 = .ok (.iconst 0, 1) := by decide +kernel
theorem dL_law_1431 : decode cL_law 1431 = .ok (.istore 22, 2) := by decide +kernel
theorem dL_law_1433 : decode cL_law 1433 = .ok (.iload 22, 2) := by decide +kernel
theorem dL_law_1435 : decode cL_law 1435 = .ok (.iconst 4, 1) := by decide +kernel
theorem dL_law_1436 : decode cL_law 1436 = .ok (.if_icmp .ge 106, 3) := by decide +kernel
theorem dL_law_1439 : decode cL_law 1439 = .ok (.iload 20, 2) := by decide +kernel
theorem dL_law_1441 : decode cL_law 1441 = .ok (.ifCond .eq 101, 3) := by decide +kernel
theorem dL_law_1444 : decode cL_law 1444 = .ok (.aload_n 2, 1) := by decide +kernel
theorem dL_law_1445 : decode cL_law 1445 = .ok (.iload 19, 2) := by decide +kernel
theorem dL_law_1447 : decode cL_law 1447 = .ok (.iconst 2, 1) := by decide +kernel
theorem dL_law_1448 : decode cL_law 1448 = .ok (.iadd, 1) := by decide +kernel
theorem dL_law_1449 : decode cL_law 1449 = .ok (.iload 22, 2) := by decide +kernel
theorem dL_law_1451 : decode cL_law 1451 = .ok (.iadd, 1) := by decide +kernel
theorem dL_law_1452 : decode cL_law 1452 = .ok (.iaload, 1) := by decide +kernel
theorem dL_law_1453 : decode cL_law 1453 = .ok (.istore 23, 2) := by decide +kernel
theorem dL_law_1455 : decode cL_law 1455 = .ok (.bipush 8, 2) := by decide +kernel
theorem dL_law_1457 : decode cL_law 1457 = .ok (.iload 17, 2) := by decide +kernel
theorem dL_law_1459 : decode cL_law 1459 = .ok (.imul, 1) := by decide +kernel
theorem dL_law_1460 : decode cL_law 1460 = .ok (.istore 24, 2) := by decide +kernel
theorem dL_law_1462 : decode cL_law 1462 = .ok (.iload 24, 2) := by decide +kernel
theorem dL_law_1464 : decode cL_law 1464 = .ok (.bipush 8, 2) := by decide +kernel
theorem dL_law_1466 : decode cL_law 1466 = .ok (.iload 17, 2) := by decide +kernel
theorem dL_law_1468 : decode cL_law 1468 = .ok (.imul, 1) := by decide +kernel
theorem dL_law_1469 : decode cL_law 1469 = .ok (.aload_n 2, 1) := by decide +kernel
theorem dL_law_1470 : decode cL_law 1470 = .ok (.iload 19, 2) := by decide +kernel
theorem dL_law_1472 : decode cL_law 1472 = .ok (.bipush 12, 2) := by decide +kernel
theorem dL_law_1474 : decode cL_law 1474 = .ok (.iadd, 1) := by decide +kernel
theorem dL_law_1475 : decode cL_law 1475 = .ok (.iaload, 1) := by decide +kernel
theorem dL_law_1476 : decode cL_law 1476 = .ok (.iadd, 1) := by decide +kernel
theorem dL_law_1477 : decode cL_law 1477 = .ok (.if_icmp .ge 43, 3) := by decide +kernel
theorem dL_law_1480 : decode cL_law 1480 = .ok (.iload 23, 2) := by decide +kernel
theorem dL_law_1482 : decode cL_law 1482 = .ok (.aload_n 3, 1) := by decide +kernel
theorem dL_law_1483 : decode cL_law 1483 = .ok (.iload 24, 2) := by decide +kernel
theorem dL_law_1485 : decode cL_law 1485 = .ok (.iaload, 1) := by decide +kernel
theorem dL_law_1486 : decode cL_law 1486 = .ok (.ifCond .ne 24, 3) := by decide +kernel
theorem dL_law_1489 : decode cL_law 1489 = .ok (.aload 4, 2) := by decide +kernel
theorem dL_law_1491 : decode cL_law 1491 = .ok (.iload 24, 2) := by decide +kernel
theorem dL_law_1493 : decode cL_law 1493 = .ok (.iaload, 1) := by decide +kernel
theorem dL_law_1494 : decode cL_law 1494 = .ok (.iload 22, 2) := by decide +kernel
theorem dL_law_1496 : decode cL_law 1496 = .ok (.if_icmp .ne 14, 3) := by decide +kernel
theorem dL_law_1499 : decode cL_law 1499 = .ok (.aload 4, 2) := by decide +kernel
theorem dL_law_1501 : decode cL_law 1501 = .ok (.bipush 32, 2) := by decide +kernel
theorem dL_law_1503 : decode cL_law 1503 = .ok (.iload 24, 2) := by decide +kernel
theorem dL_law_1505 : decode cL_law 1505 = .ok (.iadd, 1) := by decide +kernel
theorem dL_law_1506 : decode cL_law 1506 = .ok (.iaload, 1) := by decide +kernel
theorem dL_law_1507 : decode cL_law 1507 = .ok (.goto 4, 3) := by decide +kernel
theorem dL_law_1510 : decode cL_law 1510 = .ok (.iconst 0, 1) := by decide +kernel
theorem dL_law_1511 : decode cL_law 1511 = .ok (.isub, 1) := by decide +kernel
theorem dL_law_1512 : decode cL_law 1512 = .ok (.istore 23, 2) := by decide +kernel
theorem dL_law_1514 : decode cL_law 1514 = .ok (.iinc 24 1, 3) := by decide +kernel
theorem dL_law_1517 : decode cL_law 1517 = .ok (.goto (-55), 3) := by decide +kernel
theorem dL_law_1520 : decode cL_law 1520 = .ok (.iload 23, 2) := by decide +kernel
theorem dL_law_1522 : decode cL_law 1522 = .ok (.iload 21, 2) := by decide +kernel
theorem dL_law_1524 : decode cL_law 1524 = .ok (.if_icmp .ge 8, 3) := by decide +kernel
theorem dL_law_1527 : decode cL_law 1527 = .ok (.iload 23, 2) := by decide +kernel
theorem dL_law_1529 : decode cL_law 1529 = .ok (.goto 5, 3) := by decide +kernel
theorem dL_law_1532 : decode cL_law 1532 = .ok (.iload 21, 2) := by decide +kernel
theorem dL_law_1534 : decode cL_law 1534 = .ok (.istore 21, 2) := by decide +kernel
theorem dL_law_1536 : decode cL_law 1536 = .ok (.iinc 22 1, 3) := by decide +kernel
theorem dL_law_1539 : decode cL_law 1539 = .ok (.goto (-106), 3) := by decide +kernel
theorem dL_law_1542 : decode cL_law 1542 = .ok (.aload_n 1, 1) := by decide +kernel
theorem dL_law_1543 : decode cL_law 1543 = .ok (.iconst 1, 1) := by decide +kernel
theorem dL_law_1544 : decode cL_law 1544 = .ok (.iload 17, 2) := by decide +kernel
theorem dL_law_1546 : decode cL_law 1546 = .ok (.iconst 0, 1) := by decide +kernel
theorem dL_law_1547 : decode cL_law 1547 = .ok (.invokestatic 111, 3) := by decide +kernel
theorem dL_law_1550 : decode cL_law 1550 = .ok (.iload 20, 2) := by decide +kernel
theorem dL_law_1552 : decode cL_law 1552 = .ok (.ifCond .eq 8, 3) := by decide +kernel
theorem dL_law_1555 : decode cL_law 1555 = .ok (.iload 21, 2) := by decide +kernel
theorem dL_law_1557 : decode cL_law 1557 = .ok (.goto 6, 3) := by decide +kernel
theorem dL_law_1560 : decode cL_law 1560 = .ok (.sipush (-1003), 3) := by decide +kernel
theorem dL_law_1563 : decode cL_law 1563 = .ok (.if_icmp .ne 7, 3) := by decide +kernel
theorem dL_law_1566 : decode cL_law 1566 = .ok (.iconst 1, 1) := by decide +kernel
theorem dL_law_1567 : decode cL_law 1567 = .ok (.goto 4, 3) := by decide +kernel
theorem dL_law_1570 : decode cL_law 1570 = .ok (.iconst 0, 1) := by decide +kernel
theorem dL_law_1571 : decode cL_law 1571 = .ok (.istore 13, 2) := by decide +kernel
theorem dL_law_1573 : decode cL_law 1573 = .ok (.iload 12, 2) := by decide +kernel
theorem dL_law_1575 : decode cL_law 1575 = .ok (.ifCond .ne 8, 3) := by decide +kernel
theorem dL_law_1578 : decode cL_law 1578 = .ok (.iload 20, 2) := by decide +kernel
theorem dL_law_1580 : decode cL_law 1580 = .ok (.ifCond .eq 7, 3) := by decide +kernel
theorem dL_law_1583 : decode cL_law 1583 = .ok (.iconst 1, 1) := by decide +kernel
theorem dL_law_1584 : decode cL_law 1584 = .ok (.goto 4, 3) := by decide +kernel
theorem dL_law_1587 : decode cL_law 1587 = .ok (.iconst 0, 1) := by decide +kernel
theorem dL_law_1588 : decode cL_law 1588 = .ok (.istore 12, 2) := by decide +kernel
theorem dL_law_1590 : decode cL_law 1590 = .ok (.iconst 2, 1) := by decide +kernel
theorem dL_law_1591 : decode cL_law 1591 = .ok (.istore 22, 2) := by decide +kernel
theorem dL_law_1593 : decode cL_law 1593 = .ok (.iload 22, 2) := by decide +kernel
theorem dL_law_1595 : decode cL_law 1595 = .ok (.bipush 6, 2) := by decide +kernel
theorem dL_law_1597 : decode cL_law 1597 = .ok (.if_icmp .ge 23, 3) := by decide +kernel
theorem dL_law_1600 : decode cL_law 1600 = .ok (.iload 20, 2) := by decide +kernel
theorem dL_law_1602 : decode cL_law 1602 = .ok (.ifCond .eq 18, 3) := by decide +kernel
theorem dL_law_1605 : decode cL_law 1605 = .ok (.aload_n 2, 1) := by decide +kernel
theorem dL_law_1606 : decode cL_law 1606 = .ok (.iload 19, 2) := by decide +kernel
theorem dL_law_1608 : decode cL_law 1608 = .ok (.iload 22, 2) := by decide +kernel
theorem dL_law_1610 : decode cL_law 1610 = .ok (.iadd, 1) := by decide +kernel
theorem dL_law_1611 : decode cL_law 1611 = .ok (.iload 21, 2) := by decide +kernel
theorem dL_law_1613 : decode cL_law 1613 = .ok (.iastore, 1) := by decide +kernel
theorem dL_law_1614 : decode cL_law 1614 = .ok (.iinc 22 1, 3) := by decide +kernel
theorem dL_law_1617 : decode cL_law 1617 = .ok (.goto (-24), 3) := by decide +kernel
theorem dL_law_1620 : decode cL_law 1620 = .ok (.aload_n 2, 1) := by decide +kernel
theorem dL_law_1621 : decode cL_law 1621 = .ok (.iload 19, 2) := by decide +kernel
theorem dL_law_1623 : decode cL_law 1623 = .ok (.bipush 12, 2) := by decide +kernel
theorem dL_law_1625 : decode cL_law 1625 = .ok (.iadd, 1) := by decide +kernel
theorem dL_law_1626 : decode cL_law 1626 = .ok (.iaload, 1) := by decide +kernel
theorem dL_law_1627 : decode cL_law 1627 = .ok (.iconst 1, 1) := by decide +kernel
theorem dL_law_1628 : decode cL_law 1628 = .ok (.isub, 1) := by decide +kernel
theorem dL_law_1629 : decode cL_law 1629 = .ok (.istore 22, 2) := by decide +kernel
theorem dL_law_1631 : decode cL_law 1631 = .ok (.iload 22, 2) := by decide +kernel
theorem dL_law_1633 : decode cL_law 1633 = .ok (.ifCond .lt 38, 3) := by decide +kernel
theorem dL_law_1636 : decode cL_law 1636 = .ok (.iload 20, 2) := by decide +kernel
theorem dL_law_1638 : decode cL_law 1638 = .ok (.ifCond .eq 33, 3) := by decide +kernel
theorem dL_law_1641 : decode cL_law 1641 = .ok (.aload_n 3, 1) := by decide +kernel
theorem dL_law_1642 : decode cL_law 1642 = .ok (.bipush 8, 2) := by decide +kernel
theorem dL_law_1644 : decode cL_law 1644 = .ok (.iload 17, 2) := by decide +kernel
theorem dL_law_1646 : decode cL_law 1646 = .ok (.imul, 1) := by decide +kernel
theorem dL_law_1647 : decode cL_law 1647 = .ok (.iload 22, 2) := by decide +kernel
theorem dL_law_1649 : decode cL_law 1649 = .ok (.iadd, 1) := by decide +kernel
theorem dL_law_1650 : decode cL_law 1650 = .ok (.iaload, 1) := by decide +kernel
theorem dL_law_1651 : decode cL_law 1651 = .ok (.ifCond .ne 14, 3) := by decide +kernel
theorem dL_law_1654 : decode cL_law 1654 = .ok (.aload_n 2, 1) := by decide +kernel
theorem dL_law_1655 : decode cL_law 1655 = .ok (.aload_n 3, 1) := by decide +kernel
theorem dL_law_1656 : decode cL_law 1656 = .ok (.aload 4, 2) := by decide +kernel
theorem dL_law_1658 : decode cL_law 1658 = .ok (.iload 17, 2) := by decide +kernel
theorem dL_law_1660 : decode cL_law 1660 = .ok (.iload 22, 2) := by decide +kernel
theorem dL_law_1662 : decode cL_law 1662 = .ok (.invokestatic 116, 3) := by decide +kernel
theorem dL_law_1665 : decode cL_law 1665 = .ok (.iinc 22 (-1), 3) := by decide +kernel
theorem dL_law_1668 : decode cL_law 1668 = .ok (.goto (-37), 3) := by decide +kernel
theorem dL_law_1671 : decode cL_law 1671 = .ok (.goto 266, 3) := by decide +kernel
theorem dL_law_1674 : decode cL_law 1674 = .ok (.iload 16, 2) := by decide +kernel
theorem dL_law_1676 : decode cL_law 1676 = .ok (.bipush 8, 2) := by decide +kernel
theorem dL_law_1678 : decode cL_law 1678 = .ok (.if_icmp .ne 104, 3) := by decide +kernel
theorem dL_law_1681 : decode cL_law 1681 = .ok (.iload 15, 2) := by decide +kernel
theorem dL_law_1683 : decode cL_law 1683 = .ok (.sipush 256, 3) := by decide +kernel
theorem dL_law_1686 : decode cL_law 1686 = .ok (.idiv, 1) := by decide +kernel
theorem dL_law_1687 : decode cL_law 1687 = .ok (.iconst 4, 1) := by decide +kernel
theorem dL_law_1688 : decode cL_law 1688 = .ok (.invokestatic 88, 3) := by decide +kernel
theorem dL_law_1691 : decode cL_law 1691 = .ok (.istore 20, 2) := by decide +kernel
theorem dL_law_1693 : decode cL_law 1693 = .ok (.iload 20, 2) := by decide +kernel
theorem dL_law_1695 : decode cL_law 1695 = .ok (.aload_n 2, 1) := by decide +kernel
theorem dL_law_1696 : decode cL_law 1696 = .ok (.iload 19, 2) := by decide +kernel
theorem dL_law_1698 : decode cL_law 1698 = .ok (.bipush 12, 2) := by decide +kernel
theorem dL_law_1700 : decode cL_law 1700 = .ok (.iadd, 1) := by decide +kernel
theorem dL_law_1701 : decode cL_law 1701 = .ok (.iaload, 1) := by decide +kernel
theorem dL_law_1702 : decode cL_law 1702 = .ok (.if_icmp .lt 9, 3) := by decide +kernel
theorem dL_law_1705 : decode cL_law 1705 = .ok (.sipush (-1001), 3) := by decide +kernel
theorem dL_law_1708 : decode cL_law 1708 = .ok (.goto 32, 3) := by decide +kernel
theorem dL_law_1711 : decode cL_law 1711 = .ok (.aload_n 3, 1) := by decide +kernel
theorem dL_law_1712 : decode cL_law 1712 = .ok (.bipush 8, 2) := by decide +kernel
theorem dL_law_1714 : decode cL_law 1714 = .ok (.iload 17, 2) := by decide +kernel
theorem dL_law_1716 : decode cL_law 1716 = .ok (.imul, 1) := by decide +kernel
theorem dL_law_1717 : decode cL_law 1717 = .ok (.iload 20, 2) := by decide +kernel
theorem dL_law_1719 : decode cL_law 1719 = .ok (.iadd, 1) := by decide +kernel
theorem dL_law_1720 : decode cL_law 1720 = .ok (.iaload, 1) := by decide +kernel
theorem dL_law_1721 : decode cL_law 1721 = .ok (.ifCond .ne 9, 3) := by decide +kernel
theorem dL_law_1724 : decode cL_law 1724 = .ok (.sipush (-1003), 3) := by decide +kernel
theorem dL_law_1727 : decode cL_law 1727 = .ok (.goto 13, 3) := by decide +kernel
theorem dL_law_1730 : decode cL_law 1730 = .ok (.aload_n 3, 1) := by decide +kernel
theorem dL_law_1731 : decode cL_law 1731 = .ok (.bipush 8, 2) := by decide +kernel
theorem dL_law_1733 : decode cL_law 1733 = .ok (.iload 17, 2) := by decide +kernel
theorem dL_law_1735 : decode cL_law 1735 = .ok (.imul, 1) := by decide +kernel
theorem dL_law_1736 : decode cL_law 1736 = .ok (.iload 20, 2) := by decide +kernel
theorem dL_law_1738 : decode cL_law 1738 = .ok (.iadd, 1) := by decide +kernel
theorem dL_law_1739 : decode cL_law 1739 = .ok (.iaload, 1) := by decide +kernel
theorem dL_law_1740 : decode cL_law 1740 = .ok (.istore 21, 2) := by decide +kernel
theorem dL_law_1742 : decode cL_law 1742 = .ok (.aload_n 1, 1) := by decide +kernel
theorem dL_law_1743 : decode cL_law 1743 = .ok (.iconst 2, 1) := by decide +kernel
theorem dL_law_1744 : decode cL_law 1744 = .ok (.iload 17, 2) := by decide +kernel
theorem dL_law_1746 : decode cL_law 1746 = .ok (.iload 20, 2) := by decide +kernel
theorem dL_law_1748 : decode cL_law 1748 = .ok (.invokestatic 111, 3) := by decide +kernel
theorem dL_law_1751 : decode cL_law 1751 = .ok (.iload 21, 2) := by decide +kernel
theorem dL_law_1753 : decode cL_law 1753 = .ok (.if_icmp .ne 7, 3) := by decide +kernel
theorem dL_law_1756 : decode cL_law 1756 = .ok (.iconst 1, 1) := by decide +kernel
theorem dL_law_1757 : decode cL_law 1757 = .ok (.goto 4, 3) := by decide +kernel
theorem dL_law_1760 : decode cL_law 1760 = .ok (.iconst 0, 1) := by decide +kernel
theorem dL_law_1761 : decode cL_law 1761 = .ok (.istore 13, 2) := by decide +kernel
theorem dL_law_1763 : decode cL_law 1763 = .ok (.iload 21, 2) := by decide +kernel
theorem dL_law_1765 : decode cL_law 1765 = .ok (.ifCond .lt 14, 3) := by decide +kernel
theorem dL_law_1768 : decode cL_law 1768 = .ok (.aload_n 2, 1) := by decide +kernel
theorem dL_law_1769 : decode cL_law 1769 = .ok (.aload_n 3, 1) := by decide +kernel
theorem dL_law_1770 : decode cL_law 1770 = .ok (.aload 4, 2) := by decide +kernel
theorem dL_law_1772 : decode cL_law 1772 = .ok (.iload 17, 2) := by decide +kernel
theorem dL_law_1774 : decode cL_law 1774 = .ok (.iload 20, 2) := by decide +kernel
theorem dL_law_1776 : decode cL_law 1776 = .ok (.invokestatic 116, 3) := by decide +kernel
theorem dL_law_1779 : decode cL_law 1779 = .ok (.goto 158, 3) := by decide +kernel
theorem dL_law_1782 : decode cL_law 1782 = .ok (.aload_n 2, 1) := by decide +kernel
theorem dL_law_1783 : decode cL_law 1783 = .ok (.aload_n 3, 1) := by decide +kernel
theorem dL_law_1784 : decode cL_law 1784 = .ok (.aload 4, 2) := by decide +kernel
theorem dL_law_1786 : decode cL_law 1786 = .ok (.aload 6, 2) := by decide +kernel
theorem dL_law_1788 : decode cL_law 1788 = .ok (.aload 7, 2) := by decide +kernel
theorem dL_law_1790 : decode cL_law 1790 = .ok (.iload 9, 2) := by decide +kernel
theorem dL_law_1792 : decode cL_law 1792 = .ok (.aload 8, 2) := by decide +kernel
theorem dL_law_1794 : decode cL_law 1794 = .ok (.invokestatic 70, 3) := by decide +kernel
theorem dL_law_1797 : decode cL_law 1797 = .ok (.istore 20, 2) := by decide +kernel
theorem dL_law_1799 : decode cL_law 1799 = .ok (.iload 10, 2) := by decide +kernel
theorem dL_law_1801 : decode cL_law 1801 = .ok (.aload_n 2, 1) := by decide +kernel
theorem dL_law_1802 : decode cL_law 1802 = .ok (.aload 5, 2) := by decide +kernel
theorem dL_law_1804 : decode cL_law 1804 = .ok (.aload 6, 2) := by decide +kernel
theorem dL_law_1806 : decode cL_law 1806 = .ok (.aload 8, 2) := by decide +kernel
theorem dL_law_1808 : decode cL_law 1808 = .ok (.invokestatic 120, 3) := by decide +kernel
theorem dL_law_1811 : decode cL_law 1811 = .ok (.iadd, 1) := by decide +kernel
theorem dL_law_1812 : decode cL_law 1812 = .ok (.istore 10, 2) := by decide +kernel
theorem dL_law_1814 : decode cL_law 1814 = .ok (.iconst 0, 1) := by decide +kernel
theorem dL_law_1815 : decode cL_law 1815 = .ok (.istore 21, 2) := by decide +kernel
theorem dL_law_1817 : decode cL_law 1817 = .ok (.iload 21, 2) := by decide +kernel
theorem dL_law_1819 : decode cL_law 1819 = .ok (.iconst 4, 1) := by decide +kernel
theorem dL_law_1820 : decode cL_law 1820 = .ok (.if_icmp .ge 40, 3) := by decide +kernel
theorem dL_law_1823 : decode cL_law 1823 = .ok (.bipush 9, 2) := by decide +kernel
theorem dL_law_1825 : decode cL_law 1825 = .ok (.istore 22, 2) := by decide +kernel
theorem dL_law_1827 : decode cL_law 1827 = .ok (.iload 22, 2) := by decide +kernel
theorem dL_law_1829 : decode cL_law 1829 = .ok (.bipush 12, 2) := by decide +kernel
theorem dL_law_1831 : decode cL_law 1831 = .ok (.if_icmp .ge 23, 3) := by decide +kernel
theorem dL_law_1834 : decode cL_law 1834 = .ok (.aload_n 2, 1) := by decide +kernel
theorem dL_law_1835 : decode cL_law 1835 = .ok (.bipush 16, 2) := by decide +kernel
theorem dL_law_1837 : decode cL_law 1837 = .ok (.iload 21, 2) := by decide +kernel
theorem dL_law_1839 : decode cL_law 1839 = .ok (.imul, 1) := by decide +kernel
theorem dL_law_1840 : decode cL_law 1840 = .ok (.iload 22, 2) := by decide +kernel
theorem dL_law_1842 : decode cL_law 1842 = .ok (.iadd, 1) := by decide +kernel
theorem dL_law_1843 : decode cL_law 1843 = .ok (.dup2, 1) := by decide +kernel
theorem dL_law_1844 : decode cL_law 1844 = .ok (.iaload, 1) := by decide +kernel
theorem dL_law_1845 : decode cL_law 1845 = .ok (.iconst 1, 1) := by decide +kernel
theorem dL_law_1846 : decode cL_law 1846 = .ok (.iadd, 1) := by decide +kernel
theorem dL_law_1847 : decode cL_law 1847 = .ok (.iastore, 1) := by decide +kernel
theorem dL_law_1848 : decode cL_law 1848 = .ok (.iinc 22 1, 3) := by decide +kernel
theorem dL_law_1851 : decode cL_law 1851 = .ok (.goto (-24), 3) := by decide +kernel
theorem dL_law_1854 : decode cL_law 1854 = .ok (.iinc 21 1, 3) := by decide +kernel
theorem dL_law_1857 : decode cL_law 1857 = .ok (.goto (-40), 3) := by decide +kernel
theorem dL_law_1860 : decode cL_law 1860 = .ok (.aload_n 1, 1) := by decide +kernel
theorem dL_law_1861 : decode cL_law 1861 = .ok (.invokevirtual 124, 3) := by decide +kernel
theorem dL_law_1864 : decode cL_law 1864 = .ok (.iload 20, 2) := by decide +kernel
theorem dL_law_1866 : decode cL_law 1866 = .ok (.if_icmp .ne 16, 3) := by decide +kernel
theorem dL_law_1869 : decode cL_law 1869 = .ok (.aload_n 1, 1) := by decide +kernel
theorem dL_law_1870 : decode cL_law 1870 = .ok (.invokevirtual 127, 3) := by decide +kernel
theorem dL_law_1873 : decode cL_law 1873 = .ok (.iload 10, 2) := by decide +kernel
theorem dL_law_1875 : decode cL_law 1875 = .ok (.if_icmp .ne 7, 3) := by decide +kernel
theorem dL_law_1878 : decode cL_law 1878 = .ok (.iconst 1, 1) := by decide +kernel
theorem dL_law_1879 : decode cL_law 1879 = .ok (.goto 4, 3) := by decide +kernel
theorem dL_law_1882 : decode cL_law 1882 = .ok (.iconst 0, 1) := by decide +kernel
theorem dL_law_1883 : decode cL_law 1883 = .ok (.istore 13, 2) := by decide +kernel
theorem dL_law_1885 : decode cL_law 1885 = .ok (.iconst 0, 1) := by decide +kernel
theorem dL_law_1886 : decode cL_law 1886 = .ok (.istore 21, 2) := by decide +kernel
theorem dL_law_1888 : decode cL_law 1888 = .ok (.iload 21, 2) := by decide +kernel
theorem dL_law_1890 : decode cL_law 1890 = .ok (.iconst 3, 1) := by decide +kernel
theorem dL_law_1891 : decode cL_law 1891 = .ok (.if_icmp .ge 37, 3) := by decide +kernel
theorem dL_law_1894 : decode cL_law 1894 = .ok (.iload 13, 2) := by decide +kernel
theorem dL_law_1896 : decode cL_law 1896 = .ok (.ifCond .eq 23, 3) := by decide +kernel
theorem dL_law_1899 : decode cL_law 1899 = .ok (.aload_n 1, 1) := by decide +kernel
theorem dL_law_1900 : decode cL_law 1900 = .ok (.iload 21, 2) := by decide +kernel
theorem dL_law_1902 : decode cL_law 1902 = .ok (.iload 9, 2) := by decide +kernel
theorem dL_law_1904 : decode cL_law 1904 = .ok (.invokevirtual 130, 3) := by decide +kernel
theorem dL_law_1907 : decode cL_law 1907 = .ok (.aload 8, 2) := by decide +kernel
theorem dL_law_1909 : decode cL_law 1909 = .ok (.iload 21, 2) := by decide +kernel
theorem dL_law_1911 : decode cL_law 1911 = .ok (.iaload, 1) := by decide +kernel
theorem dL_law_1912 : decode cL_law 1912 = .ok (.if_icmp .ne 7, 3) := by decide +kernel
theorem dL_law_1915 : decode cL_law 1915 = .ok (.iconst 1, 1) := by decide +kernel
theorem dL_law_1916 : decode cL_law 1916 = .ok (.goto 4, 3) := by decide +kernel
theorem dL_law_1919 : decode cL_law 1919 = .ok (.iconst 0, 1) := by decide +kernel
theorem dL_law_1920 : decode cL_law 1920 = .ok (.istore 13, 2) := by decide +kernel
theorem dL_law_1922 : decode cL_law 1922 = .ok (.iinc 21 1, 3) := by decide +kernel
theorem dL_law_1925 : decode cL_law 1925 = .ok (.goto (-37), 3) := by decide +kernel
theorem dL_law_1928 : decode cL_law 1928 = .ok (.iinc 9 1, 3) := by decide +kernel
theorem dL_law_1931 : decode cL_law 1931 = .ok (.iconst 0, 1) := by decide +kernel
theorem dL_law_1932 : decode cL_law 1932 = .ok (.istore 11, 2) := by decide +kernel
theorem dL_law_1934 : decode cL_law 1934 = .ok (.iconst 0, 1) := by decide +kernel
theorem dL_law_1935 : decode cL_law 1935 = .ok (.istore 12, 2) := by decide +kernel
theorem dL_law_1937 : decode cL_law 1937 = .ok (.iload 13, 2) := by decide +kernel
theorem dL_law_1939 : decode cL_law 1939 = .ok (.ifCond .eq 28, 3) := by decide +kernel
theorem dL_law_1942 : decode cL_law 1942 = .ok (.aload_n 1, 1) := by decide +kernel
theorem dL_law_1943 : decode cL_law 1943 = .ok (.aload_n 2, 1) := by decide +kernel
theorem dL_law_1944 : decode cL_law 1944 = .ok (.aload_n 3, 1) := by decide +kernel
theorem dL_law_1945 : decode cL_law 1945 = .ok (.aload 4, 2) := by decide +kernel
theorem dL_law_1947 : decode cL_law 1947 = .ok (.aload 5, 2) := by decide +kernel
theorem dL_law_1949 : decode cL_law 1949 = .ok (.aload 6, 2) := by decide +kernel
theorem dL_law_1951 : decode cL_law 1951 = .ok (.aload 7, 2) := by decide +kernel
theorem dL_law_1953 : decode cL_law 1953 = .ok (.iload 9, 2) := by decide +kernel
theorem dL_law_1955 : decode cL_law 1955 = .ok (.aload 8, 2) := by decide +kernel
theorem dL_law_1957 : decode cL_law 1957 = .ok (.invokestatic 133, 3) := by decide +kernel
theorem dL_law_1960 : decode cL_law 1960 = .ok (.ifCond .eq 7, 3) := by decide +kernel
theorem dL_law_1963 : decode cL_law 1963 = .ok (.iconst 1, 1) := by decide +kernel
theorem dL_law_1964 : decode cL_law 1964 = .ok (.goto 4, 3) := by decide +kernel
theorem dL_law_1967 : decode cL_law 1967 = .ok (.iconst 0, 1) := by decide +kernel
theorem dL_law_1968 : decode cL_law 1968 = .ok (.istore 13, 2) := by decide +kernel
theorem dL_law_1970 : decode cL_law 1970 = .ok (.iinc 14 1, 3) := by decide +kernel
theorem dL_law_1973 : decode cL_law 1973 = .ok (.goto (-1373), 3) := by decide +kernel
theorem dL_law_1976 : decode cL_law 1976 = .ok (.iload 13, 2) := by decide +kernel
theorem dL_law_1978 : decode cL_law 1978 = .ok (.ireturn, 1) := by decide +kernel
