theorem dX12_init_251 : decode cX12_init 251 = .ok (.aload_n 0, 1) := by decide +kernel
theorem dX12_init_252 : decode cX12_init 252 = .ok (.iconst 0, 1) := by decide +kernel
theorem dX12_init_253 : decode cX12_init 253 = .ok (.iconst 0, 1) := by decide +kernel
theorem dX12_init_254 : decode cX12_init 254 = .ok (.invokevirtual 99, 3) := by decide +kernel
theorem dX12_init_257 : decode cX12_init 257 = .ok (.pop, 1) := by decide +kernel
theorem dX12_init_258 : decode cX12_init 258 = .ok (.aload_n 0, 1) := by decide +kernel
theorem dX12_init_259 : decode cX12_init 259 = .ok (.bipush 104, 2) := by decide +kernel
theorem dX12_init_261 : decode cX12_init 261 = .ok (.bipush 111, 2) := by decide +kernel
theorem dX12_init_263 : decode cX12_init 263 = .ok (.bipush 109, 2) := by decide +kernel
theorem dX12_init_265 : decode cX12_init 265 = .ok (.invokevirtual 103, 3) := by decide +kernel
theorem dX12_init_268 : decode cX12_init 268 = .ok (.aload_n 0, 1) := by decide +kernel
theorem dX12_init_269 : decode cX12_init 269 = .ok (.getfield 86, 3) := by decide +kernel
theorem dX12_init_272 : decode cX12_init 272 = .ok (.iconst 3, 1) := by decide +kernel
theorem dX12_init_273 : decode cX12_init 273 = .ok (.bipush 101, 2) := by decide +kernel
theorem dX12_init_275 : decode cX12_init 275 = .ok (.iastore, 1) := by decide +kernel
theorem dX12_init_276 : decode cX12_init 276 = .ok (.aload_n 0, 1) := by decide +kernel
theorem dX12_init_277 : decode cX12_init 277 = .ok (.iconst 4, 1) := by decide +kernel
theorem dX12_init_278 : decode cX12_init 278 = .ok (.putfield 107, 3) := by decide +kernel
theorem dX12_init_281 : decode cX12_init 281 = .ok (.aload_n 0, 1) := by decide +kernel
theorem dX12_init_282 : decode cX12_init 282 = .ok (.iconst 0, 1) := by decide +kernel
theorem dX12_init_283 : decode cX12_init 283 = .ok (.iconst 0, 1) := by decide +kernel
theorem dX12_init_284 : decode cX12_init 284 = .ok (.invokevirtual 99, 3) := by decide +kernel
theorem dX12_init_287 : decode cX12_init 287 = .ok (.pop, 1) := by decide +kernel
theorem dX12_init_288 : decode cX12_init 288 = .ok (.aload_n 0, 1) := by decide +kernel
theorem dX12_init_289 : decode cX12_init 289 = .ok (.bipush 107, 2) := by decide +kernel
theorem dX12_init_291 : decode cX12_init 291 = .ok (.bipush 101, 2) := by decide +kernel
theorem dX12_init_293 : decode cX12_init 293 = .ok (.bipush 121, 2) := by decide +kernel
theorem dX12_init_295 : decode cX12_init 295 = .ok (.invokevirtual 103, 3) := by decide +kernel
theorem dX12_init_298 : decode cX12_init 298 = .ok (.aload_n 0, 1) := by decide +kernel
theorem dX12_init_299 : decode cX12_init 299 = .ok (.iconst 1, 1) := by decide +kernel
theorem dX12_init_300 : decode cX12_init 300 = .ok (.iconst 2, 1) := by decide +kernel
theorem dX12_init_301 : decode cX12_init 301 = .ok (.invokevirtual 99, 3) := by decide +kernel
theorem dX12_init_304 : decode cX12_init 304 = .ok (.pop, 1) := by decide +kernel
theorem dX12_init_305 : decode cX12_init 305 = .ok (.aload_n 0, 1) := by decide +kernel
theorem dX12_init_306 : decode cX12_init 306 = .ok (.getfield 29, 3) := by decide +kernel
theorem dX12_init_309 : decode cX12_init 309 = .ok (.iconst 3, 1) := by decide +kernel
theorem dX12_init_310 : decode cX12_init 310 = .ok (.iconst 0, 1) := by decide +kernel
theorem dX12_init_311 : decode cX12_init 311 = .ok (.iastore, 1) := by decide +kernel
theorem dX12_init_312 : decode cX12_init 312 = .ok (.aload_n 0, 1) := by decide +kernel
theorem dX12_init_313 : decode cX12_init 313 = .ok (.getfield 41, 3) := by decide +kernel
theorem dX12_init_316 : decode cX12_init 316 = .ok (.iconst 0, 1) := by decide +kernel
theorem dX12_init_317 : decode cX12_init 317 = .ok (.ldc2_w 110, 3) := by decide +kernel
theorem dX12_init_320 : decode cX12_init 320 = .ok (.lastore, 1) := by decide +kernel
theorem dX12_init_321 : decode cX12_init 321 = .ok (.aload_n 0, 1) := by decide +kernel
theorem dX12_init_322 : decode cX12_init 322 = .ok (.getfield 45, 3) := by decide +kernel
theorem dX12_init_325 : decode cX12_init 325 = .ok (.iconst 0, 1) := by decide +kernel
theorem dX12_init_326 : decode cX12_init 326 = .ok (.bipush 42, 2) := by decide +kernel
theorem dX12_init_328 : decode cX12_init 328 = .ok (.iastore, 1) := by decide +kernel
theorem dX12_init_329 : decode cX12_init 329 = .ok (.aload_n 0, 1) := by decide +kernel
theorem dX12_init_330 : decode cX12_init 330 = .ok (.iconst 1, 1) := by decide +kernel
theorem dX12_init_331 : decode cX12_init 331 = .ok (.putfield 112, 3) := by decide +kernel
theorem dX12_init_334 : decode cX12_init 334 = .ok (.return_, 1) := by decide +kernel
theorem dX12_word3_0 : decode cX12_word3 0 = .ok (.aload_n 0, 1) := by decide +kernel
theorem dX12_word3_1 : decode cX12_word3 1 = .ok (.getfield 86, 3) := by decide +kernel
theorem dX12_word3_4 : decode cX12_word3 4 = .ok (.iconst 0, 1) := by decide +kernel
theorem dX12_word3_5 : decode cX12_word3 5 = .ok (.iload_n 1, 1) := by decide +kernel
theorem dX12_word3_6 : decode cX12_word3 6 = .ok (.iastore, 1) := by decide +kernel
theorem dX12_word3_7 : decode cX12_word3 7 = .ok (.aload_n 0, 1) := by decide +kernel
theorem dX12_word3_8 : decode cX12_word3 8 = .ok (.getfield 86, 3) := by decide +kernel
theorem dX12_word3_11 : decode cX12_word3 11 = .ok (.iconst 1, 1) := by decide +kernel
theorem dX12_word3_12 : decode cX12_word3 12 = .ok (.iload_n 2, 1) := by decide +kernel
theorem dX12_word3_13 : decode cX12_word3 13 = .ok (.iastore, 1) := by decide +kernel
theorem dX12_word3_14 : decode cX12_word3 14 = .ok (.aload_n 0, 1) := by decide +kernel
theorem dX12_word3_15 : decode cX12_word3 15 = .ok (.getfield 86, 3) := by decide +kernel
theorem dX12_word3_18 : decode cX12_word3 18 = .ok (.iconst 2, 1) := by decide +kernel
theorem dX12_word3_19 : decode cX12_word3 19 = .ok (.iload_n 3, 1) := by decide +kernel
theorem dX12_word3_20 : decode cX12_word3 20 = .ok (.iastore, 1) := by decide +kernel
theorem dX12_word3_21 : decode cX12_word3 21 = .ok (.aload_n 0, 1) := by decide +kernel
theorem dX12_word3_22 : decode cX12_word3 22 = .ok (.iconst 3, 1) := by decide +kernel
theorem dX12_word3_23 : decode cX12_word3 23 = .ok (.putfield 107, 3) := by decide +kernel
theorem dX12_word3_26 : decode cX12_word3 26 = .ok (.return_, 1) := by decide +kernel
theorem dX12_add_0 : decode cX12_add 0 = .ok (.aload_n 0, 1) := by decide +kernel
theorem dX12_add_1 : decode cX12_add 1 = .ok (.getfield 115, 3) := by decide +kernel
theorem dX12_add_4 : decode cX12_add 4 = .ok (.istore_n 3, 1) := by decide +kernel
theorem dX12_add_5 : decode cX12_add 5 = .ok (.aload_n 0, 1) := by decide +kernel
theorem dX12_add_6 : decode cX12_add 6 = .ok (.getfield 13, 3) := by decide +kernel
theorem dX12_add_9 : decode cX12_add 9 = .ok (.iload_n 3, 1) := by decide +kernel
theorem dX12_add_10 : decode cX12_add 10 = .ok (.iload_n 1, 1) := by decide +kernel
theorem dX12_add_11 : decode cX12_add 11 = .ok (.iastore, 1) := by decide +kernel
theorem dX12_add_12 : decode cX12_add 12 = .ok (.aload_n 0, 1) := by decide +kernel
theorem dX12_add_13 : decode cX12_add 13 = .ok (.getfield 26, 3) := by decide +kernel
theorem dX12_add_16 : decode cX12_add 16 = .ok (.iload_n 3, 1) := by decide +kernel
theorem dX12_add_17 : decode cX12_add 17 = .ok (.iload_n 2, 1) := by decide +kernel
theorem dX12_add_18 : decode cX12_add 18 = .ok (.iastore, 1) := by decide +kernel
theorem dX12_add_19 : decode cX12_add 19 = .ok (.aload_n 0, 1) := by decide +kernel
theorem dX12_add_20 : decode cX12_add 20 = .ok (.getfield 32, 3) := by decide +kernel
theorem dX12_add_23 : decode cX12_add 23 = .ok (.iload_n 3, 1) := by decide +kernel
theorem dX12_add_24 : decode cX12_add 24 = .ok (.aload_n 0, 1) := by decide +kernel
theorem dX12_add_25 : decode cX12_add 25 = .ok (.getfield 107, 3) := by decide +kernel
theorem dX12_add_28 : decode cX12_add 28 = .ok (.iastore, 1) := by decide +kernel
theorem dX12_add_29 : decode cX12_add 29 = .ok (.iconst 0, 1) := by decide +kernel
theorem dX12_add_30 : decode cX12_add 30 = .ok (.istore 4, 2) := by decide +kernel
theorem dX12_add_32 : decode cX12_add 32 = .ok (.iload 4, 2) := by decide +kernel
theorem dX12_add_34 : decode cX12_add 34 = .ok (.aload_n 0, 1) := by decide +kernel
theorem dX12_add_35 : decode cX12_add 35 = .ok (.getfield 107, 3) := by decide +kernel
theorem dX12_add_38 : decode cX12_add 38 = .ok (.if_icmp .ge 28, 3) := by decide +kernel
theorem dX12_add_41 : decode cX12_add 41 = .ok (.aload_n 0, 1) := by decide +kernel
theorem dX12_add_42 : decode cX12_add 42 = .ok (.getfield 35, 3) := by decide +kernel
theorem dX12_add_45 : decode cX12_add 45 = .ok (.bipush 16, 2) := by decide +kernel
theorem dX12_add_47 : decode cX12_add 47 = .ok (.iload_n 3, 1) := by decide +kernel
theorem dX12_add_48 : decode cX12_add 48 = .ok (.imul, 1) := by decide +kernel
theorem dX12_add_49 : decode cX12_add 49 = .ok (.iload 4, 2) := by decide +kernel
theorem dX12_add_51 : decode cX12_add 51 = .ok (.iadd, 1) := by decide +kernel
theorem dX12_add_52 : decode cX12_add 52 = .ok (.aload_n 0, 1) := by decide +kernel
theorem dX12_add_53 : decode cX12_add 53 = .ok (.getfield 86, 3) := by decide +kernel
theorem dX12_add_56 : decode cX12_add 56 = .ok (.iload 4, 2) := by decide +kernel
theorem dX12_add_58 : decode cX12_add 58 = .ok (.iaload, 1) := by decide +kernel
theorem dX12_add_59 : decode cX12_add 59 = .ok (.iastore, 1) := by decide +kernel
theorem dX12_add_60 : decode cX12_add 60 = .ok (.iinc 4 1, 3) := by decide +kernel
theorem dX12_add_63 : decode cX12_add 63 = .ok (.goto (-31), 3) := by decide +kernel
theorem dX12_add_66 : decode cX12_add 66 = .ok (.aload_n 0, 1) := by decide +kernel
theorem dX12_add_67 : decode cX12_add 67 = .ok (.getfield 38, 3) := by decide +kernel
theorem dX12_add_70 : decode cX12_add 70 = .ok (.iload_n 3, 1) := by decide +kernel
theorem dX12_add_71 : decode cX12_add 71 = .ok (.iconst (-1), 1) := by decide +kernel
theorem dX12_add_72 : decode cX12_add 72 = .ok (.iastore, 1) := by decide +kernel
theorem dX12_add_73 : decode cX12_add 73 = .ok (.aload_n 0, 1) := by decide +kernel
theorem dX12_add_74 : decode cX12_add 74 = .ok (.getfield 29, 3) := by decide +kernel
theorem dX12_add_77 : decode cX12_add 77 = .ok (.iload_n 3, 1) := by decide +kernel
theorem dX12_add_78 : decode cX12_add 78 = .ok (.iconst (-1), 1) := by decide +kernel
theorem dX12_add_79 : decode cX12_add 79 = .ok (.iastore, 1) := by decide +kernel
theorem dX12_add_80 : decode cX12_add 80 = .ok (.aload_n 0, 1) := by decide +kernel
theorem dX12_add_81 : decode cX12_add 81 = .ok (.dup, 1) := by decide +kernel
theorem dX12_add_82 : decode cX12_add 82 = .ok (.getfield 115, 3) := by decide +kernel
theorem dX12_add_85 : decode cX12_add 85 = .ok (.iconst 1, 1) := by decide +kernel
theorem dX12_add_86 : decode cX12_add 86 = .ok (.iadd, 1) := by decide +kernel
theorem dX12_add_87 : decode cX12_add 87 = .ok (.putfield 115, 3) := by decide +kernel
theorem dX12_add_90 : decode cX12_add 90 = .ok (.iload_n 3, 1) := by decide +kernel
theorem dX12_add_91 : decode cX12_add 91 = .ok (.ireturn, 1) := by decide +kernel
theorem dX12_hasRule_0 : decode cX12_hasRule 0 = .ok (.aload_n 0, 1) := by decide +kernel
theorem dX12_hasRule_1 : decode cX12_hasRule 1 = .ok (.getfield 95, 3) := by decide +kernel
theorem dX12_hasRule_4 : decode cX12_hasRule 4 = .ok (.iload_n 1, 1) := by decide +kernel
theorem dX12_hasRule_5 : decode cX12_hasRule 5 = .ok (.iand, 1) := by decide +kernel
theorem dX12_hasRule_6 : decode cX12_hasRule 6 = .ok (.ifCond .eq 7, 3) := by decide +kernel
theorem dX12_hasRule_9 : decode cX12_hasRule 9 = .ok (.iconst 1, 1) := by decide +kernel
theorem dX12_hasRule_10 : decode cX12_hasRule 10 = .ok (.goto 4, 3) := by decide +kernel
theorem dX12_hasRule_13 : decode cX12_hasRule 13 = .ok (.iconst 0, 1) := by decide +kernel
theorem dX12_hasRule_14 : decode cX12_hasRule 14 = .ok (.ireturn, 1) := by decide +kernel
theorem dX12_isParting_0 : decode cX12_isParting 0 = .ok (.iload_n 1, 1) := by decide +kernel
theorem dX12_isParting_1 : decode cX12_isParting 1 = .ok (.bipush 47, 2) := by decide +kernel
theorem dX12_isParting_3 : decode cX12_isParting 3 = .ok (.if_icmp .eq 17, 3) := by decide +kernel
theorem dX12_isParting_6 : decode cX12_isParting 6 = .ok (.iload_n 1, 1) := by decide +kernel
theorem dX12_isParting_7 : decode cX12_isParting 7 = .ok (.bipush 92, 2) := by decide +kernel
theorem dX12_isParting_9 : decode cX12_isParting 9 = .ok (.if_icmp .ne 15, 3) := by decide +kernel
theorem dX12_isParting_12 : decode cX12_isParting 12 = .ok (.aload_n 0, 1) := by decide +kernel
theorem dX12_isParting_13 : decode cX12_isParting 13 = .ok (.iconst 1, 1) := by decide +kernel
theorem dX12_isParting_14 : decode cX12_isParting 14 = .ok (.invokevirtual 118, 3) := by decide +kernel
theorem dX12_isParting_17 : decode cX12_isParting 17 = .ok (.ifCond .eq 7, 3) := by decide +kernel
theorem dX12_isParting_20 : decode cX12_isParting 20 = .ok (.iconst 1, 1) := by decide +kernel
theorem dX12_isParting_21 : decode cX12_isParting 21 = .ok (.goto 4, 3) := by decide +kernel
theorem dX12_isParting_24 : decode cX12_isParting 24 = .ok (.iconst 0, 1) := by decide +kernel
theorem dX12_isParting_25 : decode cX12_isParting 25 = .ok (.ireturn, 1) := by decide +kernel
theorem dX12_small_0 : decode cX12_small 0 = .ok (.iload_n 0, 1) := by decide +kernel
theorem dX12_small_1 : decode cX12_small 1 = .ok (.bipush 65, 2) := by decide +kernel
theorem dX12_small_3 : decode cX12_small 3 = .ok (.if_icmp .lt 16, 3) := by decide +kernel
theorem dX12_small_6 : decode cX12_small 6 = .ok (.iload_n 0, 1) := by decide +kernel
theorem dX12_small_7 : decode cX12_small 7 = .ok (.bipush 90, 2) := by decide +kernel
theorem dX12_small_9 : decode cX12_small 9 = .ok (.if_icmp .gt 10, 3) := by decide +kernel
theorem dX12_small_12 : decode cX12_small 12 = .ok (.iload_n 0, 1) := by decide +kernel
theorem dX12_small_13 : decode cX12_small 13 = .ok (.bipush 32, 2) := by decide +kernel
theorem dX12_small_15 : decode cX12_small 15 = .ok (.iadd, 1) := by decide +kernel
theorem dX12_small_16 : decode cX12_small 16 = .ok (.goto 4, 3) := by decide +kernel
theorem dX12_small_19 : decode cX12_small 19 = .ok (.iload_n 0, 1) := by decide +kernel
theorem dX12_small_20 : decode cX12_small 20 = .ok (.ireturn, 1) := by decide +kernel
theorem dX12_put_0 : decode cX12_put 0 = .ok (.aload_n 0, 1) := by decide +kernel
theorem dX12_put_1 : decode cX12_put 1 = .ok (.getfield 122, 3) := by decide +kernel
theorem dX12_put_4 : decode cX12_put 4 = .ok (.sipush 160, 3) := by decide +kernel
theorem dX12_put_7 : decode cX12_put 7 = .ok (.if_icmp .eq 14, 3) := by decide +kernel
theorem dX12_put_10 : decode cX12_put 10 = .ok (.iload_n 1, 1) := by decide +kernel
theorem dX12_put_11 : decode cX12_put 11 = .ok (.ifCond .lt 10, 3) := by decide +kernel
theorem dX12_put_14 : decode cX12_put 14 = .ok (.iload_n 1, 1) := by decide +kernel
theorem dX12_put_15 : decode cX12_put 15 = .ok (.sipush 255, 3) := by decide +kernel
theorem dX12_put_18 : decode cX12_put 18 = .ok (.if_icmp .le 6, 3) := by decide +kernel
theorem dX12_put_21 : decode cX12_put 21 = .ok (.bipush (-5), 2) := by decide +kernel
theorem dX12_put_23 : decode cX12_put 23 = .ok (.ireturn, 1) := by decide +kernel
theorem dX12_put_24 : decode cX12_put 24 = .ok (.aload_n 0, 1) := by decide +kernel
theorem dX12_put_25 : decode cX12_put 25 = .ok (.getfield 7, 3) := by decide +kernel
theorem dX12_put_28 : decode cX12_put 28 = .ok (.aload_n 0, 1) := by decide +kernel
theorem dX12_put_29 : decode cX12_put 29 = .ok (.getfield 122, 3) := by decide +kernel
theorem dX12_put_32 : decode cX12_put 32 = .ok (.iload_n 1, 1) := by decide +kernel
theorem dX12_put_33 : decode cX12_put 33 = .ok (.iastore, 1) := by decide +kernel
theorem dX12_put_34 : decode cX12_put 34 = .ok (.aload_n 0, 1) := by decide +kernel
theorem dX12_put_35 : decode cX12_put 35 = .ok (.dup, 1) := by decide +kernel
theorem dX12_put_36 : decode cX12_put 36 = .ok (.getfield 122, 3) := by decide +kernel
theorem dX12_put_39 : decode cX12_put 39 = .ok (.iconst 1, 1) := by decide +kernel
theorem dX12_put_40 : decode cX12_put 40 = .ok (.iadd, 1) := by decide +kernel
theorem dX12_put_41 : decode cX12_put 41 = .ok (.putfield 122, 3) := by decide +kernel
theorem dX12_put_44 : decode cX12_put 44 = .ok (.aload_n 0, 1) := by decide +kernel
theorem dX12_put_45 : decode cX12_put 45 = .ok (.getfield 122, 3) := by decide +kernel
theorem dX12_put_48 : decode cX12_put 48 = .ok (.ireturn, 1) := by decide +kernel
theorem dX12_nextPart_0 : decode cX12_nextPart 0 = .ok (.iload_n 1, 1) := by decide +kernel
theorem dX12_nextPart_1 : decode cX12_nextPart 1 = .ok (.istore_n 3, 1) := by decide +kernel
theorem dX12_nextPart_2 : decode cX12_nextPart 2 = .ok (.iload_n 3, 1) := by decide +kernel
theorem dX12_nextPart_3 : decode cX12_nextPart 3 = .ok (.iload_n 2, 1) := by decide +kernel
theorem dX12_nextPart_4 : decode cX12_nextPart 4 = .ok (.if_icmp .ge 88, 3) := by decide +kernel
theorem dX12_nextPart_7 : decode cX12_nextPart 7 = .ok (.aload_n 0, 1) := by decide +kernel
theorem dX12_nextPart_8 : decode cX12_nextPart 8 = .ok (.iconst 0, 1) := by decide +kernel
theorem dX12_nextPart_9 : decode cX12_nextPart 9 = .ok (.putfield 107, 3) := by decide +kernel
theorem dX12_nextPart_12 : decode cX12_nextPart 12 = .ok (.iload_n 3, 1) := by decide +kernel
theorem dX12_nextPart_13 : decode cX12_nextPart 13 = .ok (.iload_n 2, 1) := by decide +kernel
theorem dX12_nextPart_14 : decode cX12_nextPart 14 = .ok (.if_icmp .ge 47, 3) := by decide +kernel
theorem dX12_nextPart_17 : decode cX12_nextPart 17 = .ok (.aload_n 0, 1) := by decide +kernel
theorem dX12_nextPart_18 : decode cX12_nextPart 18 = .ok (.aload_n 0, 1) := by decide +kernel
theorem dX12_nextPart_19 : decode cX12_nextPart 19 = .ok (.getfield 7, 3) := by decide +kernel
theorem dX12_nextPart_22 : decode cX12_nextPart 22 = .ok (.iload_n 3, 1) := by decide +kernel
theorem dX12_nextPart_23 : decode cX12_nextPart 23 = .ok (.iaload, 1) := by decide +kernel
theorem dX12_nextPart_24 : decode cX12_nextPart 24 = .ok (.invokevirtual 125, 3) := by decide +kernel
theorem dX12_nextPart_27 : decode cX12_nextPart 27 = .ok (.ifCond .ne 34, 3) := by decide +kernel
theorem dX12_nextPart_30 : decode cX12_nextPart 30 = .ok (.aload_n 0, 1) := by decide +kernel
theorem dX12_nextPart_31 : decode cX12_nextPart 31 = .ok (.getfield 86, 3) := by decide +kernel
theorem dX12_nextPart_34 : decode cX12_nextPart 34 = .ok (.aload_n 0, 1) := by decide +kernel
theorem dX12_nextPart_35 : decode cX12_nextPart 35 = .ok (.getfield 107, 3) := by decide +kernel
theorem dX12_nextPart_38 : decode cX12_nextPart 38 = .ok (.aload_n 0, 1) := by decide +kernel
theorem dX12_nextPart_39 : decode cX12_nextPart 39 = .ok (.getfield 7, 3) := by decide +kernel
theorem dX12_nextPart_42 : decode cX12_nextPart 42 = .ok (.iload_n 3, 1) := by decide +kernel
theorem dX12_nextPart_43 : decode cX12_nextPart 43 = .ok (.iaload, 1) := by decide +kernel
theorem dX12_nextPart_44 : decode cX12_nextPart 44 = .ok (.iastore, 1) := by decide +kernel
theorem dX12_nextPart_45 : decode cX12_nextPart 45 = .ok (.aload_n 0, 1) := by decide +kernel
theorem dX12_nextPart_46 : decode cX12_nextPart 46 = .ok (.dup, 1) := by decide +kernel
theorem dX12_nextPart_47 : decode cX12_nextPart 47 = .ok (.getfield 107, 3) := by decide +kernel
theorem dX12_nextPart_50 : decode cX12_nextPart 50 = .ok (.iconst 1, 1) := by decide +kernel
theorem dX12_nextPart_51 : decode cX12_nextPart 51 = .ok (.iadd, 1) := by decide +kernel
theorem dX12_nextPart_52 : decode cX12_nextPart 52 = .ok (.putfield 107, 3) := by decide +kernel
theorem dX12_nextPart_55 : decode cX12_nextPart 55 = .ok (.iinc 3 1, 3) := by decide +kernel
theorem dX12_nextPart_58 : decode cX12_nextPart 58 = .ok (.goto (-46), 3) := by decide +kernel
theorem dX12_nextPart_61 : decode cX12_nextPart 61 = .ok (.iinc 3 1, 3) := by decide +kernel
theorem dX12_nextPart_64 : decode cX12_nextPart 64 = .ok (.aload_n 0, 1) := by decide +kernel
theorem dX12_nextPart_65 : decode cX12_nextPart 65 = .ok (.getfield 107, 3) := by decide +kernel
theorem dX12_nextPart_68 : decode cX12_nextPart 68 = .ok (.ifCond .le (-66), 3) := by decide +kernel
theorem dX12_nextPart_71 : decode cX12_nextPart 71 = .ok (.aload_n 0, 1) := by decide +kernel
theorem dX12_nextPart_72 : decode cX12_nextPart 72 = .ok (.getfield 107, 3) := by decide +kernel
theorem dX12_nextPart_75 : decode cX12_nextPart 75 = .ok (.iconst 1, 1) := by decide +kernel
theorem dX12_nextPart_76 : decode cX12_nextPart 76 = .ok (.if_icmp .ne 14, 3) := by decide +kernel
theorem dX12_nextPart_79 : decode cX12_nextPart 79 = .ok (.aload_n 0, 1) := by decide +kernel
theorem dX12_nextPart_80 : decode cX12_nextPart 80 = .ok (.getfield 86, 3) := by decide +kernel
theorem dX12_nextPart_83 : decode cX12_nextPart 83 = .ok (.iconst 0, 1) := by decide +kernel
theorem dX12_nextPart_84 : decode cX12_nextPart 84 = .ok (.iaload, 1) := by decide +kernel
theorem dX12_nextPart_85 : decode cX12_nextPart 85 = .ok (.bipush 46, 2) := by decide +kernel
theorem dX12_nextPart_87 : decode cX12_nextPart 87 = .ok (.if_icmp .eq (-85), 3) := by decide +kernel
theorem dX12_nextPart_90 : decode cX12_nextPart 90 = .ok (.iload_n 3, 1) := by decide +kernel
theorem dX12_nextPart_91 : decode cX12_nextPart 91 = .ok (.ireturn, 1) := by decide +kernel
theorem dX12_nextPart_92 : decode cX12_nextPart 92 = .ok (.iconst (-1), 1) := by decide +kernel
theorem dX12_nextPart_93 : decode cX12_nextPart 93 = .ok (.ireturn, 1) := by decide +kernel
theorem dX12_isUp_0 : decode cX12_isUp 0 = .ok (.aload_n 0, 1) := by decide +kernel
theorem dX12_isUp_1 : decode cX12_isUp 1 = .ok (.getfield 107, 3) := by decide +kernel
theorem dX12_isUp_4 : decode cX12_isUp 4 = .ok (.iconst 2, 1) := by decide +kernel
theorem dX12_isUp_5 : decode cX12_isUp 5 = .ok (.if_icmp .ne 29, 3) := by decide +kernel
theorem dX12_isUp_8 : decode cX12_isUp 8 = .ok (.aload_n 0, 1) := by decide +kernel
theorem dX12_isUp_9 : decode cX12_isUp 9 = .ok (.getfield 86, 3) := by decide +kernel
theorem dX12_isUp_12 : decode cX12_isUp 12 = .ok (.iconst 0, 1) := by decide +kernel
theorem dX12_isUp_13 : decode cX12_isUp 13 = .ok (.iaload, 1) := by decide +kernel
theorem dX12_isUp_14 : decode cX12_isUp 14 = .ok (.bipush 46, 2) := by decide +kernel
theorem dX12_isUp_16 : decode cX12_isUp 16 = .ok (.if_icmp .ne 18, 3) := by decide +kernel
theorem dX12_isUp_19 : decode cX12_isUp 19 = .ok (.aload_n 0, 1) := by decide +kernel
theorem dX12_isUp_20 : decode cX12_isUp 20 = .ok (.getfield 86, 3) := by decide +kernel
theorem dX12_isUp_23 : decode cX12_isUp 23 = .ok (.iconst 1, 1) := by decide +kernel
theorem dX12_isUp_24 : decode cX12_isUp 24 = .ok (.iaload, 1) := by decide +kernel
theorem dX12_isUp_25 : decode cX12_isUp 25 = .ok (.bipush 46, 2) := by decide +kernel
theorem dX12_isUp_27 : decode cX12_isUp 27 = .ok (.if_icmp .ne 7, 3) := by decide +kernel
theorem dX12_isUp_30 : decode cX12_isUp 30 = .ok (.iconst 1, 1) := by decide +kernel
theorem dX12_isUp_31 : decode cX12_isUp 31 = .ok (.goto 4, 3) := by decide +kernel
theorem dX12_isUp_34 : decode cX12_isUp 34 = .ok (.iconst 0, 1) := by decide +kernel
theorem dX12_isUp_35 : decode cX12_isUp 35 = .ok (.ireturn, 1) := by decide +kernel
theorem dX12_isLike_0 : decode cX12_isLike 0 = .ok (.aload_n 0, 1) := by decide +kernel
theorem dX12_isLike_1 : decode cX12_isLike 1 = .ok (.getfield 86, 3) := by decide +kernel
theorem dX12_isLike_4 : decode cX12_isLike 4 = .ok (.iload_n 1, 1) := by decide +kernel
theorem dX12_isLike_5 : decode cX12_isLike 5 = .ok (.iaload, 1) := by decide +kernel
theorem dX12_isLike_6 : decode cX12_isLike 6 = .ok (.invokestatic 128, 3) := by decide +kernel
theorem dX12_isLike_9 : decode cX12_isLike 9 = .ok (.iload_n 2, 1) := by decide +kernel
theorem dX12_isLike_10 : decode cX12_isLike 10 = .ok (.if_icmp .ne 38, 3) := by decide +kernel
theorem dX12_isLike_13 : decode cX12_isLike 13 = .ok (.aload_n 0, 1) := by decide +kernel
theorem dX12_isLike_14 : decode cX12_isLike 14 = .ok (.getfield 86, 3) := by decide +kernel
theorem dX12_isLike_17 : decode cX12_isLike 17 = .ok (.iload_n 1, 1) := by decide +kernel
theorem dX12_isLike_18 : decode cX12_isLike 18 = .ok (.iconst 1, 1) := by decide +kernel
theorem dX12_isLike_19 : decode cX12_isLike 19 = .ok (.iadd, 1) := by decide +kernel
theorem dX12_isLike_20 : decode cX12_isLike 20 = .ok (.iaload, 1) := by decide +kernel
theorem dX12_isLike_21 : decode cX12_isLike 21 = .ok (.invokestatic 128, 3) := by decide +kernel
theorem dX12_isLike_24 : decode cX12_isLike 24 = .ok (.iload_n 3, 1) := by decide +kernel
theorem dX12_isLike_25 : decode cX12_isLike 25 = .ok (.if_icmp .ne 23, 3) := by decide +kernel
theorem dX12_isLike_28 : decode cX12_isLike 28 = .ok (.aload_n 0, 1) := by decide +kernel
theorem dX12_isLike_29 : decode cX12_isLike 29 = .ok (.getfield 86, 3) := by decide +kernel
theorem dX12_isLike_32 : decode cX12_isLike 32 = .ok (.iload_n 1, 1) := by decide +kernel
theorem dX12_isLike_33 : decode cX12_isLike 33 = .ok (.iconst 2, 1) := by decide +kernel
theorem dX12_isLike_34 : decode cX12_isLike 34 = .ok (.iadd, 1) := by decide +kernel
theorem dX12_isLike_35 : decode cX12_isLike 35 = .ok (.iaload, 1) := by decide +kernel
theorem dX12_isLike_36 : decode cX12_isLike 36 = .ok (.invokestatic 128, 3) := by decide +kernel
theorem dX12_isLike_39 : decode cX12_isLike 39 = .ok (.iload 4, 2) := by decide +kernel
theorem dX12_isLike_41 : decode cX12_isLike 41 = .ok (.if_icmp .ne 7, 3) := by decide +kernel
theorem dX12_isLike_44 : decode cX12_isLike 44 = .ok (.iconst 1, 1) := by decide +kernel
theorem dX12_isLike_45 : decode cX12_isLike 45 = .ok (.goto 4, 3) := by decide +kernel
theorem dX12_isLike_48 : decode cX12_isLike 48 = .ok (.iconst 0, 1) := by decide +kernel
theorem dX12_isLike_49 : decode cX12_isLike 49 = .ok (.ireturn, 1) := by decide +kernel
theorem dX12_isBad_0 : decode cX12_isBad 0 = .ok (.iconst 0, 1) := by decide +kernel
theorem dX12_isBad_1 : decode cX12_isBad 1 = .ok (.istore_n 1, 1) := by decide +kernel
theorem dX12_isBad_2 : decode cX12_isBad 2 = .ok (.iload_n 1, 1) := by decide +kernel
theorem dX12_isBad_3 : decode cX12_isBad 3 = .ok (.aload_n 0, 1) := by decide +kernel
theorem dX12_isBad_4 : decode cX12_isBad 4 = .ok (.getfield 107, 3) := by decide +kernel
theorem dX12_isBad_7 : decode cX12_isBad 7 = .ok (.if_icmp .ge 91, 3) := by decide +kernel
theorem dX12_isBad_10 : decode cX12_isBad 10 = .ok (.aload_n 0, 1) := by decide +kernel
theorem dX12_isBad_11 : decode cX12_isBad 11 = .ok (.getfield 86, 3) := by decide +kernel
theorem dX12_isBad_14 : decode cX12_isBad 14 = .ok (.iload_n 1, 1) := by decide +kernel
theorem dX12_isBad_15 : decode cX12_isBad 15 = .ok (.iaload, 1) := by decide +kernel
theorem dX12_isBad_16 : decode cX12_isBad 16 = .ok (.istore_n 2, 1) := by decide +kernel
theorem dX12_isBad_17 : decode cX12_isBad 17 = .ok (.iload_n 2, 1) := by decide +kernel
theorem dX12_isBad_18 : decode cX12_isBad 18 = .ok (.bipush 58, 2) := by decide +kernel
theorem dX12_isBad_20 : decode cX12_isBad 20 = .ok (.if_icmp .eq 39, 3) := by decide +kernel
theorem dX12_isBad_23 : decode cX12_isBad 23 = .ok (.iload_n 2, 1) := by decide +kernel
theorem dX12_isBad_24 : decode cX12_isBad 24 = .ok (.bipush 42, 2) := by decide +kernel
theorem dX12_isBad_26 : decode cX12_isBad 26 = .ok (.if_icmp .eq 33, 3) := by decide +kernel
theorem dX12_isBad_29 : decode cX12_isBad 29 = .ok (.iload_n 2, 1) := by decide +kernel
theorem dX12_isBad_30 : decode cX12_isBad 30 = .ok (.bipush 63, 2) := by decide +kernel
theorem dX12_isBad_32 : decode cX12_isBad 32 = .ok (.if_icmp .eq 27, 3) := by decide +kernel
theorem dX12_isBad_35 : decode cX12_isBad 35 = .ok (.iload_n 2, 1) := by decide +kernel
theorem dX12_isBad_36 : decode cX12_isBad 36 = .ok (.bipush 34, 2) := by decide +kernel
theorem dX12_isBad_38 : decode cX12_isBad 38 = .ok (.if_icmp .eq 21, 3) := by decide +kernel
theorem dX12_isBad_41 : decode cX12_isBad 41 = .ok (.iload_n 2, 1) := by decide +kernel
theorem dX12_isBad_42 : decode cX12_isBad 42 = .ok (.bipush 60, 2) := by decide +kernel
theorem dX12_isBad_44 : decode cX12_isBad 44 = .ok (.if_icmp .eq 15, 3) := by decide +kernel
theorem dX12_isBad_47 : decode cX12_isBad 47 = .ok (.iload_n 2, 1) := by decide +kernel
theorem dX12_isBad_48 : decode cX12_isBad 48 = .ok (.bipush 62, 2) := by decide +kernel
theorem dX12_isBad_50 : decode cX12_isBad 50 = .ok (.if_icmp .eq 9, 3) := by decide +kernel
theorem dX12_isBad_53 : decode cX12_isBad 53 = .ok (.iload_n 2, 1) := by decide +kernel
theorem dX12_isBad_54 : decode cX12_isBad 54 = .ok (.bipush 124, 2) := by decide +kernel
theorem dX12_isBad_56 : decode cX12_isBad 56 = .ok (.if_icmp .ne 7, 3) := by decide +kernel
theorem dX12_isBad_59 : decode cX12_isBad 59 = .ok (.iconst 1, 1) := by decide +kernel
theorem dX12_isBad_60 : decode cX12_isBad 60 = .ok (.goto 4, 3) := by decide +kernel
theorem dX12_isBad_63 : decode cX12_isBad 63 = .ok (.iconst 0, 1) := by decide +kernel
theorem dX12_isBad_64 : decode cX12_isBad 64 = .ok (.istore_n 3, 1) := by decide +kernel
theorem dX12_isBad_65 : decode cX12_isBad 65 = .ok (.iload_n 2, 1) := by decide +kernel
theorem dX12_isBad_66 : decode cX12_isBad 66 = .ok (.bipush 32, 2) := by decide +kernel
theorem dX12_isBad_68 : decode cX12_isBad 68 = .ok (.if_icmp .lt 22, 3) := by decide +kernel
theorem dX12_isBad_71 : decode cX12_isBad 71 = .ok (.iload_n 2, 1) := by decide +kernel
theorem dX12_isBad_72 : decode cX12_isBad 72 = .ok (.bipush 127, 2) := by decide +kernel
theorem dX12_isBad_74 : decode cX12_isBad 74 = .ok (.if_icmp .eq 16, 3) := by decide +kernel
theorem dX12_isBad_77 : decode cX12_isBad 77 = .ok (.aload_n 0, 1) := by decide +kernel
theorem dX12_isBad_78 : decode cX12_isBad 78 = .ok (.bipush 8, 2) := by decide +kernel
theorem dX12_isBad_80 : decode cX12_isBad 80 = .ok (.invokevirtual 118, 3) := by decide +kernel
theorem dX12_isBad_83 : decode cX12_isBad 83 = .ok (.ifCond .eq 9, 3) := by decide +kernel
theorem dX12_isBad_86 : decode cX12_isBad 86 = .ok (.iload_n 3, 1) := by decide +kernel
theorem dX12_isBad_87 : decode cX12_isBad 87 = .ok (.ifCond .eq 5, 3) := by decide +kernel
theorem dX12_isBad_90 : decode cX12_isBad 90 = .ok (.iconst 1, 1) := by decide +kernel
theorem dX12_isBad_91 : decode cX12_isBad 91 = .ok (.ireturn, 1) := by decide +kernel
theorem dX12_isBad_92 : decode cX12_isBad 92 = .ok (.iinc 1 1, 3) := by decide +kernel
theorem dX12_isBad_95 : decode cX12_isBad 95 = .ok (.goto (-93), 3) := by decide +kernel
theorem dX12_isBad_98 : decode cX12_isBad 98 = .ok (.aload_n 0, 1) := by decide +kernel
theorem dX12_isBad_99 : decode cX12_isBad 99 = .ok (.bipush 8, 2) := by decide +kernel
theorem dX12_isBad_101 : decode cX12_isBad 101 = .ok (.invokevirtual 118, 3) := by decide +kernel
theorem dX12_isBad_104 : decode cX12_isBad 104 = .ok (.ifCond .ne 5, 3) := by decide +kernel
theorem dX12_isBad_107 : decode cX12_isBad 107 = .ok (.iconst 0, 1) := by decide +kernel
theorem dX12_isBad_108 : decode cX12_isBad 108 = .ok (.ireturn, 1) := by decide +kernel
theorem dX12_isBad_109 : decode cX12_isBad 109 = .ok (.aload_n 0, 1) := by decide +kernel
theorem dX12_isBad_110 : decode cX12_isBad 110 = .ok (.getfield 86, 3) := by decide +kernel
theorem dX12_isBad_113 : decode cX12_isBad 113 = .ok (.aload_n 0, 1) := by decide +kernel
theorem dX12_isBad_114 : decode cX12_isBad 114 = .ok (.getfield 107, 3) := by decide +kernel
theorem dX12_isBad_117 : decode cX12_isBad 117 = .ok (.iconst 1, 1) := by decide +kernel
theorem dX12_isBad_118 : decode cX12_isBad 118 = .ok (.isub, 1) := by decide +kernel
theorem dX12_isBad_119 : decode cX12_isBad 119 = .ok (.iaload, 1) := by decide +kernel
theorem dX12_isBad_120 : decode cX12_isBad 120 = .ok (.istore_n 1, 1) := by decide +kernel
theorem dX12_isBad_121 : decode cX12_isBad 121 = .ok (.iconst 0, 1) := by decide +kernel
theorem dX12_isBad_122 : decode cX12_isBad 122 = .ok (.istore_n 2, 1) := by decide +kernel
theorem dX12_isBad_123 : decode cX12_isBad 123 = .ok (.iload_n 2, 1) := by decide +kernel
theorem dX12_isBad_124 : decode cX12_isBad 124 = .ok (.aload_n 0, 1) := by decide +kernel
theorem dX12_isBad_125 : decode cX12_isBad 125 = .ok (.getfield 107, 3) := by decide +kernel
theorem dX12_isBad_128 : decode cX12_isBad 128 = .ok (.if_icmp .ge 20, 3) := by decide +kernel
theorem dX12_isBad_131 : decode cX12_isBad 131 = .ok (.aload_n 0, 1) := by decide +kernel
theorem dX12_isBad_132 : decode cX12_isBad 132 = .ok (.getfield 86, 3) := by decide +kernel
theorem dX12_isBad_135 : decode cX12_isBad 135 = .ok (.iload_n 2, 1) := by decide +kernel
theorem dX12_isBad_136 : decode cX12_isBad 136 = .ok (.iaload, 1) := by decide +kernel
theorem dX12_isBad_137 : decode cX12_isBad 137 = .ok (.bipush 46, 2) := by decide +kernel
theorem dX12_isBad_139 : decode cX12_isBad 139 = .ok (.if_icmp .eq 9, 3) := by decide +kernel
theorem dX12_isBad_142 : decode cX12_isBad 142 = .ok (.iinc 2 1, 3) := by decide +kernel
theorem dX12_isBad_145 : decode cX12_isBad 145 = .ok (.goto (-22), 3) := by decide +kernel
theorem dX12_isBad_148 : decode cX12_isBad 148 = .ok (.iload_n 2, 1) := by decide +kernel
theorem dX12_isBad_149 : decode cX12_isBad 149 = .ok (.iconst 3, 1) := by decide +kernel
theorem dX12_isBad_150 : decode cX12_isBad 150 = .ok (.if_icmp .ne 63, 3) := by decide +kernel
theorem dX12_isBad_153 : decode cX12_isBad 153 = .ok (.aload_n 0, 1) := by decide +kernel
theorem dX12_isBad_154 : decode cX12_isBad 154 = .ok (.iconst 0, 1) := by decide +kernel
theorem dX12_isBad_155 : decode cX12_isBad 155 = .ok (.bipush 99, 2) := by decide +kernel
theorem dX12_isBad_157 : decode cX12_isBad 157 = .ok (.bipush 111, 2) := by decide +kernel
theorem dX12_isBad_159 : decode cX12_isBad 159 = .ok (.bipush 110, 2) := by decide +kernel
theorem dX12_isBad_161 : decode cX12_isBad 161 = .ok (.invokevirtual 132, 3) := by decide +kernel
theorem dX12_isBad_164 : decode cX12_isBad 164 = .ok (.ifCond .ne 45, 3) := by decide +kernel
theorem dX12_isBad_167 : decode cX12_isBad 167 = .ok (.aload_n 0, 1) := by decide +kernel
theorem dX12_isBad_168 : decode cX12_isBad 168 = .ok (.iconst 0, 1) := by decide +kernel
theorem dX12_isBad_169 : decode cX12_isBad 169 = .ok (.bipush 112, 2) := by decide +kernel
theorem dX12_isBad_171 : decode cX12_isBad 171 = .ok (.bipush 114, 2) := by decide +kernel
theorem dX12_isBad_173 : decode cX12_isBad 173 = .ok (.bipush 110, 2) := by decide +kernel
theorem dX12_isBad_175 : decode cX12_isBad 175 = .ok (.invokevirtual 132, 3) := by decide +kernel
theorem dX12_isBad_178 : decode cX12_isBad 178 = .ok (.ifCond .ne 31, 3) := by decide +kernel
theorem dX12_isBad_181 : decode cX12_isBad 181 = .ok (.aload_n 0, 1) := by decide +kernel
theorem dX12_isBad_182 : decode cX12_isBad 182 = .ok (.iconst 0, 1) := by decide +kernel
theorem dX12_isBad_183 : decode cX12_isBad 183 = .ok (.bipush 97, 2) := by decide +kernel
theorem dX12_isBad_185 : decode cX12_isBad 185 = .ok (.bipush 117, 2) := by decide +kernel
theorem dX12_isBad_187 : decode cX12_isBad 187 = .ok (.bipush 120, 2) := by decide +kernel
theorem dX12_isBad_189 : decode cX12_isBad 189 = .ok (.invokevirtual 132, 3) := by decide +kernel
theorem dX12_isBad_192 : decode cX12_isBad 192 = .ok (.ifCond .ne 17, 3) := by decide +kernel
theorem dX12_isBad_195 : decode cX12_isBad 195 = .ok (.aload_n 0, 1) := by decide +kernel
theorem dX12_isBad_196 : decode cX12_isBad 196 = .ok (.iconst 0, 1) := by decide +kernel
theorem dX12_isBad_197 : decode cX12_isBad 197 = .ok (.bipush 110, 2) := by decide +kernel
theorem dX12_isBad_199 : decode cX12_isBad 199 = .ok (.bipush 117, 2) := by decide +kernel
theorem dX12_isBad_201 : decode cX12_isBad 201 = .ok (.bipush 108, 2) := by decide +kernel
theorem dX12_isBad_203 : decode cX12_isBad 203 = .ok (.invokevirtual 132, 3) := by decide +kernel
theorem dX12_isBad_206 : decode cX12_isBad 206 = .ok (.ifCond .eq 7, 3) := by decide +kernel
theorem dX12_isBad_209 : decode cX12_isBad 209 = .ok (.iconst 1, 1) := by decide +kernel
theorem dX12_isBad_210 : decode cX12_isBad 210 = .ok (.goto 4, 3) := by decide +kernel
theorem dX12_isBad_213 : decode cX12_isBad 213 = .ok (.iconst 0, 1) := by decide +kernel
theorem dX12_isBad_214 : decode cX12_isBad 214 = .ok (.istore_n 3, 1) := by decide +kernel
theorem dX12_isBad_215 : decode cX12_isBad 215 = .ok (.iload_n 2, 1) := by decide +kernel
theorem dX12_isBad_216 : decode cX12_isBad 216 = .ok (.iconst 4, 1) := by decide +kernel
theorem dX12_isBad_217 : decode cX12_isBad 217 = .ok (.if_icmp .ne 57, 3) := by decide +kernel
theorem dX12_isBad_220 : decode cX12_isBad 220 = .ok (.aload_n 0, 1) := by decide +kernel
theorem dX12_isBad_221 : decode cX12_isBad 221 = .ok (.iconst 0, 1) := by decide +kernel
theorem dX12_isBad_222 : decode cX12_isBad 222 = .ok (.bipush 99, 2) := by decide +kernel
theorem dX12_isBad_224 : decode cX12_isBad 224 = .ok (.bipush 111, 2) := by decide +kernel
theorem dX12_isBad_226 : decode cX12_isBad 226 = .ok (.bipush 109, 2) := by decide +kernel
theorem dX12_isBad_228 : decode cX12_isBad 228 = .ok (.invokevirtual 132, 3) := by decide +kernel
theorem dX12_isBad_231 : decode cX12_isBad 231 = .ok (.ifCond .ne 17, 3) := by decide +kernel
theorem dX12_isBad_234 : decode cX12_isBad 234 = .ok (.aload_n 0, 1) := by decide +kernel
theorem dX12_isBad_235 : decode cX12_isBad 235 = .ok (.iconst 0, 1) := by decide +kernel
theorem dX12_isBad_236 : decode cX12_isBad 236 = .ok (.bipush 108, 2) := by decide +kernel
theorem dX12_isBad_238 : decode cX12_isBad 238 = .ok (.bipush 112, 2) := by decide +kernel
theorem dX12_isBad_240 : decode cX12_isBad 240 = .ok (.bipush 116, 2) := by decide +kernel
theorem dX12_isBad_242 : decode cX12_isBad 242 = .ok (.invokevirtual 132, 3) := by decide +kernel
theorem dX12_isBad_245 : decode cX12_isBad 245 = .ok (.ifCond .eq 29, 3) := by decide +kernel
theorem dX12_isBad_248 : decode cX12_isBad 248 = .ok (.aload_n 0, 1) := by decide +kernel
theorem dX12_isBad_249 : decode cX12_isBad 249 = .ok (.getfield 86, 3) := by decide +kernel
theorem dX12_isBad_252 : decode cX12_isBad 252 = .ok (.iconst 3, 1) := by decide +kernel
theorem dX12_isBad_253 : decode cX12_isBad 253 = .ok (.iaload, 1) := by decide +kernel
theorem dX12_isBad_254 : decode cX12_isBad 254 = .ok (.bipush 49, 2) := by decide +kernel
theorem dX12_isBad_256 : decode cX12_isBad 256 = .ok (.if_icmp .lt 18, 3) := by decide +kernel
theorem dX12_isBad_259 : decode cX12_isBad 259 = .ok (.aload_n 0, 1) := by decide +kernel
theorem dX12_isBad_260 : decode cX12_isBad 260 = .ok (.getfield 86, 3) := by decide +kernel
theorem dX12_isBad_263 : decode cX12_isBad 263 = .ok (.iconst 3, 1) := by decide +kernel
theorem dX12_isBad_264 : decode cX12_isBad 264 = .ok (.iaload, 1) := by decide +kernel
theorem dX12_isBad_265 : decode cX12_isBad 265 = .ok (.bipush 57, 2) := by decide +kernel
theorem dX12_isBad_267 : decode cX12_isBad 267 = .ok (.if_icmp .gt 7, 3) := by decide +kernel
theorem dX12_isBad_270 : decode cX12_isBad 270 = .ok (.iconst 1, 1) := by decide +kernel
theorem dX12_isBad_271 : decode cX12_isBad 271 = .ok (.goto 4, 3) := by decide +kernel
theorem dX12_isBad_274 : decode cX12_isBad 274 = .ok (.iconst 0, 1) := by decide +kernel
theorem dX12_isBad_275 : decode cX12_isBad 275 = .ok (.istore 4, 2) := by decide +kernel
theorem dX12_isBad_277 : decode cX12_isBad 277 = .ok (.iload_n 1, 1) := by decide +kernel
theorem dX12_isBad_278 : decode cX12_isBad 278 = .ok (.bipush 46, 2) := by decide +kernel
theorem dX12_isBad_280 : decode cX12_isBad 280 = .ok (.if_icmp .eq 18, 3) := by decide +kernel
theorem dX12_isBad_283 : decode cX12_isBad 283 = .ok (.iload_n 1, 1) := by decide +kernel
theorem dX12_isBad_284 : decode cX12_isBad 284 = .ok (.bipush 32, 2) := by decide +kernel
theorem dX12_isBad_286 : decode cX12_isBad 286 = .ok (.if_icmp .eq 12, 3) := by decide +kernel
theorem dX12_isBad_289 : decode cX12_isBad 289 = .ok (.iload_n 3, 1) := by decide +kernel
theorem dX12_isBad_290 : decode cX12_isBad 290 = .ok (.ifCond .ne 8, 3) := by decide +kernel
theorem dX12_isBad_293 : decode cX12_isBad 293 = .ok (.iload 4, 2) := by decide +kernel
theorem dX12_isBad_295 : decode cX12_isBad 295 = .ok (.ifCond .eq 7, 3) := by decide +kernel
theorem dX12_isBad_298 : decode cX12_isBad 298 = .ok (.iconst 1, 1) := by decide +kernel
theorem dX12_isBad_299 : decode cX12_isBad 299 = .ok (.goto 4, 3) := by decide +kernel
theorem dX12_isBad_302 : decode cX12_isBad 302 = .ok (.iconst 0, 1) := by decide +kernel
theorem dX12_isBad_303 : decode cX12_isBad 303 = .ok (.ireturn, 1) := by decide +kernel
theorem dX12_path_0 : decode cX12_path 0 = .ok (.aload_n 0, 1) := by decide +kernel
theorem dX12_path_1 : decode cX12_path 1 = .ok (.getfield 122, 3) := by decide +kernel
theorem dX12_path_4 : decode cX12_path 4 = .ok (.istore_n 1, 1) := by decide +kernel
theorem dX12_path_5 : decode cX12_path 5 = .ok (.aload_n 0, 1) := by decide +kernel
theorem dX12_path_6 : decode cX12_path 6 = .ok (.iconst 0, 1) := by decide +kernel
theorem dX12_path_7 : decode cX12_path 7 = .ok (.putfield 122, 3) := by decide +kernel
theorem dX12_path_10 : decode cX12_path 10 = .ok (.iconst 0, 1) := by decide +kernel
theorem dX12_path_11 : decode cX12_path 11 = .ok (.istore_n 2, 1) := by decide +kernel
theorem dX12_path_12 : decode cX12_path 12 = .ok (.iconst 0, 1) := by decide +kernel
theorem dX12_path_13 : decode cX12_path 13 = .ok (.istore_n 3, 1) := by decide +kernel
theorem dX12_path_14 : decode cX12_path 14 = .ok (.iconst 0, 1) := by decide +kernel
theorem dX12_path_15 : decode cX12_path 15 = .ok (.istore 4, 2) := by decide +kernel
theorem dX12_path_17 : decode cX12_path 17 = .ok (.iconst 0, 1) := by decide +kernel
theorem dX12_path_18 : decode cX12_path 18 = .ok (.istore 5, 2) := by decide +kernel
theorem dX12_path_20 : decode cX12_path 20 = .ok (.aload_n 0, 1) := by decide +kernel
theorem dX12_path_21 : decode cX12_path 21 = .ok (.iconst 0, 1) := by decide +kernel
theorem dX12_path_22 : decode cX12_path 22 = .ok (.iload_n 1, 1) := by decide +kernel
theorem dX12_path_23 : decode cX12_path 23 = .ok (.invokevirtual 136, 3) := by decide +kernel
theorem dX12_path_26 : decode cX12_path 26 = .ok (.istore 6, 2) := by decide +kernel
theorem dX12_path_28 : decode cX12_path 28 = .ok (.iload 6, 2) := by decide +kernel
theorem dX12_path_30 : decode cX12_path 30 = .ok (.ifCond .lt 53, 3) := by decide +kernel
theorem dX12_path_33 : decode cX12_path 33 = .ok (.iinc 2 1, 3) := by decide +kernel
theorem dX12_path_36 : decode cX12_path 36 = .ok (.iload_n 3, 1) := by decide +kernel
theorem dX12_path_37 : decode cX12_path 37 = .ok (.aload_n 0, 1) := by decide +kernel
theorem dX12_path_38 : decode cX12_path 38 = .ok (.invokevirtual 139, 3) := by decide +kernel
theorem dX12_path_41 : decode cX12_path 41 = .ok (.ior, 1) := by decide +kernel
theorem dX12_path_42 : decode cX12_path 42 = .ok (.istore_n 3, 1) := by decide +kernel
theorem dX12_path_43 : decode cX12_path 43 = .ok (.iload 4, 2) := by decide +kernel
theorem dX12_path_45 : decode cX12_path 45 = .ok (.aload_n 0, 1) := by decide +kernel
theorem dX12_path_46 : decode cX12_path 46 = .ok (.invokevirtual 143, 3) := by decide +kernel
theorem dX12_path_49 : decode cX12_path 49 = .ok (.ior, 1) := by decide +kernel
theorem dX12_path_50 : decode cX12_path 50 = .ok (.istore 4, 2) := by decide +kernel
theorem dX12_path_52 : decode cX12_path 52 = .ok (.iload 5, 2) := by decide +kernel
theorem dX12_path_54 : decode cX12_path 54 = .ok (.aload_n 0, 1) := by decide +kernel
theorem dX12_path_55 : decode cX12_path 55 = .ok (.getfield 107, 3) := by decide +kernel
theorem dX12_path_58 : decode cX12_path 58 = .ok (.bipush 16, 2) := by decide +kernel
theorem dX12_path_60 : decode cX12_path 60 = .ok (.if_icmp .le 7, 3) := by decide +kernel
theorem dX12_path_63 : decode cX12_path 63 = .ok (.iconst 1, 1) := by decide +kernel
theorem dX12_path_64 : decode cX12_path 64 = .ok (.goto 4, 3) := by decide +kernel
theorem dX12_path_67 : decode cX12_path 67 = .ok (.iconst 0, 1) := by decide +kernel
theorem dX12_path_68 : decode cX12_path 68 = .ok (.ior, 1) := by decide +kernel
theorem dX12_path_69 : decode cX12_path 69 = .ok (.istore 5, 2) := by decide +kernel
theorem dX12_path_71 : decode cX12_path 71 = .ok (.aload_n 0, 1) := by decide +kernel
theorem dX12_path_72 : decode cX12_path 72 = .ok (.iload 6, 2) := by decide +kernel
theorem dX12_path_74 : decode cX12_path 74 = .ok (.iload_n 1, 1) := by decide +kernel
theorem dX12_path_75 : decode cX12_path 75 = .ok (.invokevirtual 136, 3) := by decide +kernel
theorem dX12_path_78 : decode cX12_path 78 = .ok (.istore 6, 2) := by decide +kernel
theorem dX12_path_80 : decode cX12_path 80 = .ok (.goto (-52), 3) := by decide +kernel
theorem dX12_path_83 : decode cX12_path 83 = .ok (.iload_n 2, 1) := by decide +kernel
theorem dX12_path_84 : decode cX12_path 84 = .ok (.ifCond .ne 5, 3) := by decide +kernel
theorem dX12_path_87 : decode cX12_path 87 = .ok (.iconst (-1), 1) := by decide +kernel
theorem dX12_path_88 : decode cX12_path 88 = .ok (.ireturn, 1) := by decide +kernel
theorem dX12_path_89 : decode cX12_path 89 = .ok (.aload_n 0, 1) := by decide +kernel
theorem dX12_path_90 : decode cX12_path 90 = .ok (.getfield 7, 3) := by decide +kernel
theorem dX12_path_93 : decode cX12_path 93 = .ok (.iconst 0, 1) := by decide +kernel
theorem dX12_path_94 : decode cX12_path 94 = .ok (.iaload, 1) := by decide +kernel
theorem dX12_path_95 : decode cX12_path 95 = .ok (.invokestatic 128, 3) := by decide +kernel
theorem dX12_path_98 : decode cX12_path 98 = .ok (.bipush 97, 2) := by decide +kernel
theorem dX12_path_100 : decode cX12_path 100 = .ok (.if_icmp .lt 21, 3) := by decide +kernel
theorem dX12_path_103 : decode cX12_path 103 = .ok (.aload_n 0, 1) := by decide +kernel
theorem dX12_path_104 : decode cX12_path 104 = .ok (.getfield 7, 3) := by decide +kernel
theorem dX12_path_107 : decode cX12_path 107 = .ok (.iconst 0, 1) := by decide +kernel
theorem dX12_path_108 : decode cX12_path 108 = .ok (.iaload, 1) := by decide +kernel
theorem dX12_path_109 : decode cX12_path 109 = .ok (.invokestatic 128, 3) := by decide +kernel
theorem dX12_path_112 : decode cX12_path 112 = .ok (.bipush 122, 2) := by decide +kernel
theorem dX12_path_114 : decode cX12_path 114 = .ok (.if_icmp .gt 7, 3) := by decide +kernel
theorem dX12_path_117 : decode cX12_path 117 = .ok (.iconst 1, 1) := by decide +kernel
theorem dX12_path_118 : decode cX12_path 118 = .ok (.goto 4, 3) := by decide +kernel
theorem dX12_path_121 : decode cX12_path 121 = .ok (.iconst 0, 1) := by decide +kernel
theorem dX12_path_122 : decode cX12_path 122 = .ok (.istore 6, 2) := by decide +kernel
theorem dX12_path_124 : decode cX12_path 124 = .ok (.aload_n 0, 1) := by decide +kernel
theorem dX12_path_125 : decode cX12_path 125 = .ok (.aload_n 0, 1) := by decide +kernel
theorem dX12_path_126 : decode cX12_path 126 = .ok (.getfield 7, 3) := by decide +kernel
theorem dX12_path_129 : decode cX12_path 129 = .ok (.iconst 0, 1) := by decide +kernel
theorem dX12_path_130 : decode cX12_path 130 = .ok (.iaload, 1) := by decide +kernel
theorem dX12_path_131 : decode cX12_path 131 = .ok (.invokevirtual 125, 3) := by decide +kernel
theorem dX12_path_134 : decode cX12_path 134 = .ok (.ifCond .ne 24, 3) := by decide +kernel
theorem dX12_path_137 : decode cX12_path 137 = .ok (.iload_n 1, 1) := by decide +kernel
theorem dX12_path_138 : decode cX12_path 138 = .ok (.iconst 1, 1) := by decide +kernel
theorem dX12_path_139 : decode cX12_path 139 = .ok (.if_icmp .le 22, 3) := by decide +kernel
theorem dX12_path_142 : decode cX12_path 142 = .ok (.aload_n 0, 1) := by decide +kernel
theorem dX12_path_143 : decode cX12_path 143 = .ok (.getfield 7, 3) := by decide +kernel
theorem dX12_path_146 : decode cX12_path 146 = .ok (.iconst 1, 1) := by decide +kernel
theorem dX12_path_147 : decode cX12_path 147 = .ok (.iaload, 1) := by decide +kernel
theorem dX12_path_148 : decode cX12_path 148 = .ok (.bipush 58, 2) := by decide +kernel
theorem dX12_path_150 : decode cX12_path 150 = .ok (.if_icmp .ne 11, 3) := by decide +kernel
theorem dX12_path_153 : decode cX12_path 153 = .ok (.iload 6, 2) := by decide +kernel
theorem dX12_path_155 : decode cX12_path 155 = .ok (.ifCond .eq 6, 3) := by decide +kernel
theorem dX12_path_158 : decode cX12_path 158 = .ok (.bipush (-2), 2) := by decide +kernel
theorem dX12_path_160 : decode cX12_path 160 = .ok (.ireturn, 1) := by decide +kernel
theorem dX12_path_161 : decode cX12_path 161 = .ok (.iload_n 3, 1) := by decide +kernel
theorem dX12_path_162 : decode cX12_path 162 = .ok (.ifCond .eq 6, 3) := by decide +kernel
theorem dX12_path_165 : decode cX12_path 165 = .ok (.bipush (-3), 2) := by decide +kernel
theorem dX12_path_167 : decode cX12_path 167 = .ok (.ireturn, 1) := by decide +kernel
theorem dX12_path_168 : decode cX12_path 168 = .ok (.iload 4, 2) := by decide +kernel
theorem dX12_path_170 : decode cX12_path 170 = .ok (.ifCond .eq 6, 3) := by decide +kernel
theorem dX12_path_173 : decode cX12_path 173 = .ok (.bipush (-4), 2) := by decide +kernel
theorem dX12_path_175 : decode cX12_path 175 = .ok (.ireturn, 1) := by decide +kernel
theorem dX12_path_176 : decode cX12_path 176 = .ok (.iload 5, 2) := by decide +kernel
theorem dX12_path_178 : decode cX12_path 178 = .ok (.ifCond .ne 9, 3) := by decide +kernel
theorem dX12_path_181 : decode cX12_path 181 = .ok (.iload_n 2, 1) := by decide +kernel
theorem dX12_path_182 : decode cX12_path 182 = .ok (.bipush 8, 2) := by decide +kernel
theorem dX12_path_184 : decode cX12_path 184 = .ok (.if_icmp .le 6, 3) := by decide +kernel
theorem dX12_path_187 : decode cX12_path 187 = .ok (.bipush (-5), 2) := by decide +kernel
theorem dX12_path_189 : decode cX12_path 189 = .ok (.ireturn, 1) := by decide +kernel
theorem dX12_path_190 : decode cX12_path 190 = .ok (.aload_n 0, 1) := by decide +kernel
theorem dX12_path_191 : decode cX12_path 191 = .ok (.getfield 146, 3) := by decide +kernel
theorem dX12_path_194 : decode cX12_path 194 = .ok (.bipush 60, 2) := by decide +kernel
theorem dX12_path_196 : decode cX12_path 196 = .ok (.if_icmp .ne 6, 3) := by decide +kernel
theorem dX12_path_199 : decode cX12_path 199 = .ok (.bipush (-6), 2) := by decide +kernel
theorem dX12_path_201 : decode cX12_path 201 = .ok (.ireturn, 1) := by decide +kernel
theorem dX12_path_202 : decode cX12_path 202 = .ok (.iconst 0, 1) := by decide +kernel
theorem dX12_path_203 : decode cX12_path 203 = .ok (.istore 7, 2) := by decide +kernel
theorem dX12_path_205 : decode cX12_path 205 = .ok (.aload_n 0, 1) := by decide +kernel
theorem dX12_path_206 : decode cX12_path 206 = .ok (.iconst 0, 1) := by decide +kernel
theorem dX12_path_207 : decode cX12_path 207 = .ok (.iload_n 1, 1) := by decide +kernel
theorem dX12_path_208 : decode cX12_path 208 = .ok (.invokevirtual 136, 3) := by decide +kernel
theorem dX12_path_211 : decode cX12_path 211 = .ok (.istore 8, 2) := by decide +kernel
theorem dX12_path_213 : decode cX12_path 213 = .ok (.iload 8, 2) := by decide +kernel
theorem dX12_path_215 : decode cX12_path 215 = .ok (.ifCond .lt 83, 3) := by decide +kernel
theorem dX12_path_218 : decode cX12_path 218 = .ok (.aload_n 0, 1) := by decide +kernel
theorem dX12_path_219 : decode cX12_path 219 = .ok (.getfield 51, 3) := by decide +kernel
theorem dX12_path_222 : decode cX12_path 222 = .ok (.bipush 8, 2) := by decide +kernel
theorem dX12_path_224 : decode cX12_path 224 = .ok (.aload_n 0, 1) := by decide +kernel
theorem dX12_path_225 : decode cX12_path 225 = .ok (.getfield 146, 3) := by decide +kernel
theorem dX12_path_228 : decode cX12_path 228 = .ok (.imul, 1) := by decide +kernel
theorem dX12_path_229 : decode cX12_path 229 = .ok (.iload 7, 2) := by decide +kernel
theorem dX12_path_231 : decode cX12_path 231 = .ok (.iadd, 1) := by decide +kernel
theorem dX12_path_232 : decode cX12_path 232 = .ok (.aload_n 0, 1) := by decide +kernel
theorem dX12_path_233 : decode cX12_path 233 = .ok (.getfield 107, 3) := by decide +kernel
theorem dX12_path_236 : decode cX12_path 236 = .ok (.iastore, 1) := by decide +kernel
theorem dX12_path_237 : decode cX12_path 237 = .ok (.iconst 0, 1) := by decide +kernel
theorem dX12_path_238 : decode cX12_path 238 = .ok (.istore 9, 2) := by decide +kernel
theorem dX12_path_240 : decode cX12_path 240 = .ok (.iload 9, 2) := by decide +kernel
theorem dX12_path_242 : decode cX12_path 242 = .ok (.aload_n 0, 1) := by decide +kernel
theorem dX12_path_243 : decode cX12_path 243 = .ok (.getfield 107, 3) := by decide +kernel
theorem dX12_path_246 : decode cX12_path 246 = .ok (.if_icmp .ge 37, 3) := by decide +kernel
theorem dX12_path_249 : decode cX12_path 249 = .ok (.aload_n 0, 1) := by decide +kernel
theorem dX12_path_250 : decode cX12_path 250 = .ok (.getfield 54, 3) := by decide +kernel
theorem dX12_path_253 : decode cX12_path 253 = .ok (.bipush 16, 2) := by decide +kernel
theorem dX12_path_255 : decode cX12_path 255 = .ok (.bipush 8, 2) := by decide +kernel
theorem dX12_path_257 : decode cX12_path 257 = .ok (.aload_n 0, 1) := by decide +kernel
theorem dX12_path_258 : decode cX12_path 258 = .ok (.getfield 146, 3) := by decide +kernel
theorem dX12_path_261 : decode cX12_path 261 = .ok (.imul, 1) := by decide +kernel
theorem dX12_path_262 : decode cX12_path 262 = .ok (.iload 7, 2) := by decide +kernel
theorem dX12_path_264 : decode cX12_path 264 = .ok (.iadd, 1) := by decide +kernel
theorem dX12_path_265 : decode cX12_path 265 = .ok (.imul, 1) := by decide +kernel
theorem dX12_path_266 : decode cX12_path 266 = .ok (.iload 9, 2) := by decide +kernel
theorem dX12_path_268 : decode cX12_path 268 = .ok (.iadd, 1) := by decide +kernel
theorem dX12_path_269 : decode cX12_path 269 = .ok (.aload_n 0, 1) := by decide +kernel
theorem dX12_path_270 : decode cX12_path 270 = .ok (.getfield 86, 3) := by decide +kernel
theorem dX12_path_273 : decode cX12_path 273 = .ok (.iload 9, 2) := by decide +kernel
theorem dX12_path_275 : decode cX12_path 275 = .ok (.iaload, 1) := by decide +kernel
theorem dX12_path_276 : decode cX12_path 276 = .ok (.iastore, 1) := by decide +kernel
theorem dX12_path_277 : decode cX12_path 277 = .ok (.iinc 9 1, 3) := by decide +kernel
theorem dX12_path_280 : decode cX12_path 280 = .ok (.goto (-40), 3) := by decide +kernel
theorem dX12_path_283 : decode cX12_path 283 = .ok (.iinc 7 1, 3) := by decide +kernel
theorem dX12_path_286 : decode cX12_path 286 = .ok (.aload_n 0, 1) := by decide +kernel
theorem dX12_path_287 : decode cX12_path 287 = .ok (.iload 8, 2) := by decide +kernel
theorem dX12_path_289 : decode cX12_path 289 = .ok (.iload_n 1, 1) := by decide +kernel
theorem dX12_path_290 : decode cX12_path 290 = .ok (.invokevirtual 136, 3) := by decide +kernel
theorem dX12_path_293 : decode cX12_path 293 = .ok (.istore 8, 2) := by decide +kernel
theorem dX12_path_295 : decode cX12_path 295 = .ok (.goto (-82), 3) := by decide +kernel
theorem dX12_path_298 : decode cX12_path 298 = .ok (.aload_n 0, 1) := by decide +kernel
theorem dX12_path_299 : decode cX12_path 299 = .ok (.getfield 48, 3) := by decide +kernel
theorem dX12_path_302 : decode cX12_path 302 = .ok (.aload_n 0, 1) := by decide +kernel
theorem dX12_path_303 : decode cX12_path 303 = .ok (.getfield 146, 3) := by decide +kernel
theorem dX12_path_306 : decode cX12_path 306 = .ok (.iload_n 2, 1) := by decide +kernel
theorem dX12_path_307 : decode cX12_path 307 = .ok (.iastore, 1) := by decide +kernel
theorem dX12_path_308 : decode cX12_path 308 = .ok (.aload_n 0, 1) := by decide +kernel
theorem dX12_path_309 : decode cX12_path 309 = .ok (.dup, 1) := by decide +kernel
theorem dX12_path_310 : decode cX12_path 310 = .ok (.getfield 146, 3) := by decide +kernel
theorem dX12_path_313 : decode cX12_path 313 = .ok (.iconst 1, 1) := by decide +kernel
theorem dX12_path_314 : decode cX12_path 314 = .ok (.iadd, 1) := by decide +kernel
theorem dX12_path_315 : decode cX12_path 315 = .ok (.putfield 146, 3) := by decide +kernel
theorem dX12_path_318 : decode cX12_path 318 = .ok (.aload_n 0, 1) := by decide +kernel
theorem dX12_path_319 : decode cX12_path 319 = .ok (.getfield 146, 3) := by decide +kernel
theorem dX12_path_322 : decode cX12_path 322 = .ok (.iconst 1, 1) := by decide +kernel
theorem dX12_path_323 : decode cX12_path 323 = .ok (.isub, 1) := by decide +kernel
theorem dX12_path_324 : decode cX12_path 324 = .ok (.ireturn, 1) := by decide +kernel
theorem dX12_isPath_0 : decode cX12_isPath 0 = .ok (.iload_n 1, 1) := by decide +kernel
theorem dX12_isPath_1 : decode cX12_isPath 1 = .ok (.ifCond .lt 15, 3) := by decide +kernel
theorem dX12_isPath_4 : decode cX12_isPath 4 = .ok (.iload_n 1, 1) := by decide +kernel
theorem dX12_isPath_5 : decode cX12_isPath 5 = .ok (.aload_n 0, 1) := by decide +kernel
theorem dX12_isPath_6 : decode cX12_isPath 6 = .ok (.getfield 146, 3) := by decide +kernel
theorem dX12_isPath_9 : decode cX12_isPath 9 = .ok (.if_icmp .ge 7, 3) := by decide +kernel
theorem dX12_isPath_12 : decode cX12_isPath 12 = .ok (.iconst 1, 1) := by decide +kernel
theorem dX12_isPath_13 : decode cX12_isPath 13 = .ok (.goto 4, 3) := by decide +kernel
theorem dX12_isPath_16 : decode cX12_isPath 16 = .ok (.iconst 0, 1) := by decide +kernel
theorem dX12_isPath_17 : decode cX12_isPath 17 = .ok (.ireturn, 1) := by decide +kernel
theorem dX12_part_0 : decode cX12_part 0 = .ok (.aload_n 0, 1) := by decide +kernel
theorem dX12_part_1 : decode cX12_part 1 = .ok (.iload_n 1, 1) := by decide +kernel
theorem dX12_part_2 : decode cX12_part 2 = .ok (.invokevirtual 149, 3) := by decide +kernel
theorem dX12_part_5 : decode cX12_part 5 = .ok (.ifCond .eq 40, 3) := by decide +kernel
theorem dX12_part_8 : decode cX12_part 8 = .ok (.iload_n 2, 1) := by decide +kernel
theorem dX12_part_9 : decode cX12_part 9 = .ok (.ifCond .lt 36, 3) := by decide +kernel
theorem dX12_part_12 : decode cX12_part 12 = .ok (.iload_n 2, 1) := by decide +kernel
theorem dX12_part_13 : decode cX12_part 13 = .ok (.aload_n 0, 1) := by decide +kernel
theorem dX12_part_14 : decode cX12_part 14 = .ok (.getfield 48, 3) := by decide +kernel
theorem dX12_part_17 : decode cX12_part 17 = .ok (.iload_n 1, 1) := by decide +kernel
theorem dX12_part_18 : decode cX12_part 18 = .ok (.iaload, 1) := by decide +kernel
theorem dX12_part_19 : decode cX12_part 19 = .ok (.if_icmp .ge 26, 3) := by decide +kernel
theorem dX12_part_22 : decode cX12_part 22 = .ok (.iload_n 3, 1) := by decide +kernel
theorem dX12_part_23 : decode cX12_part 23 = .ok (.ifCond .lt 22, 3) := by decide +kernel
theorem dX12_part_26 : decode cX12_part 26 = .ok (.iload_n 3, 1) := by decide +kernel
theorem dX12_part_27 : decode cX12_part 27 = .ok (.aload_n 0, 1) := by decide +kernel
theorem dX12_part_28 : decode cX12_part 28 = .ok (.getfield 51, 3) := by decide +kernel
theorem dX12_part_31 : decode cX12_part 31 = .ok (.bipush 8, 2) := by decide +kernel
theorem dX12_part_33 : decode cX12_part 33 = .ok (.iload_n 1, 1) := by decide +kernel
theorem dX12_part_34 : decode cX12_part 34 = .ok (.imul, 1) := by decide +kernel
theorem dX12_part_35 : decode cX12_part 35 = .ok (.iload_n 2, 1) := by decide +kernel
theorem dX12_part_36 : decode cX12_part 36 = .ok (.iadd, 1) := by decide +kernel
theorem dX12_part_37 : decode cX12_part 37 = .ok (.iaload, 1) := by decide +kernel
theorem dX12_part_38 : decode cX12_part 38 = .ok (.if_icmp .ge 7, 3) := by decide +kernel
theorem dX12_part_41 : decode cX12_part 41 = .ok (.iconst 1, 1) := by decide +kernel
theorem dX12_part_42 : decode cX12_part 42 = .ok (.goto 4, 3) := by decide +kernel
theorem dX12_part_45 : decode cX12_part 45 = .ok (.iconst 0, 1) := by decide +kernel
theorem dX12_part_46 : decode cX12_part 46 = .ok (.istore 4, 2) := by decide +kernel
theorem dX12_part_48 : decode cX12_part 48 = .ok (.iload 4, 2) := by decide +kernel
theorem dX12_part_50 : decode cX12_part 50 = .ok (.ifCond .eq 22, 3) := by decide +kernel
theorem dX12_part_53 : decode cX12_part 53 = .ok (.aload_n 0, 1) := by decide +kernel
theorem dX12_part_54 : decode cX12_part 54 = .ok (.getfield 54, 3) := by decide +kernel
theorem dX12_part_57 : decode cX12_part 57 = .ok (.bipush 16, 2) := by decide +kernel
theorem dX12_part_59 : decode cX12_part 59 = .ok (.bipush 8, 2) := by decide +kernel
theorem dX12_part_61 : decode cX12_part 61 = .ok (.iload_n 1, 1) := by decide +kernel
theorem dX12_part_62 : decode cX12_part 62 = .ok (.imul, 1) := by decide +kernel
theorem dX12_part_63 : decode cX12_part 63 = .ok (.iload_n 2, 1) := by decide +kernel
theorem dX12_part_64 : decode cX12_part 64 = .ok (.iadd, 1) := by decide +kernel
theorem dX12_part_65 : decode cX12_part 65 = .ok (.imul, 1) := by decide +kernel
theorem dX12_part_66 : decode cX12_part 66 = .ok (.iload_n 3, 1) := by decide +kernel
theorem dX12_part_67 : decode cX12_part 67 = .ok (.iadd, 1) := by decide +kernel
theorem dX12_part_68 : decode cX12_part 68 = .ok (.iaload, 1) := by decide +kernel
theorem dX12_part_69 : decode cX12_part 69 = .ok (.goto 4, 3) := by decide +kernel
theorem dX12_part_72 : decode cX12_part 72 = .ok (.iconst (-1), 1) := by decide +kernel
theorem dX12_part_73 : decode cX12_part 73 = .ok (.ireturn, 1) := by decide +kernel
theorem dX12_meets_0 : decode cX12_meets 0 = .ok (.aload_n 0, 1) := by decide +kernel
theorem dX12_meets_1 : decode cX12_meets 1 = .ok (.iload_n 1, 1) := by decide +kernel
theorem dX12_meets_2 : decode cX12_meets 2 = .ok (.invokevirtual 149, 3) := by decide +kernel
theorem dX12_meets_5 : decode cX12_meets 5 = .ok (.ifCond .eq 11, 3) := by decide +kernel
theorem dX12_meets_8 : decode cX12_meets 8 = .ok (.aload_n 0, 1) := by decide +kernel
theorem dX12_meets_9 : decode cX12_meets 9 = .ok (.iload_n 2, 1) := by decide +kernel
theorem dX12_meets_10 : decode cX12_meets 10 = .ok (.invokevirtual 149, 3) := by decide +kernel
theorem dX12_meets_13 : decode cX12_meets 13 = .ok (.ifCond .ne 6, 3) := by decide +kernel
theorem dX12_meets_16 : decode cX12_meets 16 = .ok (.bipush (-7), 2) := by decide +kernel
theorem dX12_meets_18 : decode cX12_meets 18 = .ok (.ireturn, 1) := by decide +kernel
theorem dX12_meets_19 : decode cX12_meets 19 = .ok (.aload_n 0, 1) := by decide +kernel
theorem dX12_meets_20 : decode cX12_meets 20 = .ok (.getfield 48, 3) := by decide +kernel
theorem dX12_meets_23 : decode cX12_meets 23 = .ok (.iload_n 1, 1) := by decide +kernel
theorem dX12_meets_24 : decode cX12_meets 24 = .ok (.iaload, 1) := by decide +kernel
theorem dX12_meets_25 : decode cX12_meets 25 = .ok (.aload_n 0, 1) := by decide +kernel
theorem dX12_meets_26 : decode cX12_meets 26 = .ok (.getfield 48, 3) := by decide +kernel
theorem dX12_meets_29 : decode cX12_meets 29 = .ok (.iload_n 2, 1) := by decide +kernel
theorem dX12_meets_30 : decode cX12_meets 30 = .ok (.iaload, 1) := by decide +kernel
theorem dX12_meets_31 : decode cX12_meets 31 = .ok (.if_icmp .ne 7, 3) := by decide +kernel
theorem dX12_meets_34 : decode cX12_meets 34 = .ok (.iconst 1, 1) := by decide +kernel
theorem dX12_meets_35 : decode cX12_meets 35 = .ok (.goto 4, 3) := by decide +kernel
theorem dX12_meets_38 : decode cX12_meets 38 = .ok (.iconst 0, 1) := by decide +kernel
theorem dX12_meets_39 : decode cX12_meets 39 = .ok (.istore_n 3, 1) := by decide +kernel
theorem dX12_meets_40 : decode cX12_meets 40 = .ok (.iconst 0, 1) := by decide +kernel
theorem dX12_meets_41 : decode cX12_meets 41 = .ok (.istore 4, 2) := by decide +kernel
theorem dX12_meets_43 : decode cX12_meets 43 = .ok (.iload_n 3, 1) := by decide +kernel
theorem dX12_meets_44 : decode cX12_meets 44 = .ok (.ifCond .eq 150, 3) := by decide +kernel
theorem dX12_meets_47 : decode cX12_meets 47 = .ok (.iload 4, 2) := by decide +kernel
theorem dX12_meets_49 : decode cX12_meets 49 = .ok (.aload_n 0, 1) := by decide +kernel
theorem dX12_meets_50 : decode cX12_meets 50 = .ok (.getfield 48, 3) := by decide +kernel
theorem dX12_meets_53 : decode cX12_meets 53 = .ok (.iload_n 1, 1) := by decide +kernel
theorem dX12_meets_54 : decode cX12_meets 54 = .ok (.iaload, 1) := by decide +kernel
theorem dX12_meets_55 : decode cX12_meets 55 = .ok (.if_icmp .ge 139, 3) := by decide +kernel
theorem dX12_meets_58 : decode cX12_meets 58 = .ok (.bipush 8, 2) := by decide +kernel
theorem dX12_meets_60 : decode cX12_meets 60 = .ok (.iload_n 1, 1) := by decide +kernel
theorem dX12_meets_61 : decode cX12_meets 61 = .ok (.imul, 1) := by decide +kernel
theorem dX12_meets_62 : decode cX12_meets 62 = .ok (.iload 4, 2) := by decide +kernel
theorem dX12_meets_64 : decode cX12_meets 64 = .ok (.iadd, 1) := by decide +kernel
theorem dX12_meets_65 : decode cX12_meets 65 = .ok (.istore 5, 2) := by decide +kernel
theorem dX12_meets_67 : decode cX12_meets 67 = .ok (.bipush 8, 2) := by decide +kernel
theorem dX12_meets_69 : decode cX12_meets 69 = .ok (.iload_n 2, 1) := by decide +kernel
theorem dX12_meets_70 : decode cX12_meets 70 = .ok (.imul, 1) := by decide +kernel
theorem dX12_meets_71 : decode cX12_meets 71 = .ok (.iload 4, 2) := by decide +kernel
theorem dX12_meets_73 : decode cX12_meets 73 = .ok (.iadd, 1) := by decide +kernel
theorem dX12_meets_74 : decode cX12_meets 74 = .ok (.istore 6, 2) := by decide +kernel
theorem dX12_meets_76 : decode cX12_meets 76 = .ok (.aload_n 0, 1) := by decide +kernel
theorem dX12_meets_77 : decode cX12_meets 77 = .ok (.getfield 51, 3) := by decide +kernel
theorem dX12_meets_80 : decode cX12_meets 80 = .ok (.iload 5, 2) := by decide +kernel
theorem dX12_meets_82 : decode cX12_meets 82 = .ok (.iaload, 1) := by decide +kernel
theorem dX12_meets_83 : decode cX12_meets 83 = .ok (.aload_n 0, 1) := by decide +kernel
theorem dX12_meets_84 : decode cX12_meets 84 = .ok (.getfield 51, 3) := by decide +kernel
theorem dX12_meets_87 : decode cX12_meets 87 = .ok (.iload 6, 2) := by decide +kernel
theorem dX12_meets_89 : decode cX12_meets 89 = .ok (.iaload, 1) := by decide +kernel
theorem dX12_meets_90 : decode cX12_meets 90 = .ok (.if_icmp .ne 7, 3) := by decide +kernel
theorem dX12_meets_93 : decode cX12_meets 93 = .ok (.iconst 1, 1) := by decide +kernel
theorem dX12_meets_94 : decode cX12_meets 94 = .ok (.goto 4, 3) := by decide +kernel
theorem dX12_meets_97 : decode cX12_meets 97 = .ok (.iconst 0, 1) := by decide +kernel
theorem dX12_meets_98 : decode cX12_meets 98 = .ok (.istore_n 3, 1) := by decide +kernel
theorem dX12_meets_99 : decode cX12_meets 99 = .ok (.iconst 0, 1) := by decide +kernel
theorem dX12_meets_100 : decode cX12_meets 100 = .ok (.istore 7, 2) := by decide +kernel
theorem dX12_meets_102 : decode cX12_meets 102 = .ok (.iload_n 3, 1) := by decide +kernel
theorem dX12_meets_103 : decode cX12_meets 103 = .ok (.ifCond .eq 85, 3) := by decide +kernel
theorem dX12_meets_106 : decode cX12_meets 106 = .ok (.iload 7, 2) := by decide +kernel
theorem dX12_meets_108 : decode cX12_meets 108 = .ok (.aload_n 0, 1) := by decide +kernel
theorem dX12_meets_109 : decode cX12_meets 109 = .ok (.getfield 51, 3) := by decide +kernel
theorem dX12_meets_112 : decode cX12_meets 112 = .ok (.iload 5, 2) := by decide +kernel
theorem dX12_meets_114 : decode cX12_meets 114 = .ok (.iaload, 1) := by decide +kernel
theorem dX12_meets_115 : decode cX12_meets 115 = .ok (.if_icmp .ge 73, 3) := by decide +kernel
theorem dX12_meets_118 : decode cX12_meets 118 = .ok (.aload_n 0, 1) := by decide +kernel
theorem dX12_meets_119 : decode cX12_meets 119 = .ok (.getfield 54, 3) := by decide +kernel
theorem dX12_meets_122 : decode cX12_meets 122 = .ok (.bipush 16, 2) := by decide +kernel
theorem dX12_meets_124 : decode cX12_meets 124 = .ok (.iload 5, 2) := by decide +kernel
theorem dX12_meets_126 : decode cX12_meets 126 = .ok (.imul, 1) := by decide +kernel
theorem dX12_meets_127 : decode cX12_meets 127 = .ok (.iload 7, 2) := by decide +kernel
theorem dX12_meets_129 : decode cX12_meets 129 = .ok (.iadd, 1) := by decide +kernel
theorem dX12_meets_130 : decode cX12_meets 130 = .ok (.iaload, 1) := by decide +kernel
theorem dX12_meets_131 : decode cX12_meets 131 = .ok (.istore 8, 2) := by decide +kernel
theorem dX12_meets_133 : decode cX12_meets 133 = .ok (.aload_n 0, 1) := by decide +kernel
theorem dX12_meets_134 : decode cX12_meets 134 = .ok (.getfield 54, 3) := by decide +kernel
theorem dX12_meets_137 : decode cX12_meets 137 = .ok (.bipush 16, 2) := by decide +kernel
theorem dX12_meets_139 : decode cX12_meets 139 = .ok (.iload 6, 2) := by decide +kernel
theorem dX12_meets_141 : decode cX12_meets 141 = .ok (.imul, 1) := by decide +kernel
theorem dX12_meets_142 : decode cX12_meets 142 = .ok (.iload 7, 2) := by decide +kernel
theorem dX12_meets_144 : decode cX12_meets 144 = .ok (.iadd, 1) := by decide +kernel
theorem dX12_meets_145 : decode cX12_meets 145 = .ok (.iaload, 1) := by decide +kernel
theorem dX12_meets_146 : decode cX12_meets 146 = .ok (.istore 9, 2) := by decide +kernel
theorem dX12_meets_148 : decode cX12_meets 148 = .ok (.iload 8, 2) := by decide +kernel
theorem dX12_meets_150 : decode cX12_meets 150 = .ok (.iload 9, 2) := by decide +kernel
theorem dX12_meets_152 : decode cX12_meets 152 = .ok (.if_icmp .eq 24, 3) := by decide +kernel
theorem dX12_meets_155 : decode cX12_meets 155 = .ok (.aload_n 0, 1) := by decide +kernel
theorem dX12_meets_156 : decode cX12_meets 156 = .ok (.iconst 2, 1) := by decide +kernel
theorem dX12_meets_157 : decode cX12_meets 157 = .ok (.invokevirtual 118, 3) := by decide +kernel
theorem dX12_meets_160 : decode cX12_meets 160 = .ok (.ifCond .eq 20, 3) := by decide +kernel
theorem dX12_meets_163 : decode cX12_meets 163 = .ok (.iload 8, 2) := by decide +kernel
theorem dX12_meets_165 : decode cX12_meets 165 = .ok (.invokestatic 128, 3) := by decide +kernel
theorem dX12_meets_168 : decode cX12_meets 168 = .ok (.iload 9, 2) := by decide +kernel
theorem dX12_meets_170 : decode cX12_meets 170 = .ok (.invokestatic 128, 3) := by decide +kernel
theorem dX12_meets_173 : decode cX12_meets 173 = .ok (.if_icmp .ne 7, 3) := by decide +kernel
theorem dX12_meets_176 : decode cX12_meets 176 = .ok (.iconst 1, 1) := by decide +kernel
theorem dX12_meets_177 : decode cX12_meets 177 = .ok (.goto 4, 3) := by decide +kernel
theorem dX12_meets_180 : decode cX12_meets 180 = .ok (.iconst 0, 1) := by decide +kernel
theorem dX12_meets_181 : decode cX12_meets 181 = .ok (.istore_n 3, 1) := by decide +kernel
theorem dX12_meets_182 : decode cX12_meets 182 = .ok (.iinc 7 1, 3) := by decide +kernel
theorem dX12_meets_185 : decode cX12_meets 185 = .ok (.goto (-83), 3) := by decide +kernel
theorem dX12_meets_188 : decode cX12_meets 188 = .ok (.iinc 4 1, 3) := by decide +kernel
theorem dX12_meets_191 : decode cX12_meets 191 = .ok (.goto (-148), 3) := by decide +kernel
theorem dX12_meets_194 : decode cX12_meets 194 = .ok (.iload_n 3, 1) := by decide +kernel
theorem dX12_meets_195 : decode cX12_meets 195 = .ok (.ifCond .eq 7, 3) := by decide +kernel
theorem dX12_meets_198 : decode cX12_meets 198 = .ok (.iconst 1, 1) := by decide +kernel
theorem dX12_meets_199 : decode cX12_meets 199 = .ok (.goto 4, 3) := by decide +kernel
theorem dX12_meets_202 : decode cX12_meets 202 = .ok (.iconst 0, 1) := by decide +kernel
theorem dX12_meets_203 : decode cX12_meets 203 = .ok (.ireturn, 1) := by decide +kernel
theorem dX12_target_0 : decode cX12_target 0 = .ok (.aload_n 0, 1) := by decide +kernel
theorem dX12_target_1 : decode cX12_target 1 = .ok (.getfield 122, 3) := by decide +kernel
theorem dX12_target_4 : decode cX12_target 4 = .ok (.istore_n 1, 1) := by decide +kernel
theorem dX12_target_5 : decode cX12_target 5 = .ok (.aload_n 0, 1) := by decide +kernel
theorem dX12_target_6 : decode cX12_target 6 = .ok (.iconst 0, 1) := by decide +kernel
theorem dX12_target_7 : decode cX12_target 7 = .ok (.putfield 122, 3) := by decide +kernel
theorem dX12_target_10 : decode cX12_target 10 = .ok (.iload_n 1, 1) := by decide +kernel
theorem dX12_target_11 : decode cX12_target 11 = .ok (.iconst 1, 1) := by decide +kernel
theorem dX12_target_12 : decode cX12_target 12 = .ok (.if_icmp .lt 9, 3) := by decide +kernel
theorem dX12_target_15 : decode cX12_target 15 = .ok (.iload_n 1, 1) := by decide +kernel
theorem dX12_target_16 : decode cX12_target 16 = .ok (.bipush 40, 2) := by decide +kernel
theorem dX12_target_18 : decode cX12_target 18 = .ok (.if_icmp .le 5, 3) := by decide +kernel
theorem dX12_target_21 : decode cX12_target 21 = .ok (.iconst (-1), 1) := by decide +kernel
theorem dX12_target_22 : decode cX12_target 22 = .ok (.ireturn, 1) := by decide +kernel
theorem dX12_target_23 : decode cX12_target 23 = .ok (.aload_n 0, 1) := by decide +kernel
theorem dX12_target_24 : decode cX12_target 24 = .ok (.getfield 152, 3) := by decide +kernel
theorem dX12_target_27 : decode cX12_target 27 = .ok (.bipush 40, 2) := by decide +kernel
theorem dX12_target_29 : decode cX12_target 29 = .ok (.if_icmp .ne 6, 3) := by decide +kernel
theorem dX12_target_32 : decode cX12_target 32 = .ok (.bipush (-6), 2) := by decide +kernel
theorem dX12_target_34 : decode cX12_target 34 = .ok (.ireturn, 1) := by decide +kernel
theorem dX12_target_35 : decode cX12_target 35 = .ok (.iconst 0, 1) := by decide +kernel
theorem dX12_target_36 : decode cX12_target 36 = .ok (.istore_n 2, 1) := by decide +kernel
theorem dX12_target_37 : decode cX12_target 37 = .ok (.iload_n 2, 1) := by decide +kernel
theorem dX12_target_38 : decode cX12_target 38 = .ok (.iload_n 1, 1) := by decide +kernel
theorem dX12_target_39 : decode cX12_target 39 = .ok (.if_icmp .ge 29, 3) := by decide +kernel
theorem dX12_target_42 : decode cX12_target 42 = .ok (.aload_n 0, 1) := by decide +kernel
theorem dX12_target_43 : decode cX12_target 43 = .ok (.getfield 60, 3) := by decide +kernel
theorem dX12_target_46 : decode cX12_target 46 = .ok (.bipush 40, 2) := by decide +kernel
theorem dX12_target_48 : decode cX12_target 48 = .ok (.aload_n 0, 1) := by decide +kernel
theorem dX12_target_49 : decode cX12_target 49 = .ok (.getfield 152, 3) := by decide +kernel
theorem dX12_target_52 : decode cX12_target 52 = .ok (.imul, 1) := by decide +kernel
theorem dX12_target_53 : decode cX12_target 53 = .ok (.iload_n 2, 1) := by decide +kernel
theorem dX12_target_54 : decode cX12_target 54 = .ok (.iadd, 1) := by decide +kernel
theorem dX12_target_55 : decode cX12_target 55 = .ok (.aload_n 0, 1) := by decide +kernel
theorem dX12_target_56 : decode cX12_target 56 = .ok (.getfield 7, 3) := by decide +kernel
theorem dX12_target_59 : decode cX12_target 59 = .ok (.iload_n 2, 1) := by decide +kernel
theorem dX12_target_60 : decode cX12_target 60 = .ok (.iaload, 1) := by decide +kernel
theorem dX12_target_61 : decode cX12_target 61 = .ok (.iastore, 1) := by decide +kernel
theorem dX12_target_62 : decode cX12_target 62 = .ok (.iinc 2 1, 3) := by decide +kernel
theorem dX12_target_65 : decode cX12_target 65 = .ok (.goto (-28), 3) := by decide +kernel
theorem dX12_target_68 : decode cX12_target 68 = .ok (.aload_n 0, 1) := by decide +kernel
theorem dX12_target_69 : decode cX12_target 69 = .ok (.getfield 57, 3) := by decide +kernel
theorem dX12_target_72 : decode cX12_target 72 = .ok (.aload_n 0, 1) := by decide +kernel
theorem dX12_target_73 : decode cX12_target 73 = .ok (.getfield 152, 3) := by decide +kernel
theorem dX12_target_76 : decode cX12_target 76 = .ok (.iload_n 1, 1) := by decide +kernel
theorem dX12_target_77 : decode cX12_target 77 = .ok (.iastore, 1) := by decide +kernel
theorem dX12_target_78 : decode cX12_target 78 = .ok (.aload_n 0, 1) := by decide +kernel
theorem dX12_target_79 : decode cX12_target 79 = .ok (.dup, 1) := by decide +kernel
theorem dX12_target_80 : decode cX12_target 80 = .ok (.getfield 152, 3) := by decide +kernel
theorem dX12_target_83 : decode cX12_target 83 = .ok (.iconst 1, 1) := by decide +kernel
theorem dX12_target_84 : decode cX12_target 84 = .ok (.iadd, 1) := by decide +kernel
theorem dX12_target_85 : decode cX12_target 85 = .ok (.putfield 152, 3) := by decide +kernel
theorem dX12_target_88 : decode cX12_target 88 = .ok (.aload_n 0, 1) := by decide +kernel
theorem dX12_target_89 : decode cX12_target 89 = .ok (.getfield 152, 3) := by decide +kernel
theorem dX12_target_92 : decode cX12_target 92 = .ok (.iconst 1, 1) := by decide +kernel
theorem dX12_target_93 : decode cX12_target 93 = .ok (.isub, 1) := by decide +kernel
theorem dX12_target_94 : decode cX12_target 94 = .ok (.ireturn, 1) := by decide +kernel
theorem dX12_isNamed_0 : decode cX12_isNamed 0 = .ok (.aload_n 0, 1) := by decide +kernel
theorem dX12_isNamed_1 : decode cX12_isNamed 1 = .ok (.getfield 32, 3) := by decide +kernel
theorem dX12_isNamed_4 : decode cX12_isNamed 4 = .ok (.iload_n 1, 1) := by decide +kernel
theorem dX12_isNamed_5 : decode cX12_isNamed 5 = .ok (.iaload, 1) := by decide +kernel
theorem dX12_isNamed_6 : decode cX12_isNamed 6 = .ok (.aload_n 0, 1) := by decide +kernel
theorem dX12_isNamed_7 : decode cX12_isNamed 7 = .ok (.getfield 107, 3) := by decide +kernel
theorem dX12_isNamed_10 : decode cX12_isNamed 10 = .ok (.if_icmp .ne 7, 3) := by decide +kernel
theorem dX12_isNamed_13 : decode cX12_isNamed 13 = .ok (.iconst 1, 1) := by decide +kernel
theorem dX12_isNamed_14 : decode cX12_isNamed 14 = .ok (.goto 4, 3) := by decide +kernel
theorem dX12_isNamed_17 : decode cX12_isNamed 17 = .ok (.iconst 0, 1) := by decide +kernel
theorem dX12_isNamed_18 : decode cX12_isNamed 18 = .ok (.istore_n 3, 1) := by decide +kernel
theorem dX12_isNamed_19 : decode cX12_isNamed 19 = .ok (.iconst 0, 1) := by decide +kernel
theorem dX12_isNamed_20 : decode cX12_isNamed 20 = .ok (.istore 4, 2) := by decide +kernel
theorem dX12_isNamed_22 : decode cX12_isNamed 22 = .ok (.iload_n 3, 1) := by decide +kernel
theorem dX12_isNamed_23 : decode cX12_isNamed 23 = .ok (.ifCond .eq 72, 3) := by decide +kernel
theorem dX12_isNamed_26 : decode cX12_isNamed 26 = .ok (.iload 4, 2) := by decide +kernel
theorem dX12_isNamed_28 : decode cX12_isNamed 28 = .ok (.aload_n 0, 1) := by decide +kernel
theorem dX12_isNamed_29 : decode cX12_isNamed 29 = .ok (.getfield 107, 3) := by decide +kernel
theorem dX12_isNamed_32 : decode cX12_isNamed 32 = .ok (.if_icmp .ge 63, 3) := by decide +kernel
theorem dX12_isNamed_35 : decode cX12_isNamed 35 = .ok (.aload_n 0, 1) := by decide +kernel
theorem dX12_isNamed_36 : decode cX12_isNamed 36 = .ok (.getfield 35, 3) := by decide +kernel
theorem dX12_isNamed_39 : decode cX12_isNamed 39 = .ok (.bipush 16, 2) := by decide +kernel
theorem dX12_isNamed_41 : decode cX12_isNamed 41 = .ok (.iload_n 1, 1) := by decide +kernel
theorem dX12_isNamed_42 : decode cX12_isNamed 42 = .ok (.imul, 1) := by decide +kernel
theorem dX12_isNamed_43 : decode cX12_isNamed 43 = .ok (.iload 4, 2) := by decide +kernel
theorem dX12_isNamed_45 : decode cX12_isNamed 45 = .ok (.iadd, 1) := by decide +kernel
theorem dX12_isNamed_46 : decode cX12_isNamed 46 = .ok (.iaload, 1) := by decide +kernel
theorem dX12_isNamed_47 : decode cX12_isNamed 47 = .ok (.istore 5, 2) := by decide +kernel
theorem dX12_isNamed_49 : decode cX12_isNamed 49 = .ok (.iload 5, 2) := by decide +kernel
theorem dX12_isNamed_51 : decode cX12_isNamed 51 = .ok (.aload_n 0, 1) := by decide +kernel
theorem dX12_isNamed_52 : decode cX12_isNamed 52 = .ok (.getfield 86, 3) := by decide +kernel
theorem dX12_isNamed_55 : decode cX12_isNamed 55 = .ok (.iload 4, 2) := by decide +kernel
theorem dX12_isNamed_57 : decode cX12_isNamed 57 = .ok (.iaload, 1) := by decide +kernel
theorem dX12_isNamed_58 : decode cX12_isNamed 58 = .ok (.if_icmp .eq 25, 3) := by decide +kernel
theorem dX12_isNamed_61 : decode cX12_isNamed 61 = .ok (.iload_n 2, 1) := by decide +kernel
theorem dX12_isNamed_62 : decode cX12_isNamed 62 = .ok (.ifCond .ne 25, 3) := by decide +kernel
theorem dX12_isNamed_65 : decode cX12_isNamed 65 = .ok (.iload 5, 2) := by decide +kernel
theorem dX12_isNamed_67 : decode cX12_isNamed 67 = .ok (.invokestatic 128, 3) := by decide +kernel
theorem dX12_isNamed_70 : decode cX12_isNamed 70 = .ok (.aload_n 0, 1) := by decide +kernel
theorem dX12_isNamed_71 : decode cX12_isNamed 71 = .ok (.getfield 86, 3) := by decide +kernel
theorem dX12_isNamed_74 : decode cX12_isNamed 74 = .ok (.iload 4, 2) := by decide +kernel
theorem dX12_isNamed_76 : decode cX12_isNamed 76 = .ok (.iaload, 1) := by decide +kernel
theorem dX12_isNamed_77 : decode cX12_isNamed 77 = .ok (.invokestatic 128, 3) := by decide +kernel
