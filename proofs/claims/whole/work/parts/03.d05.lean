theorem dX11_readAtom_247 : decode cX11_readAtom 247 = .ok (.iconst 1, 1) := by decide +kernel
theorem dX11_readAtom_248 : decode cX11_readAtom 248 = .ok (.goto 43, 3) := by decide +kernel
theorem dX11_readAtom_251 : decode cX11_readAtom 251 = .ok (.aload_n 0, 1) := by decide +kernel
theorem dX11_readAtom_252 : decode cX11_readAtom 252 = .ok (.ldc 194, 2) := by decide +kernel
theorem dX11_readAtom_254 : decode cX11_readAtom 254 = .ok (.invokevirtual 144, 3) := by decide +kernel
theorem dX11_readAtom_257 : decode cX11_readAtom 257 = .ok (.ifCond .eq 7, 3) := by decide +kernel
theorem dX11_readAtom_260 : decode cX11_readAtom 260 = .ok (.iconst 2, 1) := by decide +kernel
theorem dX11_readAtom_261 : decode cX11_readAtom 261 = .ok (.goto 30, 3) := by decide +kernel
theorem dX11_readAtom_264 : decode cX11_readAtom 264 = .ok (.aload_n 0, 1) := by decide +kernel
theorem dX11_readAtom_265 : decode cX11_readAtom 265 = .ok (.ldc 196, 2) := by decide +kernel
theorem dX11_readAtom_267 : decode cX11_readAtom 267 = .ok (.invokevirtual 144, 3) := by decide +kernel
theorem dX11_readAtom_270 : decode cX11_readAtom 270 = .ok (.ifCond .eq 7, 3) := by decide +kernel
theorem dX11_readAtom_273 : decode cX11_readAtom 273 = .ok (.iconst 3, 1) := by decide +kernel
theorem dX11_readAtom_274 : decode cX11_readAtom 274 = .ok (.goto 17, 3) := by decide +kernel
theorem dX11_readAtom_277 : decode cX11_readAtom 277 = .ok (.aload_n 0, 1) := by decide +kernel
theorem dX11_readAtom_278 : decode cX11_readAtom 278 = .ok (.ldc 198, 2) := by decide +kernel
theorem dX11_readAtom_280 : decode cX11_readAtom 280 = .ok (.invokevirtual 144, 3) := by decide +kernel
theorem dX11_readAtom_283 : decode cX11_readAtom 283 = .ok (.ifCond .eq 7, 3) := by decide +kernel
theorem dX11_readAtom_286 : decode cX11_readAtom 286 = .ok (.iconst 4, 1) := by decide +kernel
theorem dX11_readAtom_287 : decode cX11_readAtom 287 = .ok (.goto 4, 3) := by decide +kernel
theorem dX11_readAtom_290 : decode cX11_readAtom 290 = .ok (.iconst (-1), 1) := by decide +kernel
theorem dX11_readAtom_291 : decode cX11_readAtom 291 = .ok (.istore_n 2, 1) := by decide +kernel
theorem dX11_readAtom_292 : decode cX11_readAtom 292 = .ok (.iload_n 2, 1) := by decide +kernel
theorem dX11_readAtom_293 : decode cX11_readAtom 293 = .ok (.ifCond .ge 5, 3) := by decide +kernel
theorem dX11_readAtom_296 : decode cX11_readAtom 296 = .ok (.iconst 0, 1) := by decide +kernel
theorem dX11_readAtom_297 : decode cX11_readAtom 297 = .ok (.ireturn, 1) := by decide +kernel
theorem dX11_readAtom_298 : decode cX11_readAtom 298 = .ok (.aload_n 0, 1) := by decide +kernel
theorem dX11_readAtom_299 : decode cX11_readAtom 299 = .ok (.bipush 60, 2) := by decide +kernel
theorem dX11_readAtom_301 : decode cX11_readAtom 301 = .ok (.invokevirtual 154, 3) := by decide +kernel
theorem dX11_readAtom_304 : decode cX11_readAtom 304 = .ok (.istore_n 3, 1) := by decide +kernel
theorem dX11_readAtom_305 : decode cX11_readAtom 305 = .ok (.iload_n 3, 1) := by decide +kernel
theorem dX11_readAtom_306 : decode cX11_readAtom 306 = .ok (.ifCond .ne 14, 3) := by decide +kernel
theorem dX11_readAtom_309 : decode cX11_readAtom 309 = .ok (.aload_n 0, 1) := by decide +kernel
theorem dX11_readAtom_310 : decode cX11_readAtom 310 = .ok (.bipush 62, 2) := by decide +kernel
theorem dX11_readAtom_312 : decode cX11_readAtom 312 = .ok (.invokevirtual 154, 3) := by decide +kernel
theorem dX11_readAtom_315 : decode cX11_readAtom 315 = .ok (.ifCond .ne 5, 3) := by decide +kernel
theorem dX11_readAtom_318 : decode cX11_readAtom 318 = .ok (.iconst 0, 1) := by decide +kernel
theorem dX11_readAtom_319 : decode cX11_readAtom 319 = .ok (.ireturn, 1) := by decide +kernel
theorem dX11_readAtom_320 : decode cX11_readAtom 320 = .ok (.aload_n 0, 1) := by decide +kernel
theorem dX11_readAtom_321 : decode cX11_readAtom 321 = .ok (.sipush 9999, 3) := by decide +kernel
theorem dX11_readAtom_324 : decode cX11_readAtom 324 = .ok (.invokevirtual 200, 3) := by decide +kernel
theorem dX11_readAtom_327 : decode cX11_readAtom 327 = .ok (.istore 4, 2) := by decide +kernel
theorem dX11_readAtom_329 : decode cX11_readAtom 329 = .ok (.iload 4, 2) := by decide +kernel
theorem dX11_readAtom_331 : decode cX11_readAtom 331 = .ok (.ifCond .ge 5, 3) := by decide +kernel
theorem dX11_readAtom_334 : decode cX11_readAtom 334 = .ok (.iconst 0, 1) := by decide +kernel
theorem dX11_readAtom_335 : decode cX11_readAtom 335 = .ok (.ireturn, 1) := by decide +kernel
theorem dX11_readAtom_336 : decode cX11_readAtom 336 = .ok (.aload_n 0, 1) := by decide +kernel
theorem dX11_readAtom_337 : decode cX11_readAtom 337 = .ok (.iload_n 3, 1) := by decide +kernel
theorem dX11_readAtom_338 : decode cX11_readAtom 338 = .ok (.ifCond .eq 8, 3) := by decide +kernel
theorem dX11_readAtom_341 : decode cX11_readAtom 341 = .ok (.bipush 100, 2) := by decide +kernel
theorem dX11_readAtom_343 : decode cX11_readAtom 343 = .ok (.goto 6, 3) := by decide +kernel
theorem dX11_readAtom_346 : decode cX11_readAtom 346 = .ok (.sipush 200, 3) := by decide +kernel
theorem dX11_readAtom_349 : decode cX11_readAtom 349 = .ok (.iload_n 2, 1) := by decide +kernel
theorem dX11_readAtom_350 : decode cX11_readAtom 350 = .ok (.iadd, 1) := by decide +kernel
theorem dX11_readAtom_351 : decode cX11_readAtom 351 = .ok (.iload 4, 2) := by decide +kernel
theorem dX11_readAtom_353 : decode cX11_readAtom 353 = .ok (.invokevirtual 172, 3) := by decide +kernel
theorem dX11_readAtom_356 : decode cX11_readAtom 356 = .ok (.iconst 1, 1) := by decide +kernel
theorem dX11_readAtom_357 : decode cX11_readAtom 357 = .ok (.ireturn, 1) := by decide +kernel
theorem dX11_readAllOf_0 : decode cX11_readAllOf 0 = .ok (.aload_n 0, 1) := by decide +kernel
theorem dX11_readAllOf_1 : decode cX11_readAllOf 1 = .ok (.invokevirtual 169, 3) := by decide +kernel
theorem dX11_readAllOf_4 : decode cX11_readAllOf 4 = .ok (.ifCond .ne 5, 3) := by decide +kernel
theorem dX11_readAllOf_7 : decode cX11_readAllOf 7 = .ok (.iconst 0, 1) := by decide +kernel
theorem dX11_readAllOf_8 : decode cX11_readAllOf 8 = .ok (.ireturn, 1) := by decide +kernel
theorem dX11_readAllOf_9 : decode cX11_readAllOf 9 = .ok (.aload_n 0, 1) := by decide +kernel
theorem dX11_readAllOf_10 : decode cX11_readAllOf 10 = .ok (.ldc 202, 2) := by decide +kernel
theorem dX11_readAllOf_12 : decode cX11_readAllOf 12 = .ok (.invokevirtual 166, 3) := by decide +kernel
theorem dX11_readAllOf_15 : decode cX11_readAllOf 15 = .ok (.ifCond .eq 23, 3) := by decide +kernel
theorem dX11_readAllOf_18 : decode cX11_readAllOf 18 = .ok (.aload_n 0, 1) := by decide +kernel
theorem dX11_readAllOf_19 : decode cX11_readAllOf 19 = .ok (.invokevirtual 169, 3) := by decide +kernel
theorem dX11_readAllOf_22 : decode cX11_readAllOf 22 = .ok (.ifCond .ne 5, 3) := by decide +kernel
theorem dX11_readAllOf_25 : decode cX11_readAllOf 25 = .ok (.iconst 0, 1) := by decide +kernel
theorem dX11_readAllOf_26 : decode cX11_readAllOf 26 = .ok (.ireturn, 1) := by decide +kernel
theorem dX11_readAllOf_27 : decode cX11_readAllOf 27 = .ok (.aload_n 0, 1) := by decide +kernel
theorem dX11_readAllOf_28 : decode cX11_readAllOf 28 = .ok (.sipush 301, 3) := by decide +kernel
theorem dX11_readAllOf_31 : decode cX11_readAllOf 31 = .ok (.iconst 0, 1) := by decide +kernel
theorem dX11_readAllOf_32 : decode cX11_readAllOf 32 = .ok (.invokevirtual 172, 3) := by decide +kernel
theorem dX11_readAllOf_35 : decode cX11_readAllOf 35 = .ok (.goto (-26), 3) := by decide +kernel
theorem dX11_readAllOf_38 : decode cX11_readAllOf 38 = .ok (.iconst 1, 1) := by decide +kernel
theorem dX11_readAllOf_39 : decode cX11_readAllOf 39 = .ok (.ireturn, 1) := by decide +kernel
theorem dX11_readCond_0 : decode cX11_readCond 0 = .ok (.aload_n 0, 1) := by decide +kernel
theorem dX11_readCond_1 : decode cX11_readCond 1 = .ok (.invokevirtual 204, 3) := by decide +kernel
theorem dX11_readCond_4 : decode cX11_readCond 4 = .ok (.ifCond .ne 5, 3) := by decide +kernel
theorem dX11_readCond_7 : decode cX11_readCond 7 = .ok (.iconst 0, 1) := by decide +kernel
theorem dX11_readCond_8 : decode cX11_readCond 8 = .ok (.ireturn, 1) := by decide +kernel
theorem dX11_readCond_9 : decode cX11_readCond 9 = .ok (.aload_n 0, 1) := by decide +kernel
theorem dX11_readCond_10 : decode cX11_readCond 10 = .ok (.ldc 207, 2) := by decide +kernel
theorem dX11_readCond_12 : decode cX11_readCond 12 = .ok (.invokevirtual 166, 3) := by decide +kernel
theorem dX11_readCond_15 : decode cX11_readCond 15 = .ok (.ifCond .eq 23, 3) := by decide +kernel
theorem dX11_readCond_18 : decode cX11_readCond 18 = .ok (.aload_n 0, 1) := by decide +kernel
theorem dX11_readCond_19 : decode cX11_readCond 19 = .ok (.invokevirtual 204, 3) := by decide +kernel
theorem dX11_readCond_22 : decode cX11_readCond 22 = .ok (.ifCond .ne 5, 3) := by decide +kernel
theorem dX11_readCond_25 : decode cX11_readCond 25 = .ok (.iconst 0, 1) := by decide +kernel
theorem dX11_readCond_26 : decode cX11_readCond 26 = .ok (.ireturn, 1) := by decide +kernel
theorem dX11_readCond_27 : decode cX11_readCond 27 = .ok (.aload_n 0, 1) := by decide +kernel
theorem dX11_readCond_28 : decode cX11_readCond 28 = .ok (.sipush 302, 3) := by decide +kernel
theorem dX11_readCond_31 : decode cX11_readCond 31 = .ok (.iconst 0, 1) := by decide +kernel
theorem dX11_readCond_32 : decode cX11_readCond 32 = .ok (.invokevirtual 172, 3) := by decide +kernel
theorem dX11_readCond_35 : decode cX11_readCond 35 = .ok (.goto (-26), 3) := by decide +kernel
theorem dX11_readCond_38 : decode cX11_readCond 38 = .ok (.iconst 1, 1) := by decide +kernel
theorem dX11_readCond_39 : decode cX11_readCond 39 = .ok (.ireturn, 1) := by decide +kernel
theorem dX11_readLine_0 : decode cX11_readLine 0 = .ok (.aload_n 0, 1) := by decide +kernel
theorem dX11_readLine_1 : decode cX11_readLine 1 = .ok (.invokevirtual 141, 3) := by decide +kernel
theorem dX11_readLine_4 : decode cX11_readLine 4 = .ok (.iload_n 1, 1) := by decide +kernel
theorem dX11_readLine_5 : decode cX11_readLine 5 = .ok (.bipush 10, 2) := by decide +kernel
theorem dX11_readLine_7 : decode cX11_readLine 7 = .ok (.if_icmp .ne 5, 3) := by decide +kernel
theorem dX11_readLine_10 : decode cX11_readLine 10 = .ok (.iconst 0, 1) := by decide +kernel
theorem dX11_readLine_11 : decode cX11_readLine 11 = .ok (.ireturn, 1) := by decide +kernel
theorem dX11_readLine_12 : decode cX11_readLine 12 = .ok (.iconst 1, 1) := by decide +kernel
theorem dX11_readLine_13 : decode cX11_readLine 13 = .ok (.iload_n 1, 1) := by decide +kernel
theorem dX11_readLine_14 : decode cX11_readLine 14 = .ok (.invokestatic 209, 3) := by decide +kernel
theorem dX11_readLine_17 : decode cX11_readLine 17 = .ok (.istore_n 2, 1) := by decide +kernel
theorem dX11_readLine_18 : decode cX11_readLine 18 = .ok (.aload_n 0, 1) := by decide +kernel
theorem dX11_readLine_19 : decode cX11_readLine 19 = .ok (.ldc 212, 2) := by decide +kernel
theorem dX11_readLine_21 : decode cX11_readLine 21 = .ok (.invokevirtual 144, 3) := by decide +kernel
theorem dX11_readLine_24 : decode cX11_readLine 24 = .ok (.ifCond .eq 7, 3) := by decide +kernel
theorem dX11_readLine_27 : decode cX11_readLine 27 = .ok (.iconst 0, 1) := by decide +kernel
theorem dX11_readLine_28 : decode cX11_readLine 28 = .ok (.goto 43, 3) := by decide +kernel
theorem dX11_readLine_31 : decode cX11_readLine 31 = .ok (.aload_n 0, 1) := by decide +kernel
theorem dX11_readLine_32 : decode cX11_readLine 32 = .ok (.ldc 214, 2) := by decide +kernel
theorem dX11_readLine_34 : decode cX11_readLine 34 = .ok (.invokevirtual 144, 3) := by decide +kernel
theorem dX11_readLine_37 : decode cX11_readLine 37 = .ok (.ifCond .eq 7, 3) := by decide +kernel
theorem dX11_readLine_40 : decode cX11_readLine 40 = .ok (.iconst 1, 1) := by decide +kernel
theorem dX11_readLine_41 : decode cX11_readLine 41 = .ok (.goto 30, 3) := by decide +kernel
theorem dX11_readLine_44 : decode cX11_readLine 44 = .ok (.aload_n 0, 1) := by decide +kernel
theorem dX11_readLine_45 : decode cX11_readLine 45 = .ok (.ldc 216, 2) := by decide +kernel
theorem dX11_readLine_47 : decode cX11_readLine 47 = .ok (.invokevirtual 144, 3) := by decide +kernel
theorem dX11_readLine_50 : decode cX11_readLine 50 = .ok (.ifCond .eq 7, 3) := by decide +kernel
theorem dX11_readLine_53 : decode cX11_readLine 53 = .ok (.iconst 2, 1) := by decide +kernel
theorem dX11_readLine_54 : decode cX11_readLine 54 = .ok (.goto 17, 3) := by decide +kernel
theorem dX11_readLine_57 : decode cX11_readLine 57 = .ok (.aload_n 0, 1) := by decide +kernel
theorem dX11_readLine_58 : decode cX11_readLine 58 = .ok (.ldc 218, 2) := by decide +kernel
theorem dX11_readLine_60 : decode cX11_readLine 60 = .ok (.invokevirtual 144, 3) := by decide +kernel
theorem dX11_readLine_63 : decode cX11_readLine 63 = .ok (.ifCond .eq 7, 3) := by decide +kernel
theorem dX11_readLine_66 : decode cX11_readLine 66 = .ok (.iconst 3, 1) := by decide +kernel
theorem dX11_readLine_67 : decode cX11_readLine 67 = .ok (.goto 4, 3) := by decide +kernel
theorem dX11_readLine_70 : decode cX11_readLine 70 = .ok (.iconst (-1), 1) := by decide +kernel
theorem dX11_readLine_71 : decode cX11_readLine 71 = .ok (.istore_n 3, 1) := by decide +kernel
theorem dX11_readLine_72 : decode cX11_readLine 72 = .ok (.aload_n 0, 1) := by decide +kernel
theorem dX11_readLine_73 : decode cX11_readLine 73 = .ok (.getfield 20, 3) := by decide +kernel
theorem dX11_readLine_76 : decode cX11_readLine 76 = .ok (.iload_n 2, 1) := by decide +kernel
theorem dX11_readLine_77 : decode cX11_readLine 77 = .ok (.iload_n 3, 1) := by decide +kernel
theorem dX11_readLine_78 : decode cX11_readLine 78 = .ok (.iastore, 1) := by decide +kernel
theorem dX11_readLine_79 : decode cX11_readLine 79 = .ok (.aload_n 0, 1) := by decide +kernel
theorem dX11_readLine_80 : decode cX11_readLine 80 = .ok (.getfield 20, 3) := by decide +kernel
theorem dX11_readLine_83 : decode cX11_readLine 83 = .ok (.iload_n 2, 1) := by decide +kernel
theorem dX11_readLine_84 : decode cX11_readLine 84 = .ok (.iconst 1, 1) := by decide +kernel
theorem dX11_readLine_85 : decode cX11_readLine 85 = .ok (.iadd, 1) := by decide +kernel
theorem dX11_readLine_86 : decode cX11_readLine 86 = .ok (.iconst 0, 1) := by decide +kernel
theorem dX11_readLine_87 : decode cX11_readLine 87 = .ok (.iastore, 1) := by decide +kernel
theorem dX11_readLine_88 : decode cX11_readLine 88 = .ok (.aload_n 0, 1) := by decide +kernel
theorem dX11_readLine_89 : decode cX11_readLine 89 = .ok (.getfield 20, 3) := by decide +kernel
theorem dX11_readLine_92 : decode cX11_readLine 92 = .ok (.iload_n 2, 1) := by decide +kernel
theorem dX11_readLine_93 : decode cX11_readLine 93 = .ok (.iconst 2, 1) := by decide +kernel
theorem dX11_readLine_94 : decode cX11_readLine 94 = .ok (.iadd, 1) := by decide +kernel
theorem dX11_readLine_95 : decode cX11_readLine 95 = .ok (.aload_n 0, 1) := by decide +kernel
theorem dX11_readLine_96 : decode cX11_readLine 96 = .ok (.getfield 151, 3) := by decide +kernel
theorem dX11_readLine_99 : decode cX11_readLine 99 = .ok (.iastore, 1) := by decide +kernel
theorem dX11_readLine_100 : decode cX11_readLine 100 = .ok (.aload_n 0, 1) := by decide +kernel
theorem dX11_readLine_101 : decode cX11_readLine 101 = .ok (.getfield 20, 3) := by decide +kernel
theorem dX11_readLine_104 : decode cX11_readLine 104 = .ok (.iload_n 2, 1) := by decide +kernel
theorem dX11_readLine_105 : decode cX11_readLine 105 = .ok (.iconst 3, 1) := by decide +kernel
theorem dX11_readLine_106 : decode cX11_readLine 106 = .ok (.iadd, 1) := by decide +kernel
theorem dX11_readLine_107 : decode cX11_readLine 107 = .ok (.aload_n 0, 1) := by decide +kernel
theorem dX11_readLine_108 : decode cX11_readLine 108 = .ok (.getfield 151, 3) := by decide +kernel
theorem dX11_readLine_111 : decode cX11_readLine 111 = .ok (.iastore, 1) := by decide +kernel
theorem dX11_readLine_112 : decode cX11_readLine 112 = .ok (.iload_n 3, 1) := by decide +kernel
theorem dX11_readLine_113 : decode cX11_readLine 113 = .ok (.ifCond .ge 5, 3) := by decide +kernel
theorem dX11_readLine_116 : decode cX11_readLine 116 = .ok (.iconst 0, 1) := by decide +kernel
theorem dX11_readLine_117 : decode cX11_readLine 117 = .ok (.ireturn, 1) := by decide +kernel
theorem dX11_readLine_118 : decode cX11_readLine 118 = .ok (.iload_n 3, 1) := by decide +kernel
theorem dX11_readLine_119 : decode cX11_readLine 119 = .ok (.ifCond .eq 8, 3) := by decide +kernel
theorem dX11_readLine_122 : decode cX11_readLine 122 = .ok (.iload_n 3, 1) := by decide +kernel
theorem dX11_readLine_123 : decode cX11_readLine 123 = .ok (.iconst 2, 1) := by decide +kernel
theorem dX11_readLine_124 : decode cX11_readLine 124 = .ok (.if_icmp .ne 41, 3) := by decide +kernel
theorem dX11_readLine_127 : decode cX11_readLine 127 = .ok (.aload_n 0, 1) := by decide +kernel
theorem dX11_readLine_128 : decode cX11_readLine 128 = .ok (.getfield 20, 3) := by decide +kernel
theorem dX11_readLine_131 : decode cX11_readLine 131 = .ok (.iload_n 2, 1) := by decide +kernel
theorem dX11_readLine_132 : decode cX11_readLine 132 = .ok (.iconst 1, 1) := by decide +kernel
theorem dX11_readLine_133 : decode cX11_readLine 133 = .ok (.iadd, 1) := by decide +kernel
theorem dX11_readLine_134 : decode cX11_readLine 134 = .ok (.aload_n 0, 1) := by decide +kernel
theorem dX11_readLine_135 : decode cX11_readLine 135 = .ok (.iload_n 3, 1) := by decide +kernel
theorem dX11_readLine_136 : decode cX11_readLine 136 = .ok (.iconst 2, 1) := by decide +kernel
theorem dX11_readLine_137 : decode cX11_readLine 137 = .ok (.if_icmp .ne 8, 3) := by decide +kernel
theorem dX11_readLine_140 : decode cX11_readLine 140 = .ok (.bipush 100, 2) := by decide +kernel
theorem dX11_readLine_142 : decode cX11_readLine 142 = .ok (.goto 6, 3) := by decide +kernel
theorem dX11_readLine_145 : decode cX11_readLine 145 = .ok (.sipush 9999, 3) := by decide +kernel
theorem dX11_readLine_148 : decode cX11_readLine 148 = .ok (.invokevirtual 200, 3) := by decide +kernel
theorem dX11_readLine_151 : decode cX11_readLine 151 = .ok (.iastore, 1) := by decide +kernel
theorem dX11_readLine_152 : decode cX11_readLine 152 = .ok (.aload_n 0, 1) := by decide +kernel
theorem dX11_readLine_153 : decode cX11_readLine 153 = .ok (.getfield 20, 3) := by decide +kernel
theorem dX11_readLine_156 : decode cX11_readLine 156 = .ok (.iload_n 2, 1) := by decide +kernel
theorem dX11_readLine_157 : decode cX11_readLine 157 = .ok (.iconst 1, 1) := by decide +kernel
theorem dX11_readLine_158 : decode cX11_readLine 158 = .ok (.iadd, 1) := by decide +kernel
theorem dX11_readLine_159 : decode cX11_readLine 159 = .ok (.iaload, 1) := by decide +kernel
theorem dX11_readLine_160 : decode cX11_readLine 160 = .ok (.ifCond .ge 5, 3) := by decide +kernel
theorem dX11_readLine_163 : decode cX11_readLine 163 = .ok (.iconst 0, 1) := by decide +kernel
theorem dX11_readLine_164 : decode cX11_readLine 164 = .ok (.ireturn, 1) := by decide +kernel
theorem dX11_readLine_165 : decode cX11_readLine 165 = .ok (.iload_n 3, 1) := by decide +kernel
theorem dX11_readLine_166 : decode cX11_readLine 166 = .ok (.iconst 2, 1) := by decide +kernel
theorem dX11_readLine_167 : decode cX11_readLine 167 = .ok (.if_icmp .ne 5, 3) := by decide +kernel
theorem dX11_readLine_170 : decode cX11_readLine 170 = .ok (.iconst 1, 1) := by decide +kernel
theorem dX11_readLine_171 : decode cX11_readLine 171 = .ok (.ireturn, 1) := by decide +kernel
theorem dX11_readLine_172 : decode cX11_readLine 172 = .ok (.aload_n 0, 1) := by decide +kernel
theorem dX11_readLine_173 : decode cX11_readLine 173 = .ok (.ldc 220, 2) := by decide +kernel
theorem dX11_readLine_175 : decode cX11_readLine 175 = .ok (.invokevirtual 166, 3) := by decide +kernel
theorem dX11_readLine_178 : decode cX11_readLine 178 = .ok (.ifCond .eq 29, 3) := by decide +kernel
theorem dX11_readLine_181 : decode cX11_readLine 181 = .ok (.aload_n 0, 1) := by decide +kernel
theorem dX11_readLine_182 : decode cX11_readLine 182 = .ok (.iconst 0, 1) := by decide +kernel
theorem dX11_readLine_183 : decode cX11_readLine 183 = .ok (.putfield 157, 3) := by decide +kernel
theorem dX11_readLine_186 : decode cX11_readLine 186 = .ok (.aload_n 0, 1) := by decide +kernel
theorem dX11_readLine_187 : decode cX11_readLine 187 = .ok (.invokevirtual 160, 3) := by decide +kernel
theorem dX11_readLine_190 : decode cX11_readLine 190 = .ok (.ifCond .ne 5, 3) := by decide +kernel
theorem dX11_readLine_193 : decode cX11_readLine 193 = .ok (.iconst 0, 1) := by decide +kernel
theorem dX11_readLine_194 : decode cX11_readLine 194 = .ok (.ireturn, 1) := by decide +kernel
theorem dX11_readLine_195 : decode cX11_readLine 195 = .ok (.aload_n 0, 1) := by decide +kernel
theorem dX11_readLine_196 : decode cX11_readLine 196 = .ok (.getfield 20, 3) := by decide +kernel
theorem dX11_readLine_199 : decode cX11_readLine 199 = .ok (.iload_n 2, 1) := by decide +kernel
theorem dX11_readLine_200 : decode cX11_readLine 200 = .ok (.iconst 3, 1) := by decide +kernel
theorem dX11_readLine_201 : decode cX11_readLine 201 = .ok (.iadd, 1) := by decide +kernel
theorem dX11_readLine_202 : decode cX11_readLine 202 = .ok (.aload_n 0, 1) := by decide +kernel
theorem dX11_readLine_203 : decode cX11_readLine 203 = .ok (.getfield 151, 3) := by decide +kernel
theorem dX11_readLine_206 : decode cX11_readLine 206 = .ok (.iastore, 1) := by decide +kernel
theorem dX11_readLine_207 : decode cX11_readLine 207 = .ok (.iconst 1, 1) := by decide +kernel
theorem dX11_readLine_208 : decode cX11_readLine 208 = .ok (.ireturn, 1) := by decide +kernel
theorem dX11_readAll_0 : decode cX11_readAll 0 = .ok (.aload_n 0, 1) := by decide +kernel
theorem dX11_readAll_1 : decode cX11_readAll 1 = .ok (.iconst 0, 1) := by decide +kernel
theorem dX11_readAll_2 : decode cX11_readAll 2 = .ok (.putfield 151, 3) := by decide +kernel
theorem dX11_readAll_5 : decode cX11_readAll 5 = .ok (.aload_n 0, 1) := by decide +kernel
theorem dX11_readAll_6 : decode cX11_readAll 6 = .ok (.invokevirtual 129, 3) := by decide +kernel
theorem dX11_readAll_9 : decode cX11_readAll 9 = .ok (.aload_n 0, 1) := by decide +kernel
theorem dX11_readAll_10 : decode cX11_readAll 10 = .ok (.getfield 119, 3) := by decide +kernel
theorem dX11_readAll_13 : decode cX11_readAll 13 = .ok (.aload_n 0, 1) := by decide +kernel
theorem dX11_readAll_14 : decode cX11_readAll 14 = .ok (.getfield 116, 3) := by decide +kernel
theorem dX11_readAll_17 : decode cX11_readAll 17 = .ok (.if_icmp .ne 5, 3) := by decide +kernel
theorem dX11_readAll_20 : decode cX11_readAll 20 = .ok (.iconst 0, 1) := by decide +kernel
theorem dX11_readAll_21 : decode cX11_readAll 21 = .ok (.ireturn, 1) := by decide +kernel
theorem dX11_readAll_22 : decode cX11_readAll 22 = .ok (.iconst 0, 1) := by decide +kernel
theorem dX11_readAll_23 : decode cX11_readAll 23 = .ok (.istore_n 1, 1) := by decide +kernel
theorem dX11_readAll_24 : decode cX11_readAll 24 = .ok (.aload_n 0, 1) := by decide +kernel
theorem dX11_readAll_25 : decode cX11_readAll 25 = .ok (.iload_n 1, 1) := by decide +kernel
theorem dX11_readAll_26 : decode cX11_readAll 26 = .ok (.invokevirtual 222, 3) := by decide +kernel
theorem dX11_readAll_29 : decode cX11_readAll 29 = .ok (.ifCond .ne 5, 3) := by decide +kernel
theorem dX11_readAll_32 : decode cX11_readAll 32 = .ok (.iconst (-1), 1) := by decide +kernel
theorem dX11_readAll_33 : decode cX11_readAll 33 = .ok (.ireturn, 1) := by decide +kernel
theorem dX11_readAll_34 : decode cX11_readAll 34 = .ok (.aload_n 0, 1) := by decide +kernel
theorem dX11_readAll_35 : decode cX11_readAll 35 = .ok (.invokevirtual 129, 3) := by decide +kernel
theorem dX11_readAll_38 : decode cX11_readAll 38 = .ok (.aload_n 0, 1) := by decide +kernel
theorem dX11_readAll_39 : decode cX11_readAll 39 = .ok (.getfield 119, 3) := by decide +kernel
theorem dX11_readAll_42 : decode cX11_readAll 42 = .ok (.aload_n 0, 1) := by decide +kernel
theorem dX11_readAll_43 : decode cX11_readAll 43 = .ok (.getfield 116, 3) := by decide +kernel
theorem dX11_readAll_46 : decode cX11_readAll 46 = .ok (.if_icmp .ne 7, 3) := by decide +kernel
theorem dX11_readAll_49 : decode cX11_readAll 49 = .ok (.iload_n 1, 1) := by decide +kernel
theorem dX11_readAll_50 : decode cX11_readAll 50 = .ok (.iconst 1, 1) := by decide +kernel
theorem dX11_readAll_51 : decode cX11_readAll 51 = .ok (.iadd, 1) := by decide +kernel
theorem dX11_readAll_52 : decode cX11_readAll 52 = .ok (.ireturn, 1) := by decide +kernel
theorem dX11_readAll_53 : decode cX11_readAll 53 = .ok (.aload_n 0, 1) := by decide +kernel
theorem dX11_readAll_54 : decode cX11_readAll 54 = .ok (.bipush 59, 2) := by decide +kernel
theorem dX11_readAll_56 : decode cX11_readAll 56 = .ok (.bipush 59, 2) := by decide +kernel
theorem dX11_readAll_58 : decode cX11_readAll 58 = .ok (.invokevirtual 122, 3) := by decide +kernel
theorem dX11_readAll_61 : decode cX11_readAll 61 = .ok (.ifCond .ne 5, 3) := by decide +kernel
theorem dX11_readAll_64 : decode cX11_readAll 64 = .ok (.iconst (-1), 1) := by decide +kernel
theorem dX11_readAll_65 : decode cX11_readAll 65 = .ok (.ireturn, 1) := by decide +kernel
theorem dX11_readAll_66 : decode cX11_readAll 66 = .ok (.aload_n 0, 1) := by decide +kernel
theorem dX11_readAll_67 : decode cX11_readAll 67 = .ok (.dup, 1) := by decide +kernel
theorem dX11_readAll_68 : decode cX11_readAll 68 = .ok (.getfield 119, 3) := by decide +kernel
theorem dX11_readAll_71 : decode cX11_readAll 71 = .ok (.iconst 1, 1) := by decide +kernel
theorem dX11_readAll_72 : decode cX11_readAll 72 = .ok (.iadd, 1) := by decide +kernel
theorem dX11_readAll_73 : decode cX11_readAll 73 = .ok (.putfield 119, 3) := by decide +kernel
theorem dX11_readAll_76 : decode cX11_readAll 76 = .ok (.iinc 1 1, 3) := by decide +kernel
theorem dX11_readAll_79 : decode cX11_readAll 79 = .ok (.goto (-55), 3) := by decide +kernel
theorem dX11_reads_0 : decode cX11_reads 0 = .ok (.aload_n 0, 1) := by decide +kernel
theorem dX11_reads_1 : decode cX11_reads 1 = .ok (.invokevirtual 225, 3) := by decide +kernel
theorem dX11_reads_4 : decode cX11_reads 4 = .ok (.istore_n 1, 1) := by decide +kernel
theorem dX11_reads_5 : decode cX11_reads 5 = .ok (.aload_n 0, 1) := by decide +kernel
theorem dX11_reads_6 : decode cX11_reads 6 = .ok (.iload_n 1, 1) := by decide +kernel
theorem dX11_reads_7 : decode cX11_reads 7 = .ok (.ifCond .ge 10, 3) := by decide +kernel
theorem dX11_reads_10 : decode cX11_reads 10 = .ok (.aload_n 0, 1) := by decide +kernel
theorem dX11_reads_11 : decode cX11_reads 11 = .ok (.getfield 126, 3) := by decide +kernel
theorem dX11_reads_14 : decode cX11_reads 14 = .ok (.goto 4, 3) := by decide +kernel
theorem dX11_reads_17 : decode cX11_reads 17 = .ok (.iconst (-1), 1) := by decide +kernel
theorem dX11_reads_18 : decode cX11_reads 18 = .ok (.putfield 30, 3) := by decide +kernel
theorem dX11_reads_21 : decode cX11_reads 21 = .ok (.aload_n 0, 1) := by decide +kernel
theorem dX11_reads_22 : decode cX11_reads 22 = .ok (.getfield 20, 3) := by decide +kernel
theorem dX11_reads_25 : decode cX11_reads 25 = .ok (.iconst 1, 1) := by decide +kernel
theorem dX11_reads_26 : decode cX11_reads 26 = .ok (.invokestatic 148, 3) := by decide +kernel
theorem dX11_reads_29 : decode cX11_reads 29 = .ok (.iconst 0, 1) := by decide +kernel
theorem dX11_reads_30 : decode cX11_reads 30 = .ok (.iload_n 1, 1) := by decide +kernel
theorem dX11_reads_31 : decode cX11_reads 31 = .ok (.invokestatic 228, 3) := by decide +kernel
theorem dX11_reads_34 : decode cX11_reads 34 = .ok (.iastore, 1) := by decide +kernel
theorem dX11_reads_35 : decode cX11_reads 35 = .ok (.iload_n 1, 1) := by decide +kernel
theorem dX11_reads_36 : decode cX11_reads 36 = .ok (.ifCond .lt 7, 3) := by decide +kernel
theorem dX11_reads_39 : decode cX11_reads 39 = .ok (.iconst 1, 1) := by decide +kernel
theorem dX11_reads_40 : decode cX11_reads 40 = .ok (.goto 4, 3) := by decide +kernel
theorem dX11_reads_43 : decode cX11_reads 43 = .ok (.iconst 0, 1) := by decide +kernel
theorem dX11_reads_44 : decode cX11_reads 44 = .ok (.ireturn, 1) := by decide +kernel
theorem dX11_rules_0 : decode cX11_rules 0 = .ok (.aload_n 0, 1) := by decide +kernel
theorem dX11_rules_1 : decode cX11_rules 1 = .ok (.invokevirtual 231, 3) := by decide +kernel
theorem dX11_rules_4 : decode cX11_rules 4 = .ok (.aload_n 0, 1) := by decide +kernel
theorem dX11_rules_5 : decode cX11_rules 5 = .ok (.aload_n 0, 1) := by decide +kernel
theorem dX11_rules_6 : decode cX11_rules 6 = .ok (.invokevirtual 234, 3) := by decide +kernel
theorem dX11_rules_9 : decode cX11_rules 9 = .ok (.ifCond .ne 7, 3) := by decide +kernel
theorem dX11_rules_12 : decode cX11_rules 12 = .ok (.iconst 1, 1) := by decide +kernel
theorem dX11_rules_13 : decode cX11_rules 13 = .ok (.goto 4, 3) := by decide +kernel
theorem dX11_rules_16 : decode cX11_rules 16 = .ok (.iconst 0, 1) := by decide +kernel
theorem dX11_rules_17 : decode cX11_rules 17 = .ok (.iconst 1, 1) := by decide +kernel
theorem dX11_rules_18 : decode cX11_rules 18 = .ok (.invokevirtual 93, 3) := by decide +kernel
theorem dX11_rules_21 : decode cX11_rules 21 = .ok (.ifCond .ne 23, 3) := by decide +kernel
theorem dX11_rules_24 : decode cX11_rules 24 = .ok (.aload_n 0, 1) := by decide +kernel
theorem dX11_rules_25 : decode cX11_rules 25 = .ok (.aload_n 0, 1) := by decide +kernel
theorem dX11_rules_26 : decode cX11_rules 26 = .ok (.invokevirtual 97, 3) := by decide +kernel
theorem dX11_rules_29 : decode cX11_rules 29 = .ok (.ifCond .le 7, 3) := by decide +kernel
theorem dX11_rules_32 : decode cX11_rules 32 = .ok (.iconst 1, 1) := by decide +kernel
theorem dX11_rules_33 : decode cX11_rules 33 = .ok (.goto 4, 3) := by decide +kernel
theorem dX11_rules_36 : decode cX11_rules 36 = .ok (.iconst 0, 1) := by decide +kernel
theorem dX11_rules_37 : decode cX11_rules 37 = .ok (.iconst 2, 1) := by decide +kernel
theorem dX11_rules_38 : decode cX11_rules 38 = .ok (.invokevirtual 93, 3) := by decide +kernel
theorem dX11_rules_41 : decode cX11_rules 41 = .ok (.ifCond .eq 5, 3) := by decide +kernel
theorem dX11_rules_44 : decode cX11_rules 44 = .ok (.iconst 0, 1) := by decide +kernel
theorem dX11_rules_45 : decode cX11_rules 45 = .ok (.ireturn, 1) := by decide +kernel
theorem dX11_rules_46 : decode cX11_rules 46 = .ok (.iconst 0, 1) := by decide +kernel
theorem dX11_rules_47 : decode cX11_rules 47 = .ok (.istore_n 1, 1) := by decide +kernel
theorem dX11_rules_48 : decode cX11_rules 48 = .ok (.iload_n 1, 1) := by decide +kernel
theorem dX11_rules_49 : decode cX11_rules 49 = .ok (.sipush 841, 3) := by decide +kernel
theorem dX11_rules_52 : decode cX11_rules 52 = .ok (.if_icmp .ge 31, 3) := by decide +kernel
theorem dX11_rules_55 : decode cX11_rules 55 = .ok (.aload_n 0, 1) := by decide +kernel
theorem dX11_rules_56 : decode cX11_rules 56 = .ok (.getfield 20, 3) := by decide +kernel
theorem dX11_rules_59 : decode cX11_rules 59 = .ok (.iconst 0, 1) := by decide +kernel
theorem dX11_rules_60 : decode cX11_rules 60 = .ok (.invokestatic 148, 3) := by decide +kernel
theorem dX11_rules_63 : decode cX11_rules 63 = .ok (.iload_n 1, 1) := by decide +kernel
theorem dX11_rules_64 : decode cX11_rules 64 = .ok (.iadd, 1) := by decide +kernel
theorem dX11_rules_65 : decode cX11_rules 65 = .ok (.aload_n 0, 1) := by decide +kernel
theorem dX11_rules_66 : decode cX11_rules 66 = .ok (.getfield 20, 3) := by decide +kernel
theorem dX11_rules_69 : decode cX11_rules 69 = .ok (.iconst 1, 1) := by decide +kernel
theorem dX11_rules_70 : decode cX11_rules 70 = .ok (.invokestatic 148, 3) := by decide +kernel
theorem dX11_rules_73 : decode cX11_rules 73 = .ok (.iload_n 1, 1) := by decide +kernel
theorem dX11_rules_74 : decode cX11_rules 74 = .ok (.iadd, 1) := by decide +kernel
theorem dX11_rules_75 : decode cX11_rules 75 = .ok (.iaload, 1) := by decide +kernel
theorem dX11_rules_76 : decode cX11_rules 76 = .ok (.iastore, 1) := by decide +kernel
theorem dX11_rules_77 : decode cX11_rules 77 = .ok (.iinc 1 1, 3) := by decide +kernel
theorem dX11_rules_80 : decode cX11_rules 80 = .ok (.goto (-32), 3) := by decide +kernel
theorem dX11_rules_83 : decode cX11_rules 83 = .ok (.aload_n 0, 1) := by decide +kernel
theorem dX11_rules_84 : decode cX11_rules 84 = .ok (.getfield 20, 3) := by decide +kernel
theorem dX11_rules_87 : decode cX11_rules 87 = .ok (.iconst 0, 1) := by decide +kernel
theorem dX11_rules_88 : decode cX11_rules 88 = .ok (.invokestatic 148, 3) := by decide +kernel
theorem dX11_rules_91 : decode cX11_rules 91 = .ok (.iaload, 1) := by decide +kernel
theorem dX11_rules_92 : decode cX11_rules 92 = .ok (.ireturn, 1) := by decide +kernel
theorem dX11_haveOf_0 : decode cX11_haveOf 0 = .ok (.iconst 0, 1) := by decide +kernel
theorem dX11_haveOf_1 : decode cX11_haveOf 1 = .ok (.istore_n 2, 1) := by decide +kernel
theorem dX11_haveOf_2 : decode cX11_haveOf 2 = .ok (.iconst 0, 1) := by decide +kernel
theorem dX11_haveOf_3 : decode cX11_haveOf 3 = .ok (.istore_n 3, 1) := by decide +kernel
theorem dX11_haveOf_4 : decode cX11_haveOf 4 = .ok (.iload_n 3, 1) := by decide +kernel
theorem dX11_haveOf_5 : decode cX11_haveOf 5 = .ok (.aload_n 0, 1) := by decide +kernel
theorem dX11_haveOf_6 : decode cX11_haveOf 6 = .ok (.invokevirtual 64, 3) := by decide +kernel
theorem dX11_haveOf_9 : decode cX11_haveOf 9 = .ok (.if_icmp .ge 26, 3) := by decide +kernel
theorem dX11_haveOf_12 : decode cX11_haveOf 12 = .ok (.iload_n 2, 1) := by decide +kernel
theorem dX11_haveOf_13 : decode cX11_haveOf 13 = .ok (.aload_n 0, 1) := by decide +kernel
theorem dX11_haveOf_14 : decode cX11_haveOf 14 = .ok (.iload_n 3, 1) := by decide +kernel
theorem dX11_haveOf_15 : decode cX11_haveOf 15 = .ok (.iload_n 1, 1) := by decide +kernel
theorem dX11_haveOf_16 : decode cX11_haveOf 16 = .ok (.invokevirtual 237, 3) := by decide +kernel
theorem dX11_haveOf_19 : decode cX11_haveOf 19 = .ok (.ifCond .eq 7, 3) := by decide +kernel
theorem dX11_haveOf_22 : decode cX11_haveOf 22 = .ok (.iconst 1, 1) := by decide +kernel
theorem dX11_haveOf_23 : decode cX11_haveOf 23 = .ok (.goto 4, 3) := by decide +kernel
theorem dX11_haveOf_26 : decode cX11_haveOf 26 = .ok (.iconst 0, 1) := by decide +kernel
theorem dX11_haveOf_27 : decode cX11_haveOf 27 = .ok (.iadd, 1) := by decide +kernel
theorem dX11_haveOf_28 : decode cX11_haveOf 28 = .ok (.istore_n 2, 1) := by decide +kernel
theorem dX11_haveOf_29 : decode cX11_haveOf 29 = .ok (.iinc 3 1, 3) := by decide +kernel
theorem dX11_haveOf_32 : decode cX11_haveOf 32 = .ok (.goto (-28), 3) := by decide +kernel
theorem dX11_haveOf_35 : decode cX11_haveOf 35 = .ok (.iload_n 2, 1) := by decide +kernel
theorem dX11_haveOf_36 : decode cX11_haveOf 36 = .ok (.ireturn, 1) := by decide +kernel
theorem dX11_looksAt_0 : decode cX11_looksAt 0 = .ok (.iconst 0, 1) := by decide +kernel
theorem dX11_looksAt_1 : decode cX11_looksAt 1 = .ok (.istore_n 3, 1) := by decide +kernel
theorem dX11_looksAt_2 : decode cX11_looksAt 2 = .ok (.iload_n 3, 1) := by decide +kernel
theorem dX11_looksAt_3 : decode cX11_looksAt 3 = .ok (.bipush 7, 2) := by decide +kernel
theorem dX11_looksAt_5 : decode cX11_looksAt 5 = .ok (.if_icmp .ge 30, 3) := by decide +kernel
theorem dX11_looksAt_8 : decode cX11_looksAt 8 = .ok (.aload_n 0, 1) := by decide +kernel
theorem dX11_looksAt_9 : decode cX11_looksAt 9 = .ok (.getfield 36, 3) := by decide +kernel
theorem dX11_looksAt_12 : decode cX11_looksAt 12 = .ok (.iload_n 3, 1) := by decide +kernel
theorem dX11_looksAt_13 : decode cX11_looksAt 13 = .ok (.aload_n 0, 1) := by decide +kernel
theorem dX11_looksAt_14 : decode cX11_looksAt 14 = .ok (.iload_n 2, 1) := by decide +kernel
theorem dX11_looksAt_15 : decode cX11_looksAt 15 = .ok (.iconst 0, 1) := by decide +kernel
theorem dX11_looksAt_16 : decode cX11_looksAt 16 = .ok (.invokevirtual 240, 3) := by decide +kernel
theorem dX11_looksAt_19 : decode cX11_looksAt 19 = .ok (.iload_n 3, 1) := by decide +kernel
theorem dX11_looksAt_20 : decode cX11_looksAt 20 = .ok (.if_icmp .ne 7, 3) := by decide +kernel
theorem dX11_looksAt_23 : decode cX11_looksAt 23 = .ok (.iconst 1, 1) := by decide +kernel
theorem dX11_looksAt_24 : decode cX11_looksAt 24 = .ok (.goto 4, 3) := by decide +kernel
theorem dX11_looksAt_27 : decode cX11_looksAt 27 = .ok (.iconst 0, 1) := by decide +kernel
theorem dX11_looksAt_28 : decode cX11_looksAt 28 = .ok (.bastore, 1) := by decide +kernel
theorem dX11_looksAt_29 : decode cX11_looksAt 29 = .ok (.iinc 3 1, 3) := by decide +kernel
theorem dX11_looksAt_32 : decode cX11_looksAt 32 = .ok (.goto (-30), 3) := by decide +kernel
theorem dX11_looksAt_35 : decode cX11_looksAt 35 = .ok (.aload_n 0, 1) := by decide +kernel
theorem dX11_looksAt_36 : decode cX11_looksAt 36 = .ok (.getfield 40, 3) := by decide +kernel
theorem dX11_looksAt_39 : decode cX11_looksAt 39 = .ok (.iconst 0, 1) := by decide +kernel
theorem dX11_looksAt_40 : decode cX11_looksAt 40 = .ok (.aload_n 0, 1) := by decide +kernel
theorem dX11_looksAt_41 : decode cX11_looksAt 41 = .ok (.invokevirtual 97, 3) := by decide +kernel
theorem dX11_looksAt_44 : decode cX11_looksAt 44 = .ok (.aload_n 0, 1) := by decide +kernel
theorem dX11_looksAt_45 : decode cX11_looksAt 45 = .ok (.iload_n 2, 1) := by decide +kernel
theorem dX11_looksAt_46 : decode cX11_looksAt 46 = .ok (.iconst 2, 1) := by decide +kernel
theorem dX11_looksAt_47 : decode cX11_looksAt 47 = .ok (.invokevirtual 240, 3) := by decide +kernel
theorem dX11_looksAt_50 : decode cX11_looksAt 50 = .ok (.isub, 1) := by decide +kernel
theorem dX11_looksAt_51 : decode cX11_looksAt 51 = .ok (.iastore, 1) := by decide +kernel
theorem dX11_looksAt_52 : decode cX11_looksAt 52 = .ok (.aload_n 0, 1) := by decide +kernel
theorem dX11_looksAt_53 : decode cX11_looksAt 53 = .ok (.getfield 40, 3) := by decide +kernel
theorem dX11_looksAt_56 : decode cX11_looksAt 56 = .ok (.iconst 1, 1) := by decide +kernel
theorem dX11_looksAt_57 : decode cX11_looksAt 57 = .ok (.aload_n 0, 1) := by decide +kernel
theorem dX11_looksAt_58 : decode cX11_looksAt 58 = .ok (.getfield 13, 3) := by decide +kernel
theorem dX11_looksAt_61 : decode cX11_looksAt 61 = .ok (.iload_n 1, 1) := by decide +kernel
theorem dX11_looksAt_62 : decode cX11_looksAt 62 = .ok (.iload_n 2, 1) := by decide +kernel
theorem dX11_looksAt_63 : decode cX11_looksAt 63 = .ok (.iconst 2, 1) := by decide +kernel
theorem dX11_looksAt_64 : decode cX11_looksAt 64 = .ok (.invokestatic 85, 3) := by decide +kernel
theorem dX11_looksAt_67 : decode cX11_looksAt 67 = .ok (.iaload, 1) := by decide +kernel
theorem dX11_looksAt_68 : decode cX11_looksAt 68 = .ok (.iastore, 1) := by decide +kernel
theorem dX11_looksAt_69 : decode cX11_looksAt 69 = .ok (.aload_n 0, 1) := by decide +kernel
theorem dX11_looksAt_70 : decode cX11_looksAt 70 = .ok (.getfield 40, 3) := by decide +kernel
theorem dX11_looksAt_73 : decode cX11_looksAt 73 = .ok (.iconst 2, 1) := by decide +kernel
theorem dX11_looksAt_74 : decode cX11_looksAt 74 = .ok (.aload_n 0, 1) := by decide +kernel
theorem dX11_looksAt_75 : decode cX11_looksAt 75 = .ok (.iload_n 2, 1) := by decide +kernel
theorem dX11_looksAt_76 : decode cX11_looksAt 76 = .ok (.invokevirtual 243, 3) := by decide +kernel
theorem dX11_looksAt_79 : decode cX11_looksAt 79 = .ok (.iastore, 1) := by decide +kernel
theorem dX11_looksAt_80 : decode cX11_looksAt 80 = .ok (.aload_n 0, 1) := by decide +kernel
theorem dX11_looksAt_81 : decode cX11_looksAt 81 = .ok (.getfield 40, 3) := by decide +kernel
theorem dX11_looksAt_84 : decode cX11_looksAt 84 = .ok (.iconst 3, 1) := by decide +kernel
theorem dX11_looksAt_85 : decode cX11_looksAt 85 = .ok (.aload_n 0, 1) := by decide +kernel
theorem dX11_looksAt_86 : decode cX11_looksAt 86 = .ok (.getfield 13, 3) := by decide +kernel
theorem dX11_looksAt_89 : decode cX11_looksAt 89 = .ok (.iload_n 1, 1) := by decide +kernel
theorem dX11_looksAt_90 : decode cX11_looksAt 90 = .ok (.iconst 1, 1) := by decide +kernel
theorem dX11_looksAt_91 : decode cX11_looksAt 91 = .ok (.invokestatic 100, 3) := by decide +kernel
theorem dX11_looksAt_94 : decode cX11_looksAt 94 = .ok (.iaload, 1) := by decide +kernel
theorem dX11_looksAt_95 : decode cX11_looksAt 95 = .ok (.iastore, 1) := by decide +kernel
theorem dX11_looksAt_96 : decode cX11_looksAt 96 = .ok (.aload_n 0, 1) := by decide +kernel
theorem dX11_looksAt_97 : decode cX11_looksAt 97 = .ok (.getfield 40, 3) := by decide +kernel
theorem dX11_looksAt_100 : decode cX11_looksAt 100 = .ok (.iconst 4, 1) := by decide +kernel
theorem dX11_looksAt_101 : decode cX11_looksAt 101 = .ok (.aload_n 0, 1) := by decide +kernel
theorem dX11_looksAt_102 : decode cX11_looksAt 102 = .ok (.getfield 13, 3) := by decide +kernel
theorem dX11_looksAt_105 : decode cX11_looksAt 105 = .ok (.iload_n 1, 1) := by decide +kernel
theorem dX11_looksAt_106 : decode cX11_looksAt 106 = .ok (.iload_n 2, 1) := by decide +kernel
theorem dX11_looksAt_107 : decode cX11_looksAt 107 = .ok (.iconst 1, 1) := by decide +kernel
theorem dX11_looksAt_108 : decode cX11_looksAt 108 = .ok (.invokestatic 85, 3) := by decide +kernel
theorem dX11_looksAt_111 : decode cX11_looksAt 111 = .ok (.iaload, 1) := by decide +kernel
theorem dX11_looksAt_112 : decode cX11_looksAt 112 = .ok (.iastore, 1) := by decide +kernel
theorem dX11_looksAt_113 : decode cX11_looksAt 113 = .ok (.return_, 1) := by decide +kernel
theorem dX11_holds_0 : decode cX11_holds 0 = .ok (.aload_n 0, 1) := by decide +kernel
theorem dX11_holds_1 : decode cX11_holds 1 = .ok (.getfield 246, 3) := by decide +kernel
theorem dX11_holds_4 : decode cX11_holds 4 = .ok (.iload_n 1, 1) := by decide +kernel
theorem dX11_holds_5 : decode cX11_holds 5 = .ok (.invokestatic 209, 3) := by decide +kernel
theorem dX11_holds_8 : decode cX11_holds 8 = .ok (.istore_n 2, 1) := by decide +kernel
theorem dX11_holds_9 : decode cX11_holds 9 = .ok (.iconst 0, 1) := by decide +kernel
theorem dX11_holds_10 : decode cX11_holds 10 = .ok (.istore_n 3, 1) := by decide +kernel
theorem dX11_holds_11 : decode cX11_holds 11 = .ok (.aload_n 0, 1) := by decide +kernel
theorem dX11_holds_12 : decode cX11_holds 12 = .ok (.getfield 20, 3) := by decide +kernel
theorem dX11_holds_15 : decode cX11_holds 15 = .ok (.iload_n 2, 1) := by decide +kernel
theorem dX11_holds_16 : decode cX11_holds 16 = .ok (.iconst 2, 1) := by decide +kernel
theorem dX11_holds_17 : decode cX11_holds 17 = .ok (.iadd, 1) := by decide +kernel
theorem dX11_holds_18 : decode cX11_holds 18 = .ok (.iaload, 1) := by decide +kernel
theorem dX11_holds_19 : decode cX11_holds 19 = .ok (.istore 4, 2) := by decide +kernel
theorem dX11_holds_21 : decode cX11_holds 21 = .ok (.iload 4, 2) := by decide +kernel
theorem dX11_holds_23 : decode cX11_holds 23 = .ok (.aload_n 0, 1) := by decide +kernel
theorem dX11_holds_24 : decode cX11_holds 24 = .ok (.getfield 20, 3) := by decide +kernel
theorem dX11_holds_27 : decode cX11_holds 27 = .ok (.iload_n 2, 1) := by decide +kernel
theorem dX11_holds_28 : decode cX11_holds 28 = .ok (.iconst 3, 1) := by decide +kernel
theorem dX11_holds_29 : decode cX11_holds 29 = .ok (.iadd, 1) := by decide +kernel
theorem dX11_holds_30 : decode cX11_holds 30 = .ok (.iaload, 1) := by decide +kernel
theorem dX11_holds_31 : decode cX11_holds 31 = .ok (.if_icmp .ge 251, 3) := by decide +kernel
theorem dX11_holds_34 : decode cX11_holds 34 = .ok (.aload_n 0, 1) := by decide +kernel
theorem dX11_holds_35 : decode cX11_holds 35 = .ok (.getfield 20, 3) := by decide +kernel
theorem dX11_holds_38 : decode cX11_holds 38 = .ok (.aload_n 0, 1) := by decide +kernel
theorem dX11_holds_39 : decode cX11_holds 39 = .ok (.getfield 246, 3) := by decide +kernel
theorem dX11_holds_42 : decode cX11_holds 42 = .ok (.invokestatic 148, 3) := by decide +kernel
theorem dX11_holds_45 : decode cX11_holds 45 = .ok (.bipush 41, 2) := by decide +kernel
theorem dX11_holds_47 : decode cX11_holds 47 = .ok (.iadd, 1) := by decide +kernel
theorem dX11_holds_48 : decode cX11_holds 48 = .ok (.iconst 2, 1) := by decide +kernel
theorem dX11_holds_49 : decode cX11_holds 49 = .ok (.iload 4, 2) := by decide +kernel
theorem dX11_holds_51 : decode cX11_holds 51 = .ok (.imul, 1) := by decide +kernel
theorem dX11_holds_52 : decode cX11_holds 52 = .ok (.iadd, 1) := by decide +kernel
theorem dX11_holds_53 : decode cX11_holds 53 = .ok (.iaload, 1) := by decide +kernel
theorem dX11_holds_54 : decode cX11_holds 54 = .ok (.istore 5, 2) := by decide +kernel
theorem dX11_holds_56 : decode cX11_holds 56 = .ok (.aload_n 0, 1) := by decide +kernel
theorem dX11_holds_57 : decode cX11_holds 57 = .ok (.getfield 20, 3) := by decide +kernel
theorem dX11_holds_60 : decode cX11_holds 60 = .ok (.aload_n 0, 1) := by decide +kernel
theorem dX11_holds_61 : decode cX11_holds 61 = .ok (.getfield 246, 3) := by decide +kernel
theorem dX11_holds_64 : decode cX11_holds 64 = .ok (.invokestatic 148, 3) := by decide +kernel
theorem dX11_holds_67 : decode cX11_holds 67 = .ok (.bipush 41, 2) := by decide +kernel
theorem dX11_holds_69 : decode cX11_holds 69 = .ok (.iadd, 1) := by decide +kernel
theorem dX11_holds_70 : decode cX11_holds 70 = .ok (.iconst 2, 1) := by decide +kernel
theorem dX11_holds_71 : decode cX11_holds 71 = .ok (.iload 4, 2) := by decide +kernel
theorem dX11_holds_73 : decode cX11_holds 73 = .ok (.imul, 1) := by decide +kernel
theorem dX11_holds_74 : decode cX11_holds 74 = .ok (.iadd, 1) := by decide +kernel
theorem dX11_holds_75 : decode cX11_holds 75 = .ok (.iconst 1, 1) := by decide +kernel
theorem dX11_holds_76 : decode cX11_holds 76 = .ok (.iadd, 1) := by decide +kernel
theorem dX11_holds_77 : decode cX11_holds 77 = .ok (.iaload, 1) := by decide +kernel
theorem dX11_holds_78 : decode cX11_holds 78 = .ok (.istore 6, 2) := by decide +kernel
theorem dX11_holds_80 : decode cX11_holds 80 = .ok (.iload 5, 2) := by decide +kernel
theorem dX11_holds_82 : decode cX11_holds 82 = .ok (.sipush 300, 3) := by decide +kernel
theorem dX11_holds_85 : decode cX11_holds 85 = .ok (.if_icmp .ne 30, 3) := by decide +kernel
theorem dX11_holds_88 : decode cX11_holds 88 = .ok (.aload_n 0, 1) := by decide +kernel
theorem dX11_holds_89 : decode cX11_holds 89 = .ok (.getfield 43, 3) := by decide +kernel
theorem dX11_holds_92 : decode cX11_holds 92 = .ok (.iload_n 3, 1) := by decide +kernel
theorem dX11_holds_93 : decode cX11_holds 93 = .ok (.iconst 1, 1) := by decide +kernel
theorem dX11_holds_94 : decode cX11_holds 94 = .ok (.isub, 1) := by decide +kernel
theorem dX11_holds_95 : decode cX11_holds 95 = .ok (.aload_n 0, 1) := by decide +kernel
theorem dX11_holds_96 : decode cX11_holds 96 = .ok (.getfield 43, 3) := by decide +kernel
theorem dX11_holds_99 : decode cX11_holds 99 = .ok (.iload_n 3, 1) := by decide +kernel
theorem dX11_holds_100 : decode cX11_holds 100 = .ok (.iconst 1, 1) := by decide +kernel
theorem dX11_holds_101 : decode cX11_holds 101 = .ok (.isub, 1) := by decide +kernel
theorem dX11_holds_102 : decode cX11_holds 102 = .ok (.baload, 1) := by decide +kernel
theorem dX11_holds_103 : decode cX11_holds 103 = .ok (.ifCond .ne 7, 3) := by decide +kernel
theorem dX11_holds_106 : decode cX11_holds 106 = .ok (.iconst 1, 1) := by decide +kernel
theorem dX11_holds_107 : decode cX11_holds 107 = .ok (.goto 4, 3) := by decide +kernel
theorem dX11_holds_110 : decode cX11_holds 110 = .ok (.iconst 0, 1) := by decide +kernel
theorem dX11_holds_111 : decode cX11_holds 111 = .ok (.bastore, 1) := by decide +kernel
theorem dX11_holds_112 : decode cX11_holds 112 = .ok (.goto 164, 3) := by decide +kernel
theorem dX11_holds_115 : decode cX11_holds 115 = .ok (.iload 5, 2) := by decide +kernel
theorem dX11_holds_117 : decode cX11_holds 117 = .ok (.sipush 301, 3) := by decide +kernel
theorem dX11_holds_120 : decode cX11_holds 120 = .ok (.if_icmp .lt 78, 3) := by decide +kernel
theorem dX11_holds_123 : decode cX11_holds 123 = .ok (.iinc 3 (-1), 3) := by decide +kernel
theorem dX11_holds_126 : decode cX11_holds 126 = .ok (.aload_n 0, 1) := by decide +kernel
theorem dX11_holds_127 : decode cX11_holds 127 = .ok (.getfield 43, 3) := by decide +kernel
theorem dX11_holds_130 : decode cX11_holds 130 = .ok (.iload_n 3, 1) := by decide +kernel
theorem dX11_holds_131 : decode cX11_holds 131 = .ok (.iconst 1, 1) := by decide +kernel
theorem dX11_holds_132 : decode cX11_holds 132 = .ok (.isub, 1) := by decide +kernel
theorem dX11_holds_133 : decode cX11_holds 133 = .ok (.iload 5, 2) := by decide +kernel
theorem dX11_holds_135 : decode cX11_holds 135 = .ok (.sipush 301, 3) := by decide +kernel
theorem dX11_holds_138 : decode cX11_holds 138 = .ok (.if_icmp .ne 31, 3) := by decide +kernel
theorem dX11_holds_141 : decode cX11_holds 141 = .ok (.aload_n 0, 1) := by decide +kernel
theorem dX11_holds_142 : decode cX11_holds 142 = .ok (.getfield 43, 3) := by decide +kernel
theorem dX11_holds_145 : decode cX11_holds 145 = .ok (.iload_n 3, 1) := by decide +kernel
theorem dX11_holds_146 : decode cX11_holds 146 = .ok (.iconst 1, 1) := by decide +kernel
theorem dX11_holds_147 : decode cX11_holds 147 = .ok (.isub, 1) := by decide +kernel
theorem dX11_holds_148 : decode cX11_holds 148 = .ok (.baload, 1) := by decide +kernel
theorem dX11_holds_149 : decode cX11_holds 149 = .ok (.ifCond .eq 16, 3) := by decide +kernel
theorem dX11_holds_152 : decode cX11_holds 152 = .ok (.aload_n 0, 1) := by decide +kernel
theorem dX11_holds_153 : decode cX11_holds 153 = .ok (.getfield 43, 3) := by decide +kernel
theorem dX11_holds_156 : decode cX11_holds 156 = .ok (.iload_n 3, 1) := by decide +kernel
theorem dX11_holds_157 : decode cX11_holds 157 = .ok (.baload, 1) := by decide +kernel
theorem dX11_holds_158 : decode cX11_holds 158 = .ok (.ifCond .eq 7, 3) := by decide +kernel
theorem dX11_holds_161 : decode cX11_holds 161 = .ok (.iconst 1, 1) := by decide +kernel
theorem dX11_holds_162 : decode cX11_holds 162 = .ok (.goto 32, 3) := by decide +kernel
theorem dX11_holds_165 : decode cX11_holds 165 = .ok (.iconst 0, 1) := by decide +kernel
theorem dX11_holds_166 : decode cX11_holds 166 = .ok (.goto 28, 3) := by decide +kernel
theorem dX11_holds_169 : decode cX11_holds 169 = .ok (.aload_n 0, 1) := by decide +kernel
theorem dX11_holds_170 : decode cX11_holds 170 = .ok (.getfield 43, 3) := by decide +kernel
theorem dX11_holds_173 : decode cX11_holds 173 = .ok (.iload_n 3, 1) := by decide +kernel
theorem dX11_holds_174 : decode cX11_holds 174 = .ok (.iconst 1, 1) := by decide +kernel
theorem dX11_holds_175 : decode cX11_holds 175 = .ok (.isub, 1) := by decide +kernel
theorem dX11_holds_176 : decode cX11_holds 176 = .ok (.baload, 1) := by decide +kernel
theorem dX11_holds_177 : decode cX11_holds 177 = .ok (.ifCond .ne 12, 3) := by decide +kernel
theorem dX11_holds_180 : decode cX11_holds 180 = .ok (.aload_n 0, 1) := by decide +kernel
theorem dX11_holds_181 : decode cX11_holds 181 = .ok (.getfield 43, 3) := by decide +kernel
theorem dX11_holds_184 : decode cX11_holds 184 = .ok (.iload_n 3, 1) := by decide +kernel
theorem dX11_holds_185 : decode cX11_holds 185 = .ok (.baload, 1) := by decide +kernel
theorem dX11_holds_186 : decode cX11_holds 186 = .ok (.ifCond .eq 7, 3) := by decide +kernel
theorem dX11_holds_189 : decode cX11_holds 189 = .ok (.iconst 1, 1) := by decide +kernel
theorem dX11_holds_190 : decode cX11_holds 190 = .ok (.goto 4, 3) := by decide +kernel
theorem dX11_holds_193 : decode cX11_holds 193 = .ok (.iconst 0, 1) := by decide +kernel
theorem dX11_holds_194 : decode cX11_holds 194 = .ok (.bastore, 1) := by decide +kernel
theorem dX11_holds_195 : decode cX11_holds 195 = .ok (.goto 81, 3) := by decide +kernel
theorem dX11_holds_198 : decode cX11_holds 198 = .ok (.aload_n 0, 1) := by decide +kernel
theorem dX11_holds_199 : decode cX11_holds 199 = .ok (.getfield 43, 3) := by decide +kernel
theorem dX11_holds_202 : decode cX11_holds 202 = .ok (.iload_n 3, 1) := by decide +kernel
theorem dX11_holds_203 : decode cX11_holds 203 = .ok (.iload 5, 2) := by decide +kernel
theorem dX11_holds_205 : decode cX11_holds 205 = .ok (.bipush 7, 2) := by decide +kernel
theorem dX11_holds_207 : decode cX11_holds 207 = .ok (.if_icmp .ge 13, 3) := by decide +kernel
theorem dX11_holds_210 : decode cX11_holds 210 = .ok (.aload_n 0, 1) := by decide +kernel
theorem dX11_holds_211 : decode cX11_holds 211 = .ok (.getfield 36, 3) := by decide +kernel
theorem dX11_holds_214 : decode cX11_holds 214 = .ok (.iload 5, 2) := by decide +kernel
theorem dX11_holds_216 : decode cX11_holds 216 = .ok (.baload, 1) := by decide +kernel
theorem dX11_holds_217 : decode cX11_holds 217 = .ok (.goto 55, 3) := by decide +kernel
theorem dX11_holds_220 : decode cX11_holds 220 = .ok (.iload 5, 2) := by decide +kernel
theorem dX11_holds_222 : decode cX11_holds 222 = .ok (.sipush 200, 3) := by decide +kernel
theorem dX11_holds_225 : decode cX11_holds 225 = .ok (.if_icmp .ge 26, 3) := by decide +kernel
theorem dX11_holds_228 : decode cX11_holds 228 = .ok (.aload_n 0, 1) := by decide +kernel
theorem dX11_holds_229 : decode cX11_holds 229 = .ok (.getfield 40, 3) := by decide +kernel
theorem dX11_holds_232 : decode cX11_holds 232 = .ok (.iload 5, 2) := by decide +kernel
theorem dX11_holds_234 : decode cX11_holds 234 = .ok (.bipush 100, 2) := by decide +kernel
theorem dX11_holds_236 : decode cX11_holds 236 = .ok (.isub, 1) := by decide +kernel
theorem dX11_holds_237 : decode cX11_holds 237 = .ok (.iaload, 1) := by decide +kernel
theorem dX11_holds_238 : decode cX11_holds 238 = .ok (.iload 6, 2) := by decide +kernel
theorem dX11_holds_240 : decode cX11_holds 240 = .ok (.if_icmp .ge 7, 3) := by decide +kernel
theorem dX11_holds_243 : decode cX11_holds 243 = .ok (.iconst 1, 1) := by decide +kernel
theorem dX11_holds_244 : decode cX11_holds 244 = .ok (.goto 28, 3) := by decide +kernel
theorem dX11_holds_247 : decode cX11_holds 247 = .ok (.iconst 0, 1) := by decide +kernel
theorem dX11_holds_248 : decode cX11_holds 248 = .ok (.goto 24, 3) := by decide +kernel
theorem dX11_holds_251 : decode cX11_holds 251 = .ok (.aload_n 0, 1) := by decide +kernel
theorem dX11_holds_252 : decode cX11_holds 252 = .ok (.getfield 40, 3) := by decide +kernel
theorem dX11_holds_255 : decode cX11_holds 255 = .ok (.iload 5, 2) := by decide +kernel
theorem dX11_holds_257 : decode cX11_holds 257 = .ok (.sipush 200, 3) := by decide +kernel
theorem dX11_holds_260 : decode cX11_holds 260 = .ok (.isub, 1) := by decide +kernel
theorem dX11_holds_261 : decode cX11_holds 261 = .ok (.iaload, 1) := by decide +kernel
theorem dX11_holds_262 : decode cX11_holds 262 = .ok (.iload 6, 2) := by decide +kernel
theorem dX11_holds_264 : decode cX11_holds 264 = .ok (.if_icmp .le 7, 3) := by decide +kernel
theorem dX11_holds_267 : decode cX11_holds 267 = .ok (.iconst 1, 1) := by decide +kernel
theorem dX11_holds_268 : decode cX11_holds 268 = .ok (.goto 4, 3) := by decide +kernel
theorem dX11_holds_271 : decode cX11_holds 271 = .ok (.iconst 0, 1) := by decide +kernel
theorem dX11_holds_272 : decode cX11_holds 272 = .ok (.bastore, 1) := by decide +kernel
theorem dX11_holds_273 : decode cX11_holds 273 = .ok (.iinc 3 1, 3) := by decide +kernel
theorem dX11_holds_276 : decode cX11_holds 276 = .ok (.iinc 4 1, 3) := by decide +kernel
theorem dX11_holds_279 : decode cX11_holds 279 = .ok (.goto (-258), 3) := by decide +kernel
theorem dX11_holds_282 : decode cX11_holds 282 = .ok (.iload_n 3, 1) := by decide +kernel
theorem dX11_holds_283 : decode cX11_holds 283 = .ok (.ifCond .eq 12, 3) := by decide +kernel
theorem dX11_holds_286 : decode cX11_holds 286 = .ok (.aload_n 0, 1) := by decide +kernel
theorem dX11_holds_287 : decode cX11_holds 287 = .ok (.getfield 43, 3) := by decide +kernel
theorem dX11_holds_290 : decode cX11_holds 290 = .ok (.iconst 0, 1) := by decide +kernel
theorem dX11_holds_291 : decode cX11_holds 291 = .ok (.baload, 1) := by decide +kernel
theorem dX11_holds_292 : decode cX11_holds 292 = .ok (.ifCond .eq 7, 3) := by decide +kernel
theorem dX11_holds_295 : decode cX11_holds 295 = .ok (.iconst 1, 1) := by decide +kernel
theorem dX11_holds_296 : decode cX11_holds 296 = .ok (.goto 4, 3) := by decide +kernel
theorem dX11_holds_299 : decode cX11_holds 299 = .ok (.iconst 0, 1) := by decide +kernel
theorem dX11_holds_300 : decode cX11_holds 300 = .ok (.ireturn, 1) := by decide +kernel
theorem dX11_lines_0 : decode cX11_lines 0 = .ok (.aload_n 0, 1) := by decide +kernel
theorem dX11_lines_1 : decode cX11_lines 1 = .ok (.getfield 20, 3) := by decide +kernel
theorem dX11_lines_4 : decode cX11_lines 4 = .ok (.aload_n 0, 1) := by decide +kernel
theorem dX11_lines_5 : decode cX11_lines 5 = .ok (.getfield 246, 3) := by decide +kernel
theorem dX11_lines_8 : decode cX11_lines 8 = .ok (.invokestatic 148, 3) := by decide +kernel
theorem dX11_lines_11 : decode cX11_lines 11 = .ok (.iaload, 1) := by decide +kernel
theorem dX11_lines_12 : decode cX11_lines 12 = .ok (.ireturn, 1) := by decide +kernel
theorem dX11_markOf_0 : decode cX11_markOf 0 = .ok (.aload_n 0, 1) := by decide +kernel
theorem dX11_markOf_1 : decode cX11_markOf 1 = .ok (.iload_n 1, 1) := by decide +kernel
theorem dX11_markOf_2 : decode cX11_markOf 2 = .ok (.iload_n 2, 1) := by decide +kernel
theorem dX11_markOf_3 : decode cX11_markOf 3 = .ok (.invokevirtual 249, 3) := by decide +kernel
theorem dX11_markOf_6 : decode cX11_markOf 6 = .ok (.iconst 0, 1) := by decide +kernel
theorem dX11_markOf_7 : decode cX11_markOf 7 = .ok (.istore_n 3, 1) := by decide +kernel
theorem dX11_markOf_8 : decode cX11_markOf 8 = .ok (.iconst 0, 1) := by decide +kernel
theorem dX11_markOf_9 : decode cX11_markOf 9 = .ok (.istore 4, 2) := by decide +kernel
theorem dX11_markOf_11 : decode cX11_markOf 11 = .ok (.iload 4, 2) := by decide +kernel
theorem dX11_markOf_13 : decode cX11_markOf 13 = .ok (.aload_n 0, 1) := by decide +kernel
theorem dX11_markOf_14 : decode cX11_markOf 14 = .ok (.invokevirtual 252, 3) := by decide +kernel
theorem dX11_markOf_17 : decode cX11_markOf 17 = .ok (.if_icmp .ge 54, 3) := by decide +kernel
theorem dX11_markOf_20 : decode cX11_markOf 20 = .ok (.aload_n 0, 1) := by decide +kernel
theorem dX11_markOf_21 : decode cX11_markOf 21 = .ok (.getfield 20, 3) := by decide +kernel
theorem dX11_markOf_24 : decode cX11_markOf 24 = .ok (.aload_n 0, 1) := by decide +kernel
theorem dX11_markOf_25 : decode cX11_markOf 25 = .ok (.getfield 246, 3) := by decide +kernel
theorem dX11_markOf_28 : decode cX11_markOf 28 = .ok (.iload 4, 2) := by decide +kernel
theorem dX11_markOf_30 : decode cX11_markOf 30 = .ok (.invokestatic 209, 3) := by decide +kernel
theorem dX11_markOf_33 : decode cX11_markOf 33 = .ok (.iaload, 1) := by decide +kernel
theorem dX11_markOf_34 : decode cX11_markOf 34 = .ok (.ifCond .ne 31, 3) := by decide +kernel
theorem dX11_markOf_37 : decode cX11_markOf 37 = .ok (.aload_n 0, 1) := by decide +kernel
theorem dX11_markOf_38 : decode cX11_markOf 38 = .ok (.iload 4, 2) := by decide +kernel
theorem dX11_markOf_40 : decode cX11_markOf 40 = .ok (.invokevirtual 255, 3) := by decide +kernel
theorem dX11_markOf_43 : decode cX11_markOf 43 = .ok (.ifCond .eq 22, 3) := by decide +kernel
theorem dX11_markOf_46 : decode cX11_markOf 46 = .ok (.iload_n 3, 1) := by decide +kernel
theorem dX11_markOf_47 : decode cX11_markOf 47 = .ok (.aload_n 0, 1) := by decide +kernel
theorem dX11_markOf_48 : decode cX11_markOf 48 = .ok (.getfield 20, 3) := by decide +kernel
theorem dX11_markOf_51 : decode cX11_markOf 51 = .ok (.aload_n 0, 1) := by decide +kernel
theorem dX11_markOf_52 : decode cX11_markOf 52 = .ok (.getfield 246, 3) := by decide +kernel
theorem dX11_markOf_55 : decode cX11_markOf 55 = .ok (.iload 4, 2) := by decide +kernel
theorem dX11_markOf_57 : decode cX11_markOf 57 = .ok (.invokestatic 209, 3) := by decide +kernel
theorem dX11_markOf_60 : decode cX11_markOf 60 = .ok (.iconst 1, 1) := by decide +kernel
theorem dX11_markOf_61 : decode cX11_markOf 61 = .ok (.iadd, 1) := by decide +kernel
theorem dX11_markOf_62 : decode cX11_markOf 62 = .ok (.iaload, 1) := by decide +kernel
theorem dX11_markOf_63 : decode cX11_markOf 63 = .ok (.iadd, 1) := by decide +kernel
theorem dX11_markOf_64 : decode cX11_markOf 64 = .ok (.istore_n 3, 1) := by decide +kernel
theorem dX11_markOf_65 : decode cX11_markOf 65 = .ok (.iinc 4 1, 3) := by decide +kernel
theorem dX11_markOf_68 : decode cX11_markOf 68 = .ok (.goto (-57), 3) := by decide +kernel
theorem dX11_markOf_71 : decode cX11_markOf 71 = .ok (.iload_n 3, 1) := by decide +kernel
theorem dX11_markOf_72 : decode cX11_markOf 72 = .ok (.ireturn, 1) := by decide +kernel
theorem dX11_mayPass_0 : decode cX11_mayPass 0 = .ok (.aload_n 0, 1) := by decide +kernel
theorem dX11_mayPass_1 : decode cX11_mayPass 1 = .ok (.getfield 13, 3) := by decide +kernel
theorem dX11_mayPass_4 : decode cX11_mayPass 4 = .ok (.iload_n 1, 1) := by decide +kernel
theorem dX11_mayPass_5 : decode cX11_mayPass 5 = .ok (.iload_n 2, 1) := by decide +kernel
theorem dX11_mayPass_6 : decode cX11_mayPass 6 = .ok (.iconst 2, 1) := by decide +kernel
theorem dX11_mayPass_7 : decode cX11_mayPass 7 = .ok (.invokestatic 85, 3) := by decide +kernel
theorem dX11_mayPass_10 : decode cX11_mayPass 10 = .ok (.iaload, 1) := by decide +kernel
theorem dX11_mayPass_11 : decode cX11_mayPass 11 = .ok (.bipush 12, 2) := by decide +kernel
theorem dX11_mayPass_13 : decode cX11_mayPass 13 = .ok (.if_icmp .lt 5, 3) := by decide +kernel
theorem dX11_mayPass_16 : decode cX11_mayPass 16 = .ok (.iconst 0, 1) := by decide +kernel
theorem dX11_mayPass_17 : decode cX11_mayPass 17 = .ok (.ireturn, 1) := by decide +kernel
theorem dX11_mayPass_18 : decode cX11_mayPass 18 = .ok (.aload_n 0, 1) := by decide +kernel
theorem dX11_mayPass_19 : decode cX11_mayPass 19 = .ok (.iload_n 1, 1) := by decide +kernel
theorem dX11_mayPass_20 : decode cX11_mayPass 20 = .ok (.iload_n 2, 1) := by decide +kernel
theorem dX11_mayPass_21 : decode cX11_mayPass 21 = .ok (.invokevirtual 249, 3) := by decide +kernel
theorem dX11_mayPass_24 : decode cX11_mayPass 24 = .ok (.iconst 0, 1) := by decide +kernel
theorem dX11_mayPass_25 : decode cX11_mayPass 25 = .ok (.istore_n 3, 1) := by decide +kernel
theorem dX11_mayPass_26 : decode cX11_mayPass 26 = .ok (.iconst 0, 1) := by decide +kernel
theorem dX11_mayPass_27 : decode cX11_mayPass 27 = .ok (.istore 4, 2) := by decide +kernel
theorem dX11_mayPass_29 : decode cX11_mayPass 29 = .ok (.iconst 0, 1) := by decide +kernel
theorem dX11_mayPass_30 : decode cX11_mayPass 30 = .ok (.istore 5, 2) := by decide +kernel
theorem dX11_mayPass_32 : decode cX11_mayPass 32 = .ok (.iload 5, 2) := by decide +kernel
theorem dX11_mayPass_34 : decode cX11_mayPass 34 = .ok (.aload_n 0, 1) := by decide +kernel
theorem dX11_mayPass_35 : decode cX11_mayPass 35 = .ok (.invokevirtual 252, 3) := by decide +kernel
theorem dX11_mayPass_38 : decode cX11_mayPass 38 = .ok (.if_icmp .ge 53, 3) := by decide +kernel
theorem dX11_mayPass_41 : decode cX11_mayPass 41 = .ok (.aload_n 0, 1) := by decide +kernel
theorem dX11_mayPass_42 : decode cX11_mayPass 42 = .ok (.getfield 20, 3) := by decide +kernel
theorem dX11_mayPass_45 : decode cX11_mayPass 45 = .ok (.aload_n 0, 1) := by decide +kernel
theorem dX11_mayPass_46 : decode cX11_mayPass 46 = .ok (.getfield 246, 3) := by decide +kernel
theorem dX11_mayPass_49 : decode cX11_mayPass 49 = .ok (.iload 5, 2) := by decide +kernel
theorem dX11_mayPass_51 : decode cX11_mayPass 51 = .ok (.invokestatic 209, 3) := by decide +kernel
theorem dX11_mayPass_54 : decode cX11_mayPass 54 = .ok (.iaload, 1) := by decide +kernel
theorem dX11_mayPass_55 : decode cX11_mayPass 55 = .ok (.iconst 1, 1) := by decide +kernel
theorem dX11_mayPass_56 : decode cX11_mayPass 56 = .ok (.if_icmp .eq 6, 3) := by decide +kernel
theorem dX11_mayPass_59 : decode cX11_mayPass 59 = .ok (.goto 26, 3) := by decide +kernel
theorem dX11_mayPass_62 : decode cX11_mayPass 62 = .ok (.iconst 1, 1) := by decide +kernel
theorem dX11_mayPass_63 : decode cX11_mayPass 63 = .ok (.istore_n 3, 1) := by decide +kernel
theorem dX11_mayPass_64 : decode cX11_mayPass 64 = .ok (.iload 4, 2) := by decide +kernel
theorem dX11_mayPass_66 : decode cX11_mayPass 66 = .ok (.ifCond .ne 12, 3) := by decide +kernel
theorem dX11_mayPass_69 : decode cX11_mayPass 69 = .ok (.aload_n 0, 1) := by decide +kernel
theorem dX11_mayPass_70 : decode cX11_mayPass 70 = .ok (.iload 5, 2) := by decide +kernel
theorem dX11_mayPass_72 : decode cX11_mayPass 72 = .ok (.invokevirtual 255, 3) := by decide +kernel
theorem dX11_mayPass_75 : decode cX11_mayPass 75 = .ok (.ifCond .eq 7, 3) := by decide +kernel
theorem dX11_mayPass_78 : decode cX11_mayPass 78 = .ok (.iconst 1, 1) := by decide +kernel
theorem dX11_mayPass_79 : decode cX11_mayPass 79 = .ok (.goto 4, 3) := by decide +kernel
theorem dX11_mayPass_82 : decode cX11_mayPass 82 = .ok (.iconst 0, 1) := by decide +kernel
theorem dX11_mayPass_83 : decode cX11_mayPass 83 = .ok (.istore 4, 2) := by decide +kernel
theorem dX11_mayPass_85 : decode cX11_mayPass 85 = .ok (.iinc 5 1, 3) := by decide +kernel
theorem dX11_mayPass_88 : decode cX11_mayPass 88 = .ok (.goto (-56), 3) := by decide +kernel
theorem dX11_mayPass_91 : decode cX11_mayPass 91 = .ok (.iload 4, 2) := by decide +kernel
theorem dX11_mayPass_93 : decode cX11_mayPass 93 = .ok (.ifCond .ne 7, 3) := by decide +kernel
theorem dX11_mayPass_96 : decode cX11_mayPass 96 = .ok (.iload_n 3, 1) := by decide +kernel
theorem dX11_mayPass_97 : decode cX11_mayPass 97 = .ok (.ifCond .ne 7, 3) := by decide +kernel
theorem dX11_mayPass_100 : decode cX11_mayPass 100 = .ok (.iconst 1, 1) := by decide +kernel
theorem dX11_mayPass_101 : decode cX11_mayPass 101 = .ok (.goto 4, 3) := by decide +kernel
theorem dX11_mayPass_104 : decode cX11_mayPass 104 = .ok (.iconst 0, 1) := by decide +kernel
theorem dX11_mayPass_105 : decode cX11_mayPass 105 = .ok (.ireturn, 1) := by decide +kernel
theorem dX11_costNow_0 : decode cX11_costNow 0 = .ok (.iconst 1, 1) := by decide +kernel
theorem dX11_costNow_1 : decode cX11_costNow 1 = .ok (.istore_n 1, 1) := by decide +kernel
theorem dX11_costNow_2 : decode cX11_costNow 2 = .ok (.iconst 0, 1) := by decide +kernel
theorem dX11_costNow_3 : decode cX11_costNow 3 = .ok (.istore_n 2, 1) := by decide +kernel
theorem dX11_costNow_4 : decode cX11_costNow 4 = .ok (.iload_n 2, 1) := by decide +kernel
theorem dX11_costNow_5 : decode cX11_costNow 5 = .ok (.aload_n 0, 1) := by decide +kernel
theorem dX11_costNow_6 : decode cX11_costNow 6 = .ok (.invokevirtual 252, 3) := by decide +kernel
theorem dX11_costNow_9 : decode cX11_costNow 9 = .ok (.if_icmp .ge 42, 3) := by decide +kernel
theorem dX11_costNow_12 : decode cX11_costNow 12 = .ok (.aload_n 0, 1) := by decide +kernel
theorem dX11_costNow_13 : decode cX11_costNow 13 = .ok (.getfield 20, 3) := by decide +kernel
theorem dX11_costNow_16 : decode cX11_costNow 16 = .ok (.aload_n 0, 1) := by decide +kernel
theorem dX11_costNow_17 : decode cX11_costNow 17 = .ok (.getfield 246, 3) := by decide +kernel
theorem dX11_costNow_20 : decode cX11_costNow 20 = .ok (.iload_n 2, 1) := by decide +kernel
theorem dX11_costNow_21 : decode cX11_costNow 21 = .ok (.invokestatic 209, 3) := by decide +kernel
theorem dX11_costNow_24 : decode cX11_costNow 24 = .ok (.iaload, 1) := by decide +kernel
theorem dX11_costNow_25 : decode cX11_costNow 25 = .ok (.iconst 2, 1) := by decide +kernel
theorem dX11_costNow_26 : decode cX11_costNow 26 = .ok (.if_icmp .ne 19, 3) := by decide +kernel
theorem dX11_costNow_29 : decode cX11_costNow 29 = .ok (.aload_n 0, 1) := by decide +kernel
theorem dX11_costNow_30 : decode cX11_costNow 30 = .ok (.getfield 20, 3) := by decide +kernel
theorem dX11_costNow_33 : decode cX11_costNow 33 = .ok (.aload_n 0, 1) := by decide +kernel
theorem dX11_costNow_34 : decode cX11_costNow 34 = .ok (.getfield 246, 3) := by decide +kernel
theorem dX11_costNow_37 : decode cX11_costNow 37 = .ok (.iload_n 2, 1) := by decide +kernel
theorem dX11_costNow_38 : decode cX11_costNow 38 = .ok (.invokestatic 209, 3) := by decide +kernel
theorem dX11_costNow_41 : decode cX11_costNow 41 = .ok (.iconst 1, 1) := by decide +kernel
theorem dX11_costNow_42 : decode cX11_costNow 42 = .ok (.iadd, 1) := by decide +kernel
theorem dX11_costNow_43 : decode cX11_costNow 43 = .ok (.iaload, 1) := by decide +kernel
theorem dX11_costNow_44 : decode cX11_costNow 44 = .ok (.istore_n 1, 1) := by decide +kernel
theorem dX11_costNow_45 : decode cX11_costNow 45 = .ok (.iinc 2 1, 3) := by decide +kernel
theorem dX11_costNow_48 : decode cX11_costNow 48 = .ok (.goto (-44), 3) := by decide +kernel
theorem dX11_costNow_51 : decode cX11_costNow 51 = .ok (.iload_n 1, 1) := by decide +kernel
theorem dX11_costNow_52 : decode cX11_costNow 52 = .ok (.ireturn, 1) := by decide +kernel
theorem dX11_copies_0 : decode cX11_copies 0 = .ok (.iconst 0, 1) := by decide +kernel
theorem dX11_copies_1 : decode cX11_copies 1 = .ok (.istore_n 2, 1) := by decide +kernel
theorem dX11_copies_2 : decode cX11_copies 2 = .ok (.iconst 0, 1) := by decide +kernel
theorem dX11_copies_3 : decode cX11_copies 3 = .ok (.istore_n 3, 1) := by decide +kernel
theorem dX11_copies_4 : decode cX11_copies 4 = .ok (.iload_n 3, 1) := by decide +kernel
theorem dX11_copies_5 : decode cX11_copies 5 = .ok (.aload_n 0, 1) := by decide +kernel
theorem dX11_copies_6 : decode cX11_copies 6 = .ok (.invokevirtual 72, 3) := by decide +kernel
theorem dX11_copies_9 : decode cX11_copies 9 = .ok (.if_icmp .ge 26, 3) := by decide +kernel
theorem dX11_copies_12 : decode cX11_copies 12 = .ok (.iload_n 2, 1) := by decide +kernel
theorem dX11_copies_13 : decode cX11_copies 13 = .ok (.aload_n 0, 1) := by decide +kernel
theorem dX11_copies_14 : decode cX11_copies 14 = .ok (.iload_n 1, 1) := by decide +kernel
theorem dX11_copies_15 : decode cX11_copies 15 = .ok (.iload_n 3, 1) := by decide +kernel
theorem dX11_copies_16 : decode cX11_copies 16 = .ok (.invokevirtual 237, 3) := by decide +kernel
theorem dX11_copies_19 : decode cX11_copies 19 = .ok (.ifCond .eq 7, 3) := by decide +kernel
theorem dX11_copies_22 : decode cX11_copies 22 = .ok (.iconst 1, 1) := by decide +kernel
theorem dX11_copies_23 : decode cX11_copies 23 = .ok (.goto 4, 3) := by decide +kernel
theorem dX11_copies_26 : decode cX11_copies 26 = .ok (.iconst 0, 1) := by decide +kernel
theorem dX11_copies_27 : decode cX11_copies 27 = .ok (.iadd, 1) := by decide +kernel
theorem dX11_copies_28 : decode cX11_copies 28 = .ok (.istore_n 2, 1) := by decide +kernel
theorem dX11_copies_29 : decode cX11_copies 29 = .ok (.iinc 3 1, 3) := by decide +kernel
theorem dX11_copies_32 : decode cX11_copies 32 = .ok (.goto (-28), 3) := by decide +kernel
theorem dX11_copies_35 : decode cX11_copies 35 = .ok (.iload_n 2, 1) := by decide +kernel
theorem dX11_copies_36 : decode cX11_copies 36 = .ok (.ireturn, 1) := by decide +kernel
theorem dX11_leastOn_0 : decode cX11_leastOn 0 = .ok (.iconst (-1), 1) := by decide +kernel
theorem dX11_leastOn_1 : decode cX11_leastOn 1 = .ok (.istore_n 2, 1) := by decide +kernel
theorem dX11_leastOn_2 : decode cX11_leastOn 2 = .ok (.iconst 0, 1) := by decide +kernel
theorem dX11_leastOn_3 : decode cX11_leastOn 3 = .ok (.istore_n 3, 1) := by decide +kernel
theorem dX11_leastOn_4 : decode cX11_leastOn 4 = .ok (.aload_n 0, 1) := by decide +kernel
theorem dX11_leastOn_5 : decode cX11_leastOn 5 = .ok (.invokevirtual 72, 3) := by decide +kernel
theorem dX11_leastOn_8 : decode cX11_leastOn 8 = .ok (.iconst 1, 1) := by decide +kernel
theorem dX11_leastOn_9 : decode cX11_leastOn 9 = .ok (.isub, 1) := by decide +kernel
theorem dX11_leastOn_10 : decode cX11_leastOn 10 = .ok (.istore 4, 2) := by decide +kernel
theorem dX11_leastOn_12 : decode cX11_leastOn 12 = .ok (.iload 4, 2) := by decide +kernel
theorem dX11_leastOn_14 : decode cX11_leastOn 14 = .ok (.ifCond .lt 50, 3) := by decide +kernel
theorem dX11_leastOn_17 : decode cX11_leastOn 17 = .ok (.aload_n 0, 1) := by decide +kernel
theorem dX11_leastOn_18 : decode cX11_leastOn 18 = .ok (.iload_n 1, 1) := by decide +kernel
theorem dX11_leastOn_19 : decode cX11_leastOn 19 = .ok (.iload 4, 2) := by decide +kernel
theorem dX11_leastOn_21 : decode cX11_leastOn 21 = .ok (.invokevirtual 237, 3) := by decide +kernel
theorem dX11_leastOn_24 : decode cX11_leastOn 24 = .ok (.ifCond .ne 6, 3) := by decide +kernel
theorem dX11_leastOn_27 : decode cX11_leastOn 27 = .ok (.goto 31, 3) := by decide +kernel
theorem dX11_leastOn_30 : decode cX11_leastOn 30 = .ok (.aload_n 0, 1) := by decide +kernel
theorem dX11_leastOn_31 : decode cX11_leastOn 31 = .ok (.iload_n 1, 1) := by decide +kernel
theorem dX11_leastOn_32 : decode cX11_leastOn 32 = .ok (.iload 4, 2) := by decide +kernel
theorem dX11_leastOn_34 : decode cX11_leastOn 34 = .ok (.invokevirtual 258, 3) := by decide +kernel
theorem dX11_leastOn_37 : decode cX11_leastOn 37 = .ok (.istore 5, 2) := by decide +kernel
theorem dX11_leastOn_39 : decode cX11_leastOn 39 = .ok (.iload_n 2, 1) := by decide +kernel
theorem dX11_leastOn_40 : decode cX11_leastOn 40 = .ok (.ifCond .lt 12, 3) := by decide +kernel
theorem dX11_leastOn_43 : decode cX11_leastOn 43 = .ok (.iload 5, 2) := by decide +kernel
theorem dX11_leastOn_45 : decode cX11_leastOn 45 = .ok (.iload_n 3, 1) := by decide +kernel
theorem dX11_leastOn_46 : decode cX11_leastOn 46 = .ok (.if_icmp .lt 6, 3) := by decide +kernel
theorem dX11_leastOn_49 : decode cX11_leastOn 49 = .ok (.goto 9, 3) := by decide +kernel
theorem dX11_leastOn_52 : decode cX11_leastOn 52 = .ok (.iload 4, 2) := by decide +kernel
theorem dX11_leastOn_54 : decode cX11_leastOn 54 = .ok (.istore_n 2, 1) := by decide +kernel
theorem dX11_leastOn_55 : decode cX11_leastOn 55 = .ok (.iload 5, 2) := by decide +kernel
theorem dX11_leastOn_57 : decode cX11_leastOn 57 = .ok (.istore_n 3, 1) := by decide +kernel
theorem dX11_leastOn_58 : decode cX11_leastOn 58 = .ok (.iinc 4 (-1), 3) := by decide +kernel
theorem dX11_leastOn_61 : decode cX11_leastOn 61 = .ok (.goto (-49), 3) := by decide +kernel
theorem dX11_leastOn_64 : decode cX11_leastOn 64 = .ok (.iload_n 2, 1) := by decide +kernel
theorem dX11_leastOn_65 : decode cX11_leastOn 65 = .ok (.ireturn, 1) := by decide +kernel
theorem dX11_givesAway_0 : decode cX11_givesAway 0 = .ok (.aload_n 0, 1) := by decide +kernel
theorem dX11_givesAway_1 : decode cX11_givesAway 1 = .ok (.getfield 13, 3) := by decide +kernel
theorem dX11_givesAway_4 : decode cX11_givesAway 4 = .ok (.iload_n 1, 1) := by decide +kernel
theorem dX11_givesAway_5 : decode cX11_givesAway 5 = .ok (.iload_n 2, 1) := by decide +kernel
theorem dX11_givesAway_6 : decode cX11_givesAway 6 = .ok (.iconst 0, 1) := by decide +kernel
theorem dX11_givesAway_7 : decode cX11_givesAway 7 = .ok (.invokestatic 85, 3) := by decide +kernel
theorem dX11_givesAway_10 : decode cX11_givesAway 10 = .ok (.iconst 0, 1) := by decide +kernel
theorem dX11_givesAway_11 : decode cX11_givesAway 11 = .ok (.iastore, 1) := by decide +kernel
theorem dX11_givesAway_12 : decode cX11_givesAway 12 = .ok (.aload_n 0, 1) := by decide +kernel
theorem dX11_givesAway_13 : decode cX11_givesAway 13 = .ok (.getfield 13, 3) := by decide +kernel
theorem dX11_givesAway_16 : decode cX11_givesAway 16 = .ok (.iload_n 1, 1) := by decide +kernel
theorem dX11_givesAway_17 : decode cX11_givesAway 17 = .ok (.iconst 4, 1) := by decide +kernel
theorem dX11_givesAway_18 : decode cX11_givesAway 18 = .ok (.invokestatic 100, 3) := by decide +kernel
theorem dX11_givesAway_21 : decode cX11_givesAway 21 = .ok (.dup2, 1) := by decide +kernel
theorem dX11_givesAway_22 : decode cX11_givesAway 22 = .ok (.iaload, 1) := by decide +kernel
theorem dX11_givesAway_23 : decode cX11_givesAway 23 = .ok (.iconst 1, 1) := by decide +kernel
theorem dX11_givesAway_24 : decode cX11_givesAway 24 = .ok (.iadd, 1) := by decide +kernel
theorem dX11_givesAway_25 : decode cX11_givesAway 25 = .ok (.iastore, 1) := by decide +kernel
theorem dX11_givesAway_26 : decode cX11_givesAway 26 = .ok (.return_, 1) := by decide +kernel
theorem dX11_comes_0 : decode cX11_comes 0 = .ok (.iload_n 1, 1) := by decide +kernel
theorem dX11_comes_1 : decode cX11_comes 1 = .ok (.iload_n 2, 1) := by decide +kernel
theorem dX11_comes_2 : decode cX11_comes 2 = .ok (.iconst 0, 1) := by decide +kernel
theorem dX11_comes_3 : decode cX11_comes 3 = .ok (.invokestatic 85, 3) := by decide +kernel
theorem dX11_comes_6 : decode cX11_comes 6 = .ok (.istore 8, 2) := by decide +kernel
theorem dX11_comes_8 : decode cX11_comes 8 = .ok (.aload_n 0, 1) := by decide +kernel
theorem dX11_comes_9 : decode cX11_comes 9 = .ok (.getfield 13, 3) := by decide +kernel
theorem dX11_comes_12 : decode cX11_comes 12 = .ok (.iload 8, 2) := by decide +kernel
theorem dX11_comes_14 : decode cX11_comes 14 = .ok (.iconst 0, 1) := by decide +kernel
theorem dX11_comes_15 : decode cX11_comes 15 = .ok (.iadd, 1) := by decide +kernel
theorem dX11_comes_16 : decode cX11_comes 16 = .ok (.iconst 1, 1) := by decide +kernel
theorem dX11_comes_17 : decode cX11_comes 17 = .ok (.iastore, 1) := by decide +kernel
theorem dX11_comes_18 : decode cX11_comes 18 = .ok (.aload_n 0, 1) := by decide +kernel
theorem dX11_comes_19 : decode cX11_comes 19 = .ok (.getfield 13, 3) := by decide +kernel
theorem dX11_comes_22 : decode cX11_comes 22 = .ok (.iload 8, 2) := by decide +kernel
theorem dX11_comes_24 : decode cX11_comes 24 = .ok (.iconst 1, 1) := by decide +kernel
theorem dX11_comes_25 : decode cX11_comes 25 = .ok (.iadd, 1) := by decide +kernel
theorem dX11_comes_26 : decode cX11_comes 26 = .ok (.iload_n 3, 1) := by decide +kernel
theorem dX11_comes_27 : decode cX11_comes 27 = .ok (.iastore, 1) := by decide +kernel
theorem dX11_comes_28 : decode cX11_comes 28 = .ok (.aload_n 0, 1) := by decide +kernel
theorem dX11_comes_29 : decode cX11_comes 29 = .ok (.getfield 13, 3) := by decide +kernel
theorem dX11_comes_32 : decode cX11_comes 32 = .ok (.iload 8, 2) := by decide +kernel
theorem dX11_comes_34 : decode cX11_comes 34 = .ok (.iconst 2, 1) := by decide +kernel
theorem dX11_comes_35 : decode cX11_comes 35 = .ok (.iadd, 1) := by decide +kernel
theorem dX11_comes_36 : decode cX11_comes 36 = .ok (.iload 4, 2) := by decide +kernel
theorem dX11_comes_38 : decode cX11_comes 38 = .ok (.iastore, 1) := by decide +kernel
theorem dX11_comes_39 : decode cX11_comes 39 = .ok (.aload_n 0, 1) := by decide +kernel
theorem dX11_comes_40 : decode cX11_comes 40 = .ok (.getfield 13, 3) := by decide +kernel
theorem dX11_comes_43 : decode cX11_comes 43 = .ok (.iload 8, 2) := by decide +kernel
theorem dX11_comes_45 : decode cX11_comes 45 = .ok (.iconst 3, 1) := by decide +kernel
theorem dX11_comes_46 : decode cX11_comes 46 = .ok (.iadd, 1) := by decide +kernel
theorem dX11_comes_47 : decode cX11_comes 47 = .ok (.iload 5, 2) := by decide +kernel
theorem dX11_comes_49 : decode cX11_comes 49 = .ok (.iastore, 1) := by decide +kernel
theorem dX11_comes_50 : decode cX11_comes 50 = .ok (.aload_n 0, 1) := by decide +kernel
theorem dX11_comes_51 : decode cX11_comes 51 = .ok (.getfield 13, 3) := by decide +kernel
theorem dX11_comes_54 : decode cX11_comes 54 = .ok (.iload 8, 2) := by decide +kernel
theorem dX11_comes_56 : decode cX11_comes 56 = .ok (.iconst 4, 1) := by decide +kernel
theorem dX11_comes_57 : decode cX11_comes 57 = .ok (.iadd, 1) := by decide +kernel
theorem dX11_comes_58 : decode cX11_comes 58 = .ok (.aload_n 0, 1) := by decide +kernel
theorem dX11_comes_59 : decode cX11_comes 59 = .ok (.invokevirtual 97, 3) := by decide +kernel
theorem dX11_comes_62 : decode cX11_comes 62 = .ok (.iastore, 1) := by decide +kernel
theorem dX11_comes_63 : decode cX11_comes 63 = .ok (.aload_n 0, 1) := by decide +kernel
theorem dX11_comes_64 : decode cX11_comes 64 = .ok (.getfield 13, 3) := by decide +kernel
theorem dX11_comes_67 : decode cX11_comes 67 = .ok (.iload 8, 2) := by decide +kernel
theorem dX11_comes_69 : decode cX11_comes 69 = .ok (.iconst 5, 1) := by decide +kernel
theorem dX11_comes_70 : decode cX11_comes 70 = .ok (.iadd, 1) := by decide +kernel
theorem dX11_comes_71 : decode cX11_comes 71 = .ok (.iload 6, 2) := by decide +kernel
theorem dX11_comes_73 : decode cX11_comes 73 = .ok (.iastore, 1) := by decide +kernel
theorem dX11_comes_74 : decode cX11_comes 74 = .ok (.aload_n 0, 1) := by decide +kernel
theorem dX11_comes_75 : decode cX11_comes 75 = .ok (.getfield 13, 3) := by decide +kernel
theorem dX11_comes_78 : decode cX11_comes 78 = .ok (.iload 8, 2) := by decide +kernel
theorem dX11_comes_80 : decode cX11_comes 80 = .ok (.iconst 5, 1) := by decide +kernel
theorem dX11_comes_81 : decode cX11_comes 81 = .ok (.iadd, 1) := by decide +kernel
theorem dX11_comes_82 : decode cX11_comes 82 = .ok (.iconst 1, 1) := by decide +kernel
theorem dX11_comes_83 : decode cX11_comes 83 = .ok (.iadd, 1) := by decide +kernel
theorem dX11_comes_84 : decode cX11_comes 84 = .ok (.iload 7, 2) := by decide +kernel
theorem dX11_comes_86 : decode cX11_comes 86 = .ok (.iastore, 1) := by decide +kernel
theorem dX11_comes_87 : decode cX11_comes 87 = .ok (.aload_n 0, 1) := by decide +kernel
theorem dX11_comes_88 : decode cX11_comes 88 = .ok (.iload_n 2, 1) := by decide +kernel
theorem dX11_comes_89 : decode cX11_comes 89 = .ok (.bipush 8, 2) := by decide +kernel
theorem dX11_comes_91 : decode cX11_comes 91 = .ok (.invokevirtual 240, 3) := by decide +kernel
theorem dX11_comes_94 : decode cX11_comes 94 = .ok (.ifCond .lt 21, 3) := by decide +kernel
theorem dX11_comes_97 : decode cX11_comes 97 = .ok (.aload_n 0, 1) := by decide +kernel
theorem dX11_comes_98 : decode cX11_comes 98 = .ok (.getfield 13, 3) := by decide +kernel
theorem dX11_comes_101 : decode cX11_comes 101 = .ok (.iload_n 1, 1) := by decide +kernel
theorem dX11_comes_102 : decode cX11_comes 102 = .ok (.aload_n 0, 1) := by decide +kernel
theorem dX11_comes_103 : decode cX11_comes 103 = .ok (.iload_n 2, 1) := by decide +kernel
theorem dX11_comes_104 : decode cX11_comes 104 = .ok (.bipush 8, 2) := by decide +kernel
theorem dX11_comes_106 : decode cX11_comes 106 = .ok (.invokevirtual 240, 3) := by decide +kernel
theorem dX11_comes_109 : decode cX11_comes 109 = .ok (.iconst 0, 1) := by decide +kernel
theorem dX11_comes_110 : decode cX11_comes 110 = .ok (.invokestatic 85, 3) := by decide +kernel
theorem dX11_comes_113 : decode cX11_comes 113 = .ok (.iconst 0, 1) := by decide +kernel
theorem dX11_comes_114 : decode cX11_comes 114 = .ok (.iastore, 1) := by decide +kernel
theorem dX11_comes_115 : decode cX11_comes 115 = .ok (.iload_n 1, 1) := by decide +kernel
theorem dX11_comes_116 : decode cX11_comes 116 = .ok (.ifCond .gt 16, 3) := by decide +kernel
theorem dX11_comes_119 : decode cX11_comes 119 = .ok (.aload_n 0, 1) := by decide +kernel
theorem dX11_comes_120 : decode cX11_comes 120 = .ok (.getfield 13, 3) := by decide +kernel
theorem dX11_comes_123 : decode cX11_comes 123 = .ok (.iload_n 2, 1) := by decide +kernel
theorem dX11_comes_124 : decode cX11_comes 124 = .ok (.iconst 0, 1) := by decide +kernel
theorem dX11_comes_125 : decode cX11_comes 125 = .ok (.invokestatic 261, 3) := by decide +kernel
theorem dX11_comes_128 : decode cX11_comes 128 = .ok (.iaload, 1) := by decide +kernel
theorem dX11_comes_129 : decode cX11_comes 129 = .ok (.ifCond .lt 4, 3) := by decide +kernel
theorem dX11_comes_132 : decode cX11_comes 132 = .ok (.return_, 1) := by decide +kernel
theorem dX11_comes_133 : decode cX11_comes 133 = .ok (.aload_n 0, 1) := by decide +kernel
theorem dX11_comes_134 : decode cX11_comes 134 = .ok (.getfield 13, 3) := by decide +kernel
theorem dX11_comes_137 : decode cX11_comes 137 = .ok (.iload_n 2, 1) := by decide +kernel
theorem dX11_comes_138 : decode cX11_comes 138 = .ok (.iconst 0, 1) := by decide +kernel
theorem dX11_comes_139 : decode cX11_comes 139 = .ok (.invokestatic 261, 3) := by decide +kernel
theorem dX11_comes_142 : decode cX11_comes 142 = .ok (.aload_n 0, 1) := by decide +kernel
theorem dX11_comes_143 : decode cX11_comes 143 = .ok (.invokevirtual 97, 3) := by decide +kernel
theorem dX11_comes_146 : decode cX11_comes 146 = .ok (.iastore, 1) := by decide +kernel
theorem dX11_comes_147 : decode cX11_comes 147 = .ok (.aload_n 0, 1) := by decide +kernel
theorem dX11_comes_148 : decode cX11_comes 148 = .ok (.getfield 13, 3) := by decide +kernel
theorem dX11_comes_151 : decode cX11_comes 151 = .ok (.iload_n 2, 1) := by decide +kernel
theorem dX11_comes_152 : decode cX11_comes 152 = .ok (.iconst 1, 1) := by decide +kernel
theorem dX11_comes_153 : decode cX11_comes 153 = .ok (.invokestatic 261, 3) := by decide +kernel
theorem dX11_comes_156 : decode cX11_comes 156 = .ok (.iload_n 3, 1) := by decide +kernel
theorem dX11_comes_157 : decode cX11_comes 157 = .ok (.iastore, 1) := by decide +kernel
theorem dX11_comes_158 : decode cX11_comes 158 = .ok (.aload_n 0, 1) := by decide +kernel
theorem dX11_comes_159 : decode cX11_comes 159 = .ok (.getfield 13, 3) := by decide +kernel
theorem dX11_comes_162 : decode cX11_comes 162 = .ok (.iload_n 2, 1) := by decide +kernel
theorem dX11_comes_163 : decode cX11_comes 163 = .ok (.iconst 2, 1) := by decide +kernel
theorem dX11_comes_164 : decode cX11_comes 164 = .ok (.invokestatic 261, 3) := by decide +kernel
theorem dX11_comes_167 : decode cX11_comes 167 = .ok (.iload 6, 2) := by decide +kernel
theorem dX11_comes_169 : decode cX11_comes 169 = .ok (.iastore, 1) := by decide +kernel
theorem dX11_comes_170 : decode cX11_comes 170 = .ok (.aload_n 0, 1) := by decide +kernel
theorem dX11_comes_171 : decode cX11_comes 171 = .ok (.getfield 13, 3) := by decide +kernel
theorem dX11_comes_174 : decode cX11_comes 174 = .ok (.iload_n 2, 1) := by decide +kernel
theorem dX11_comes_175 : decode cX11_comes 175 = .ok (.iconst 3, 1) := by decide +kernel
theorem dX11_comes_176 : decode cX11_comes 176 = .ok (.invokestatic 261, 3) := by decide +kernel
theorem dX11_comes_179 : decode cX11_comes 179 = .ok (.iload 7, 2) := by decide +kernel
theorem dX11_comes_181 : decode cX11_comes 181 = .ok (.iastore, 1) := by decide +kernel
theorem dX11_comes_182 : decode cX11_comes 182 = .ok (.aload_n 0, 1) := by decide +kernel
theorem dX11_comes_183 : decode cX11_comes 183 = .ok (.getfield 13, 3) := by decide +kernel
theorem dX11_comes_186 : decode cX11_comes 186 = .ok (.iload_n 2, 1) := by decide +kernel
theorem dX11_comes_187 : decode cX11_comes 187 = .ok (.iconst 4, 1) := by decide +kernel
theorem dX11_comes_188 : decode cX11_comes 188 = .ok (.invokestatic 261, 3) := by decide +kernel
theorem dX11_comes_191 : decode cX11_comes 191 = .ok (.iload 4, 2) := by decide +kernel
theorem dX11_comes_193 : decode cX11_comes 193 = .ok (.iastore, 1) := by decide +kernel
theorem dX11_comes_194 : decode cX11_comes 194 = .ok (.return_, 1) := by decide +kernel
theorem dX11_tells_0 : decode cX11_tells 0 = .ok (.aload_n 0, 1) := by decide +kernel
theorem dX11_tells_1 : decode cX11_tells 1 = .ok (.iload_n 1, 1) := by decide +kernel
theorem dX11_tells_2 : decode cX11_tells 2 = .ok (.iconst 1, 1) := by decide +kernel
theorem dX11_tells_3 : decode cX11_tells 3 = .ok (.invokevirtual 240, 3) := by decide +kernel
theorem dX11_tells_6 : decode cX11_tells 6 = .ok (.istore_n 2, 1) := by decide +kernel
theorem dX11_tells_7 : decode cX11_tells 7 = .ok (.aload_n 0, 1) := by decide +kernel
theorem dX11_tells_8 : decode cX11_tells 8 = .ok (.getfield 13, 3) := by decide +kernel
theorem dX11_tells_11 : decode cX11_tells 11 = .ok (.iload_n 1, 1) := by decide +kernel
theorem dX11_tells_12 : decode cX11_tells 12 = .ok (.iconst 0, 1) := by decide +kernel
theorem dX11_tells_13 : decode cX11_tells 13 = .ok (.invokestatic 261, 3) := by decide +kernel
theorem dX11_tells_16 : decode cX11_tells 16 = .ok (.iconst (-1), 1) := by decide +kernel
theorem dX11_tells_17 : decode cX11_tells 17 = .ok (.iastore, 1) := by decide +kernel
theorem dX11_tells_18 : decode cX11_tells 18 = .ok (.iconst 0, 1) := by decide +kernel
theorem dX11_tells_19 : decode cX11_tells 19 = .ok (.istore_n 3, 1) := by decide +kernel
theorem dX11_tells_20 : decode cX11_tells 20 = .ok (.iload_n 3, 1) := by decide +kernel
theorem dX11_tells_21 : decode cX11_tells 21 = .ok (.aload_n 0, 1) := by decide +kernel
theorem dX11_tells_22 : decode cX11_tells 22 = .ok (.invokevirtual 64, 3) := by decide +kernel
theorem dX11_tells_25 : decode cX11_tells 25 = .ok (.if_icmp .ge 21, 3) := by decide +kernel
theorem dX11_tells_28 : decode cX11_tells 28 = .ok (.aload_n 0, 1) := by decide +kernel
theorem dX11_tells_29 : decode cX11_tells 29 = .ok (.getfield 13, 3) := by decide +kernel
theorem dX11_tells_32 : decode cX11_tells 32 = .ok (.iload_n 3, 1) := by decide +kernel
theorem dX11_tells_33 : decode cX11_tells 33 = .ok (.iload_n 1, 1) := by decide +kernel
theorem dX11_tells_34 : decode cX11_tells 34 = .ok (.iconst 0, 1) := by decide +kernel
theorem dX11_tells_35 : decode cX11_tells 35 = .ok (.invokestatic 85, 3) := by decide +kernel
theorem dX11_tells_38 : decode cX11_tells 38 = .ok (.iconst 0, 1) := by decide +kernel
theorem dX11_tells_39 : decode cX11_tells 39 = .ok (.iastore, 1) := by decide +kernel
theorem dX11_tells_40 : decode cX11_tells 40 = .ok (.iinc 3 1, 3) := by decide +kernel
theorem dX11_tells_43 : decode cX11_tells 43 = .ok (.goto (-23), 3) := by decide +kernel
theorem dX11_tells_46 : decode cX11_tells 46 = .ok (.aload_n 0, 1) := by decide +kernel
theorem dX11_tells_47 : decode cX11_tells 47 = .ok (.iload_n 1, 1) := by decide +kernel
theorem dX11_tells_48 : decode cX11_tells 48 = .ok (.bipush 8, 2) := by decide +kernel
theorem dX11_tells_50 : decode cX11_tells 50 = .ok (.invokevirtual 240, 3) := by decide +kernel
theorem dX11_tells_53 : decode cX11_tells 53 = .ok (.ifCond .lt 21, 3) := by decide +kernel
theorem dX11_tells_56 : decode cX11_tells 56 = .ok (.aload_n 0, 1) := by decide +kernel
theorem dX11_tells_57 : decode cX11_tells 57 = .ok (.getfield 13, 3) := by decide +kernel
theorem dX11_tells_60 : decode cX11_tells 60 = .ok (.iload_n 2, 1) := by decide +kernel
theorem dX11_tells_61 : decode cX11_tells 61 = .ok (.aload_n 0, 1) := by decide +kernel
theorem dX11_tells_62 : decode cX11_tells 62 = .ok (.iload_n 1, 1) := by decide +kernel
theorem dX11_tells_63 : decode cX11_tells 63 = .ok (.bipush 8, 2) := by decide +kernel
theorem dX11_tells_65 : decode cX11_tells 65 = .ok (.invokevirtual 240, 3) := by decide +kernel
theorem dX11_tells_68 : decode cX11_tells 68 = .ok (.iconst 0, 1) := by decide +kernel
theorem dX11_tells_69 : decode cX11_tells 69 = .ok (.invokestatic 85, 3) := by decide +kernel
theorem dX11_tells_72 : decode cX11_tells 72 = .ok (.iconst 0, 1) := by decide +kernel
theorem dX11_tells_73 : decode cX11_tells 73 = .ok (.iastore, 1) := by decide +kernel
theorem dX11_tells_74 : decode cX11_tells 74 = .ok (.aload_n 0, 1) := by decide +kernel
theorem dX11_tells_75 : decode cX11_tells 75 = .ok (.iload_n 2, 1) := by decide +kernel
theorem dX11_tells_76 : decode cX11_tells 76 = .ok (.invokevirtual 264, 3) := by decide +kernel
theorem dX11_tells_79 : decode cX11_tells 79 = .ok (.aload_n 0, 1) := by decide +kernel
theorem dX11_tells_80 : decode cX11_tells 80 = .ok (.iload_n 2, 1) := by decide +kernel
theorem dX11_tells_81 : decode cX11_tells 81 = .ok (.iconst 1, 1) := by decide +kernel
theorem dX11_tells_82 : decode cX11_tells 82 = .ok (.invokevirtual 110, 3) := by decide +kernel
theorem dX11_tells_85 : decode cX11_tells 85 = .ok (.if_icmp .lt 13, 3) := by decide +kernel
theorem dX11_tells_88 : decode cX11_tells 88 = .ok (.aload_n 0, 1) := by decide +kernel
theorem dX11_tells_89 : decode cX11_tells 89 = .ok (.iload_n 2, 1) := by decide +kernel
theorem dX11_tells_90 : decode cX11_tells 90 = .ok (.aload_n 0, 1) := by decide +kernel
theorem dX11_tells_91 : decode cX11_tells 91 = .ok (.iload_n 2, 1) := by decide +kernel
theorem dX11_tells_92 : decode cX11_tells 92 = .ok (.invokevirtual 267, 3) := by decide +kernel
theorem dX11_tells_95 : decode cX11_tells 95 = .ok (.invokevirtual 270, 3) := by decide +kernel
theorem dX11_tells_98 : decode cX11_tells 98 = .ok (.aload_n 0, 1) := by decide +kernel
theorem dX11_tells_99 : decode cX11_tells 99 = .ok (.iload_n 2, 1) := by decide +kernel
theorem dX11_tells_100 : decode cX11_tells 100 = .ok (.iload_n 1, 1) := by decide +kernel
theorem dX11_tells_101 : decode cX11_tells 101 = .ok (.aload_n 0, 1) := by decide +kernel
theorem dX11_tells_102 : decode cX11_tells 102 = .ok (.iload_n 1, 1) := by decide +kernel
theorem dX11_tells_103 : decode cX11_tells 103 = .ok (.bipush 7, 2) := by decide +kernel
theorem dX11_tells_105 : decode cX11_tells 105 = .ok (.invokevirtual 240, 3) := by decide +kernel
theorem dX11_tells_108 : decode cX11_tells 108 = .ok (.iconst 0, 1) := by decide +kernel
theorem dX11_tells_109 : decode cX11_tells 109 = .ok (.iconst (-1), 1) := by decide +kernel
theorem dX11_tells_110 : decode cX11_tells 110 = .ok (.iconst 0, 1) := by decide +kernel
theorem dX11_tells_111 : decode cX11_tells 111 = .ok (.iconst 0, 1) := by decide +kernel
theorem dX11_tells_112 : decode cX11_tells 112 = .ok (.invokevirtual 273, 3) := by decide +kernel
theorem dX11_tells_115 : decode cX11_tells 115 = .ok (.return_, 1) := by decide +kernel
theorem dX11_canTake_0 : decode cX11_canTake 0 = .ok (.aload_n 0, 1) := by decide +kernel
theorem dX11_canTake_1 : decode cX11_canTake 1 = .ok (.iload_n 1, 1) := by decide +kernel
theorem dX11_canTake_2 : decode cX11_canTake 2 = .ok (.iload 4, 2) := by decide +kernel
theorem dX11_canTake_4 : decode cX11_canTake 4 = .ok (.invokevirtual 237, 3) := by decide +kernel
theorem dX11_canTake_7 : decode cX11_canTake 7 = .ok (.ifCond .eq 38, 3) := by decide +kernel
theorem dX11_canTake_10 : decode cX11_canTake 10 = .ok (.aload_n 0, 1) := by decide +kernel
theorem dX11_canTake_11 : decode cX11_canTake 11 = .ok (.iload_n 2, 1) := by decide +kernel
theorem dX11_canTake_12 : decode cX11_canTake 12 = .ok (.iload 4, 2) := by decide +kernel
theorem dX11_canTake_14 : decode cX11_canTake 14 = .ok (.invokevirtual 237, 3) := by decide +kernel
theorem dX11_canTake_17 : decode cX11_canTake 17 = .ok (.ifCond .ne 28, 3) := by decide +kernel
theorem dX11_canTake_20 : decode cX11_canTake 20 = .ok (.aload_n 0, 1) := by decide +kernel
theorem dX11_canTake_21 : decode cX11_canTake 21 = .ok (.getfield 46, 3) := by decide +kernel
theorem dX11_canTake_24 : decode cX11_canTake 24 = .ok (.bipush 30, 2) := by decide +kernel
theorem dX11_canTake_26 : decode cX11_canTake 26 = .ok (.iload_n 3, 1) := by decide +kernel
theorem dX11_canTake_27 : decode cX11_canTake 27 = .ok (.imul, 1) := by decide +kernel
theorem dX11_canTake_28 : decode cX11_canTake 28 = .ok (.iload 4, 2) := by decide +kernel
theorem dX11_canTake_30 : decode cX11_canTake 30 = .ok (.iadd, 1) := by decide +kernel
theorem dX11_canTake_31 : decode cX11_canTake 31 = .ok (.baload, 1) := by decide +kernel
theorem dX11_canTake_32 : decode cX11_canTake 32 = .ok (.ifCond .ne 13, 3) := by decide +kernel
theorem dX11_canTake_35 : decode cX11_canTake 35 = .ok (.aload_n 0, 1) := by decide +kernel
theorem dX11_canTake_36 : decode cX11_canTake 36 = .ok (.iload_n 1, 1) := by decide +kernel
theorem dX11_canTake_37 : decode cX11_canTake 37 = .ok (.iload 4, 2) := by decide +kernel
theorem dX11_canTake_39 : decode cX11_canTake 39 = .ok (.invokevirtual 277, 3) := by decide +kernel
theorem dX11_canTake_42 : decode cX11_canTake 42 = .ok (.ifCond .ne 5, 3) := by decide +kernel
theorem dX11_canTake_45 : decode cX11_canTake 45 = .ok (.iconst 0, 1) := by decide +kernel
theorem dX11_canTake_46 : decode cX11_canTake 46 = .ok (.ireturn, 1) := by decide +kernel
theorem dX11_canTake_47 : decode cX11_canTake 47 = .ok (.iconst 0, 1) := by decide +kernel
theorem dX11_canTake_48 : decode cX11_canTake 48 = .ok (.istore 5, 2) := by decide +kernel
theorem dX11_canTake_50 : decode cX11_canTake 50 = .ok (.iload 5, 2) := by decide +kernel
theorem dX11_canTake_52 : decode cX11_canTake 52 = .ok (.aload_n 0, 1) := by decide +kernel
theorem dX11_canTake_53 : decode cX11_canTake 53 = .ok (.invokevirtual 72, 3) := by decide +kernel
theorem dX11_canTake_56 : decode cX11_canTake 56 = .ok (.if_icmp .ge 34, 3) := by decide +kernel
theorem dX11_canTake_59 : decode cX11_canTake 59 = .ok (.aload_n 0, 1) := by decide +kernel
theorem dX11_canTake_60 : decode cX11_canTake 60 = .ok (.iload_n 2, 1) := by decide +kernel
theorem dX11_canTake_61 : decode cX11_canTake 61 = .ok (.iload 5, 2) := by decide +kernel
theorem dX11_canTake_63 : decode cX11_canTake 63 = .ok (.invokevirtual 237, 3) := by decide +kernel
theorem dX11_canTake_66 : decode cX11_canTake 66 = .ok (.ifCond .eq 18, 3) := by decide +kernel
theorem dX11_canTake_69 : decode cX11_canTake 69 = .ok (.aload_n 0, 1) := by decide +kernel
theorem dX11_canTake_70 : decode cX11_canTake 70 = .ok (.iload 5, 2) := by decide +kernel
theorem dX11_canTake_72 : decode cX11_canTake 72 = .ok (.bipush 8, 2) := by decide +kernel
theorem dX11_canTake_74 : decode cX11_canTake 74 = .ok (.invokevirtual 240, 3) := by decide +kernel
theorem dX11_canTake_77 : decode cX11_canTake 77 = .ok (.iload 4, 2) := by decide +kernel
theorem dX11_canTake_79 : decode cX11_canTake 79 = .ok (.if_icmp .ne 5, 3) := by decide +kernel
theorem dX11_canTake_82 : decode cX11_canTake 82 = .ok (.iconst 0, 1) := by decide +kernel
theorem dX11_canTake_83 : decode cX11_canTake 83 = .ok (.ireturn, 1) := by decide +kernel
theorem dX11_canTake_84 : decode cX11_canTake 84 = .ok (.iinc 5 1, 3) := by decide +kernel
theorem dX11_canTake_87 : decode cX11_canTake 87 = .ok (.goto (-37), 3) := by decide +kernel
theorem dX11_canTake_90 : decode cX11_canTake 90 = .ok (.aload_n 0, 1) := by decide +kernel
theorem dX11_canTake_91 : decode cX11_canTake 91 = .ok (.iload_n 2, 1) := by decide +kernel
theorem dX11_canTake_92 : decode cX11_canTake 92 = .ok (.invokevirtual 264, 3) := by decide +kernel
theorem dX11_canTake_95 : decode cX11_canTake 95 = .ok (.aload_n 0, 1) := by decide +kernel
theorem dX11_canTake_96 : decode cX11_canTake 96 = .ok (.iload_n 2, 1) := by decide +kernel
theorem dX11_canTake_97 : decode cX11_canTake 97 = .ok (.iconst 1, 1) := by decide +kernel
theorem dX11_canTake_98 : decode cX11_canTake 98 = .ok (.invokevirtual 110, 3) := by decide +kernel
theorem dX11_canTake_101 : decode cX11_canTake 101 = .ok (.if_icmp .ge 5, 3) := by decide +kernel
theorem dX11_canTake_104 : decode cX11_canTake 104 = .ok (.iconst 1, 1) := by decide +kernel
theorem dX11_canTake_105 : decode cX11_canTake 105 = .ok (.ireturn, 1) := by decide +kernel
theorem dX11_canTake_106 : decode cX11_canTake 106 = .ok (.aload_n 0, 1) := by decide +kernel
theorem dX11_canTake_107 : decode cX11_canTake 107 = .ok (.iload_n 2, 1) := by decide +kernel
theorem dX11_canTake_108 : decode cX11_canTake 108 = .ok (.invokevirtual 267, 3) := by decide +kernel
theorem dX11_canTake_111 : decode cX11_canTake 111 = .ok (.istore 5, 2) := by decide +kernel
theorem dX11_canTake_113 : decode cX11_canTake 113 = .ok (.aload_n 0, 1) := by decide +kernel
theorem dX11_canTake_114 : decode cX11_canTake 114 = .ok (.iload_n 2, 1) := by decide +kernel
theorem dX11_canTake_115 : decode cX11_canTake 115 = .ok (.iload 5, 2) := by decide +kernel
theorem dX11_canTake_117 : decode cX11_canTake 117 = .ok (.invokevirtual 258, 3) := by decide +kernel
theorem dX11_canTake_120 : decode cX11_canTake 120 = .ok (.aload_n 0, 1) := by decide +kernel
theorem dX11_canTake_121 : decode cX11_canTake 121 = .ok (.iload_n 1, 1) := by decide +kernel
theorem dX11_canTake_122 : decode cX11_canTake 122 = .ok (.iload 4, 2) := by decide +kernel
theorem dX11_canTake_124 : decode cX11_canTake 124 = .ok (.invokevirtual 258, 3) := by decide +kernel
theorem dX11_canTake_127 : decode cX11_canTake 127 = .ok (.if_icmp .ge 7, 3) := by decide +kernel
theorem dX11_canTake_130 : decode cX11_canTake 130 = .ok (.iconst 1, 1) := by decide +kernel
theorem dX11_canTake_131 : decode cX11_canTake 131 = .ok (.goto 4, 3) := by decide +kernel
theorem dX11_canTake_134 : decode cX11_canTake 134 = .ok (.iconst 0, 1) := by decide +kernel
theorem dX11_canTake_135 : decode cX11_canTake 135 = .ok (.ireturn, 1) := by decide +kernel
theorem dX11_handed_0 : decode cX11_handed 0 = .ok (.aload_n 0, 1) := by decide +kernel
theorem dX11_handed_1 : decode cX11_handed 1 = .ok (.iload_n 2, 1) := by decide +kernel
theorem dX11_handed_2 : decode cX11_handed 2 = .ok (.iconst 0, 1) := by decide +kernel
theorem dX11_handed_3 : decode cX11_handed 3 = .ok (.invokevirtual 240, 3) := by decide +kernel
theorem dX11_handed_6 : decode cX11_handed 6 = .ok (.iconst 1, 1) := by decide +kernel
theorem dX11_handed_7 : decode cX11_handed 7 = .ok (.if_icmp .eq 13, 3) := by decide +kernel
theorem dX11_handed_10 : decode cX11_handed 10 = .ok (.aload_n 0, 1) := by decide +kernel
theorem dX11_handed_11 : decode cX11_handed 11 = .ok (.iload_n 2, 1) := by decide +kernel
theorem dX11_handed_12 : decode cX11_handed 12 = .ok (.iconst 0, 1) := by decide +kernel
theorem dX11_handed_13 : decode cX11_handed 13 = .ok (.invokevirtual 240, 3) := by decide +kernel
theorem dX11_handed_16 : decode cX11_handed 16 = .ok (.iconst 2, 1) := by decide +kernel
theorem dX11_handed_17 : decode cX11_handed 17 = .ok (.if_icmp .ne 30, 3) := by decide +kernel
theorem dX11_handed_20 : decode cX11_handed 20 = .ok (.sipush 9999, 3) := by decide +kernel
theorem dX11_handed_23 : decode cX11_handed 23 = .ok (.aload_n 0, 1) := by decide +kernel
theorem dX11_handed_24 : decode cX11_handed 24 = .ok (.getfield 13, 3) := by decide +kernel
theorem dX11_handed_27 : decode cX11_handed 27 = .ok (.iload_n 1, 1) := by decide +kernel
theorem dX11_handed_28 : decode cX11_handed 28 = .ok (.iload_n 2, 1) := by decide +kernel
theorem dX11_handed_29 : decode cX11_handed 29 = .ok (.iconst 1, 1) := by decide +kernel
theorem dX11_handed_30 : decode cX11_handed 30 = .ok (.invokestatic 85, 3) := by decide +kernel
theorem dX11_handed_33 : decode cX11_handed 33 = .ok (.iaload, 1) := by decide +kernel
theorem dX11_handed_34 : decode cX11_handed 34 = .ok (.aload_n 0, 1) := by decide +kernel
theorem dX11_handed_35 : decode cX11_handed 35 = .ok (.iload_n 1, 1) := by decide +kernel
theorem dX11_handed_36 : decode cX11_handed 36 = .ok (.iconst 2, 1) := by decide +kernel
theorem dX11_handed_37 : decode cX11_handed 37 = .ok (.invokevirtual 110, 3) := by decide +kernel
theorem dX11_handed_40 : decode cX11_handed 40 = .ok (.iadd, 1) := by decide +kernel
theorem dX11_handed_41 : decode cX11_handed 41 = .ok (.invokestatic 280, 3) := by decide +kernel
theorem dX11_handed_44 : decode cX11_handed 44 = .ok (.goto 14, 3) := by decide +kernel
theorem dX11_handed_47 : decode cX11_handed 47 = .ok (.aload_n 0, 1) := by decide +kernel
theorem dX11_handed_48 : decode cX11_handed 48 = .ok (.getfield 13, 3) := by decide +kernel
theorem dX11_handed_51 : decode cX11_handed 51 = .ok (.iload_n 1, 1) := by decide +kernel
theorem dX11_handed_52 : decode cX11_handed 52 = .ok (.iload_n 2, 1) := by decide +kernel
theorem dX11_handed_53 : decode cX11_handed 53 = .ok (.iconst 1, 1) := by decide +kernel
theorem dX11_handed_54 : decode cX11_handed 54 = .ok (.invokestatic 85, 3) := by decide +kernel
theorem dX11_handed_57 : decode cX11_handed 57 = .ok (.iaload, 1) := by decide +kernel
theorem dX11_handed_58 : decode cX11_handed 58 = .ok (.ireturn, 1) := by decide +kernel
theorem dX11_hands_0 : decode cX11_hands 0 = .ok (.aload_n 0, 1) := by decide +kernel
theorem dX11_hands_1 : decode cX11_hands 1 = .ok (.iload_n 2, 1) := by decide +kernel
theorem dX11_hands_2 : decode cX11_hands 2 = .ok (.invokevirtual 264, 3) := by decide +kernel
theorem dX11_hands_5 : decode cX11_hands 5 = .ok (.aload_n 0, 1) := by decide +kernel
theorem dX11_hands_6 : decode cX11_hands 6 = .ok (.iload_n 2, 1) := by decide +kernel
theorem dX11_hands_7 : decode cX11_hands 7 = .ok (.iconst 1, 1) := by decide +kernel
theorem dX11_hands_8 : decode cX11_hands 8 = .ok (.invokevirtual 110, 3) := by decide +kernel
theorem dX11_hands_11 : decode cX11_hands 11 = .ok (.if_icmp .lt 30, 3) := by decide +kernel
theorem dX11_hands_14 : decode cX11_hands 14 = .ok (.aload_n 0, 1) := by decide +kernel
theorem dX11_hands_15 : decode cX11_hands 15 = .ok (.iload_n 2, 1) := by decide +kernel
theorem dX11_hands_16 : decode cX11_hands 16 = .ok (.invokevirtual 267, 3) := by decide +kernel
theorem dX11_hands_19 : decode cX11_hands 19 = .ok (.istore 5, 2) := by decide +kernel
theorem dX11_hands_21 : decode cX11_hands 21 = .ok (.aload_n 0, 1) := by decide +kernel
theorem dX11_hands_22 : decode cX11_hands 22 = .ok (.getfield 46, 3) := by decide +kernel
theorem dX11_hands_25 : decode cX11_hands 25 = .ok (.bipush 30, 2) := by decide +kernel
theorem dX11_hands_27 : decode cX11_hands 27 = .ok (.iload_n 3, 1) := by decide +kernel
theorem dX11_hands_28 : decode cX11_hands 28 = .ok (.imul, 1) := by decide +kernel
theorem dX11_hands_29 : decode cX11_hands 29 = .ok (.iload 5, 2) := by decide +kernel
theorem dX11_hands_31 : decode cX11_hands 31 = .ok (.iadd, 1) := by decide +kernel
theorem dX11_hands_32 : decode cX11_hands 32 = .ok (.iconst 1, 1) := by decide +kernel
theorem dX11_hands_33 : decode cX11_hands 33 = .ok (.bastore, 1) := by decide +kernel
theorem dX11_hands_34 : decode cX11_hands 34 = .ok (.aload_n 0, 1) := by decide +kernel
theorem dX11_hands_35 : decode cX11_hands 35 = .ok (.iload_n 2, 1) := by decide +kernel
theorem dX11_hands_36 : decode cX11_hands 36 = .ok (.iload 5, 2) := by decide +kernel
theorem dX11_hands_38 : decode cX11_hands 38 = .ok (.invokevirtual 270, 3) := by decide +kernel
theorem dX11_hands_41 : decode cX11_hands 41 = .ok (.aload_n 0, 1) := by decide +kernel
theorem dX11_hands_42 : decode cX11_hands 42 = .ok (.getfield 13, 3) := by decide +kernel
theorem dX11_hands_45 : decode cX11_hands 45 = .ok (.iload_n 1, 1) := by decide +kernel
theorem dX11_hands_46 : decode cX11_hands 46 = .ok (.iload 4, 2) := by decide +kernel
theorem dX11_hands_48 : decode cX11_hands 48 = .ok (.iconst 2, 1) := by decide +kernel
theorem dX11_hands_49 : decode cX11_hands 49 = .ok (.invokestatic 85, 3) := by decide +kernel
theorem dX11_hands_52 : decode cX11_hands 52 = .ok (.iaload, 1) := by decide +kernel
theorem dX11_hands_53 : decode cX11_hands 53 = .ok (.istore 5, 2) := by decide +kernel
theorem dX11_hands_55 : decode cX11_hands 55 = .ok (.aload_n 0, 1) := by decide +kernel
theorem dX11_hands_56 : decode cX11_hands 56 = .ok (.getfield 13, 3) := by decide +kernel
theorem dX11_hands_59 : decode cX11_hands 59 = .ok (.iload_n 1, 1) := by decide +kernel
theorem dX11_hands_60 : decode cX11_hands 60 = .ok (.iload 4, 2) := by decide +kernel
theorem dX11_hands_62 : decode cX11_hands 62 = .ok (.iconst 5, 1) := by decide +kernel
theorem dX11_hands_63 : decode cX11_hands 63 = .ok (.invokestatic 85, 3) := by decide +kernel
theorem dX11_hands_66 : decode cX11_hands 66 = .ok (.iaload, 1) := by decide +kernel
theorem dX11_hands_67 : decode cX11_hands 67 = .ok (.iload 5, 2) := by decide +kernel
theorem dX11_hands_69 : decode cX11_hands 69 = .ok (.bipush 7, 2) := by decide +kernel
theorem dX11_hands_71 : decode cX11_hands 71 = .ok (.if_icmp .ge 12, 3) := by decide +kernel
theorem dX11_hands_74 : decode cX11_hands 74 = .ok (.iload_n 1, 1) := by decide +kernel
theorem dX11_hands_75 : decode cX11_hands 75 = .ok (.iconst 4, 1) := by decide +kernel
theorem dX11_hands_76 : decode cX11_hands 76 = .ok (.iload 5, 2) := by decide +kernel
theorem dX11_hands_78 : decode cX11_hands 78 = .ok (.imul, 1) := by decide +kernel
theorem dX11_hands_79 : decode cX11_hands 79 = .ok (.ishl, 1) := by decide +kernel
theorem dX11_hands_80 : decode cX11_hands 80 = .ok (.goto 4, 3) := by decide +kernel
theorem dX11_hands_83 : decode cX11_hands 83 = .ok (.iconst 0, 1) := by decide +kernel
theorem dX11_hands_84 : decode cX11_hands 84 = .ok (.ior, 1) := by decide +kernel
theorem dX11_hands_85 : decode cX11_hands 85 = .ok (.istore 6, 2) := by decide +kernel
theorem dX11_hands_87 : decode cX11_hands 87 = .ok (.aload_n 0, 1) := by decide +kernel
theorem dX11_hands_88 : decode cX11_hands 88 = .ok (.getfield 13, 3) := by decide +kernel
theorem dX11_hands_91 : decode cX11_hands 91 = .ok (.iload_n 1, 1) := by decide +kernel
theorem dX11_hands_92 : decode cX11_hands 92 = .ok (.iload 4, 2) := by decide +kernel
theorem dX11_hands_94 : decode cX11_hands 94 = .ok (.bipush 6, 2) := by decide +kernel
theorem dX11_hands_96 : decode cX11_hands 96 = .ok (.invokestatic 85, 3) := by decide +kernel
theorem dX11_hands_99 : decode cX11_hands 99 = .ok (.iaload, 1) := by decide +kernel
theorem dX11_hands_100 : decode cX11_hands 100 = .ok (.iload 5, 2) := by decide +kernel
theorem dX11_hands_102 : decode cX11_hands 102 = .ok (.bipush 7, 2) := by decide +kernel
theorem dX11_hands_104 : decode cX11_hands 104 = .ok (.if_icmp .lt 15, 3) := by decide +kernel
theorem dX11_hands_107 : decode cX11_hands 107 = .ok (.iload_n 1, 1) := by decide +kernel
theorem dX11_hands_108 : decode cX11_hands 108 = .ok (.iconst 4, 1) := by decide +kernel
theorem dX11_hands_109 : decode cX11_hands 109 = .ok (.iload 5, 2) := by decide +kernel
theorem dX11_hands_111 : decode cX11_hands 111 = .ok (.bipush 7, 2) := by decide +kernel
theorem dX11_hands_113 : decode cX11_hands 113 = .ok (.isub, 1) := by decide +kernel
theorem dX11_hands_114 : decode cX11_hands 114 = .ok (.imul, 1) := by decide +kernel
theorem dX11_hands_115 : decode cX11_hands 115 = .ok (.ishl, 1) := by decide +kernel
theorem dX11_hands_116 : decode cX11_hands 116 = .ok (.goto 4, 3) := by decide +kernel
theorem dX11_hands_119 : decode cX11_hands 119 = .ok (.iconst 0, 1) := by decide +kernel
theorem dX11_hands_120 : decode cX11_hands 120 = .ok (.ior, 1) := by decide +kernel
theorem dX11_hands_121 : decode cX11_hands 121 = .ok (.istore 7, 2) := by decide +kernel
theorem dX11_hands_123 : decode cX11_hands 123 = .ok (.aload_n 0, 1) := by decide +kernel
theorem dX11_hands_124 : decode cX11_hands 124 = .ok (.iload_n 2, 1) := by decide +kernel
theorem dX11_hands_125 : decode cX11_hands 125 = .ok (.iload 4, 2) := by decide +kernel
theorem dX11_hands_127 : decode cX11_hands 127 = .ok (.aload_n 0, 1) := by decide +kernel
theorem dX11_hands_128 : decode cX11_hands 128 = .ok (.iload_n 1, 1) := by decide +kernel
theorem dX11_hands_129 : decode cX11_hands 129 = .ok (.iload 4, 2) := by decide +kernel
theorem dX11_hands_131 : decode cX11_hands 131 = .ok (.invokevirtual 283, 3) := by decide +kernel
theorem dX11_hands_134 : decode cX11_hands 134 = .ok (.iload 5, 2) := by decide +kernel
theorem dX11_hands_136 : decode cX11_hands 136 = .ok (.iconst 1, 1) := by decide +kernel
theorem dX11_hands_137 : decode cX11_hands 137 = .ok (.iadd, 1) := by decide +kernel
theorem dX11_hands_138 : decode cX11_hands 138 = .ok (.iload_n 1, 1) := by decide +kernel
theorem dX11_hands_139 : decode cX11_hands 139 = .ok (.iload 6, 2) := by decide +kernel
theorem dX11_hands_141 : decode cX11_hands 141 = .ok (.iload 7, 2) := by decide +kernel
theorem dX11_hands_143 : decode cX11_hands 143 = .ok (.invokevirtual 273, 3) := by decide +kernel
theorem dX11_hands_146 : decode cX11_hands 146 = .ok (.aload_n 0, 1) := by decide +kernel
theorem dX11_hands_147 : decode cX11_hands 147 = .ok (.getfield 13, 3) := by decide +kernel
theorem dX11_hands_150 : decode cX11_hands 150 = .ok (.iload_n 1, 1) := by decide +kernel
theorem dX11_hands_151 : decode cX11_hands 151 = .ok (.iconst 2, 1) := by decide +kernel
theorem dX11_hands_152 : decode cX11_hands 152 = .ok (.invokestatic 100, 3) := by decide +kernel
theorem dX11_hands_155 : decode cX11_hands 155 = .ok (.dup2, 1) := by decide +kernel
theorem dX11_hands_156 : decode cX11_hands 156 = .ok (.iaload, 1) := by decide +kernel
theorem dX11_hands_157 : decode cX11_hands 157 = .ok (.iconst 1, 1) := by decide +kernel
theorem dX11_hands_158 : decode cX11_hands 158 = .ok (.iadd, 1) := by decide +kernel
theorem dX11_hands_159 : decode cX11_hands 159 = .ok (.iastore, 1) := by decide +kernel
theorem dX11_hands_160 : decode cX11_hands 160 = .ok (.aload_n 0, 1) := by decide +kernel
theorem dX11_hands_161 : decode cX11_hands 161 = .ok (.getfield 13, 3) := by decide +kernel
theorem dX11_hands_164 : decode cX11_hands 164 = .ok (.iload_n 2, 1) := by decide +kernel
theorem dX11_hands_165 : decode cX11_hands 165 = .ok (.iconst 3, 1) := by decide +kernel
theorem dX11_hands_166 : decode cX11_hands 166 = .ok (.invokestatic 100, 3) := by decide +kernel
theorem dX11_hands_169 : decode cX11_hands 169 = .ok (.dup2, 1) := by decide +kernel
theorem dX11_hands_170 : decode cX11_hands 170 = .ok (.iaload, 1) := by decide +kernel
theorem dX11_hands_171 : decode cX11_hands 171 = .ok (.iconst 1, 1) := by decide +kernel
theorem dX11_hands_172 : decode cX11_hands 172 = .ok (.iadd, 1) := by decide +kernel
theorem dX11_hands_173 : decode cX11_hands 173 = .ok (.iastore, 1) := by decide +kernel
theorem dX11_hands_174 : decode cX11_hands 174 = .ok (.aload_n 0, 1) := by decide +kernel
theorem dX11_hands_175 : decode cX11_hands 175 = .ok (.getfield 13, 3) := by decide +kernel
theorem dX11_hands_178 : decode cX11_hands 178 = .ok (.iload_n 1, 1) := by decide +kernel
theorem dX11_hands_179 : decode cX11_hands 179 = .ok (.iconst 1, 1) := by decide +kernel
theorem dX11_hands_180 : decode cX11_hands 180 = .ok (.invokestatic 100, 3) := by decide +kernel
theorem dX11_hands_183 : decode cX11_hands 183 = .ok (.iconst 0, 1) := by decide +kernel
theorem dX11_hands_184 : decode cX11_hands 184 = .ok (.aload_n 0, 1) := by decide +kernel
theorem dX11_hands_185 : decode cX11_hands 185 = .ok (.getfield 13, 3) := by decide +kernel
theorem dX11_hands_188 : decode cX11_hands 188 = .ok (.iload_n 1, 1) := by decide +kernel
theorem dX11_hands_189 : decode cX11_hands 189 = .ok (.iconst 1, 1) := by decide +kernel
theorem dX11_hands_190 : decode cX11_hands 190 = .ok (.invokestatic 100, 3) := by decide +kernel
theorem dX11_hands_193 : decode cX11_hands 193 = .ok (.iaload, 1) := by decide +kernel
theorem dX11_hands_194 : decode cX11_hands 194 = .ok (.aload_n 0, 1) := by decide +kernel
theorem dX11_hands_195 : decode cX11_hands 195 = .ok (.invokevirtual 286, 3) := by decide +kernel
theorem dX11_hands_198 : decode cX11_hands 198 = .ok (.isub, 1) := by decide +kernel
theorem dX11_hands_199 : decode cX11_hands 199 = .ok (.invokestatic 228, 3) := by decide +kernel
theorem dX11_hands_202 : decode cX11_hands 202 = .ok (.iastore, 1) := by decide +kernel
theorem dX11_hands_203 : decode cX11_hands 203 = .ok (.aload_n 0, 1) := by decide +kernel
theorem dX11_hands_204 : decode cX11_hands 204 = .ok (.getfield 13, 3) := by decide +kernel
theorem dX11_hands_207 : decode cX11_hands 207 = .ok (.iload_n 2, 1) := by decide +kernel
theorem dX11_hands_208 : decode cX11_hands 208 = .ok (.iconst 1, 1) := by decide +kernel
theorem dX11_hands_209 : decode cX11_hands 209 = .ok (.invokestatic 100, 3) := by decide +kernel
theorem dX11_hands_212 : decode cX11_hands 212 = .ok (.dup2, 1) := by decide +kernel
theorem dX11_hands_213 : decode cX11_hands 213 = .ok (.iaload, 1) := by decide +kernel
theorem dX11_hands_214 : decode cX11_hands 214 = .ok (.iconst 1, 1) := by decide +kernel
theorem dX11_hands_215 : decode cX11_hands 215 = .ok (.isub, 1) := by decide +kernel
theorem dX11_hands_216 : decode cX11_hands 216 = .ok (.iastore, 1) := by decide +kernel
theorem dX11_hands_217 : decode cX11_hands 217 = .ok (.return_, 1) := by decide +kernel
theorem dX11_meet_0 : decode cX11_meet 0 = .ok (.iconst 0, 1) := by decide +kernel
theorem dX11_meet_1 : decode cX11_meet 1 = .ok (.istore_n 3, 1) := by decide +kernel
theorem dX11_meet_2 : decode cX11_meet 2 = .ok (.iload_n 3, 1) := by decide +kernel
theorem dX11_meet_3 : decode cX11_meet 3 = .ok (.bipush 60, 2) := by decide +kernel
theorem dX11_meet_5 : decode cX11_meet 5 = .ok (.if_icmp .ge 16, 3) := by decide +kernel
theorem dX11_meet_8 : decode cX11_meet 8 = .ok (.aload_n 0, 1) := by decide +kernel
theorem dX11_meet_9 : decode cX11_meet 9 = .ok (.getfield 46, 3) := by decide +kernel
theorem dX11_meet_12 : decode cX11_meet 12 = .ok (.iload_n 3, 1) := by decide +kernel
theorem dX11_meet_13 : decode cX11_meet 13 = .ok (.iconst 0, 1) := by decide +kernel
theorem dX11_meet_14 : decode cX11_meet 14 = .ok (.bastore, 1) := by decide +kernel
theorem dX11_meet_15 : decode cX11_meet 15 = .ok (.iinc 3 1, 3) := by decide +kernel
theorem dX11_meet_18 : decode cX11_meet 18 = .ok (.goto (-16), 3) := by decide +kernel
theorem dX11_meet_21 : decode cX11_meet 21 = .ok (.iconst 1, 1) := by decide +kernel
theorem dX11_meet_22 : decode cX11_meet 22 = .ok (.istore_n 3, 1) := by decide +kernel
theorem dX11_meet_23 : decode cX11_meet 23 = .ok (.iload_n 3, 1) := by decide +kernel
theorem dX11_meet_24 : decode cX11_meet 24 = .ok (.ifCond .eq 193, 3) := by decide +kernel
theorem dX11_meet_27 : decode cX11_meet 27 = .ok (.aload_n 0, 1) := by decide +kernel
theorem dX11_meet_28 : decode cX11_meet 28 = .ok (.getfield 13, 3) := by decide +kernel
theorem dX11_meet_31 : decode cX11_meet 31 = .ok (.iload_n 1, 1) := by decide +kernel
theorem dX11_meet_32 : decode cX11_meet 32 = .ok (.iconst 1, 1) := by decide +kernel
theorem dX11_meet_33 : decode cX11_meet 33 = .ok (.invokestatic 100, 3) := by decide +kernel
theorem dX11_meet_36 : decode cX11_meet 36 = .ok (.iaload, 1) := by decide +kernel
theorem dX11_meet_37 : decode cX11_meet 37 = .ok (.ifCond .le 180, 3) := by decide +kernel
theorem dX11_meet_40 : decode cX11_meet 40 = .ok (.aload_n 0, 1) := by decide +kernel
theorem dX11_meet_41 : decode cX11_meet 41 = .ok (.getfield 13, 3) := by decide +kernel
theorem dX11_meet_44 : decode cX11_meet 44 = .ok (.iload_n 2, 1) := by decide +kernel
theorem dX11_meet_45 : decode cX11_meet 45 = .ok (.iconst 1, 1) := by decide +kernel
theorem dX11_meet_46 : decode cX11_meet 46 = .ok (.invokestatic 100, 3) := by decide +kernel
theorem dX11_meet_49 : decode cX11_meet 49 = .ok (.iaload, 1) := by decide +kernel
theorem dX11_meet_50 : decode cX11_meet 50 = .ok (.ifCond .le 167, 3) := by decide +kernel
theorem dX11_meet_53 : decode cX11_meet 53 = .ok (.iconst (-1), 1) := by decide +kernel
theorem dX11_meet_54 : decode cX11_meet 54 = .ok (.istore 4, 2) := by decide +kernel
theorem dX11_meet_56 : decode cX11_meet 56 = .ok (.iconst 0, 1) := by decide +kernel
theorem dX11_meet_57 : decode cX11_meet 57 = .ok (.istore 5, 2) := by decide +kernel
theorem dX11_meet_59 : decode cX11_meet 59 = .ok (.iconst 0, 1) := by decide +kernel
theorem dX11_meet_60 : decode cX11_meet 60 = .ok (.istore 6, 2) := by decide +kernel
theorem dX11_meet_62 : decode cX11_meet 62 = .ok (.iload 6, 2) := by decide +kernel
theorem dX11_meet_64 : decode cX11_meet 64 = .ok (.aload_n 0, 1) := by decide +kernel
theorem dX11_meet_65 : decode cX11_meet 65 = .ok (.invokevirtual 72, 3) := by decide +kernel
theorem dX11_meet_68 : decode cX11_meet 68 = .ok (.if_icmp .ge 97, 3) := by decide +kernel
theorem dX11_meet_71 : decode cX11_meet 71 = .ok (.aload_n 0, 1) := by decide +kernel
theorem dX11_meet_72 : decode cX11_meet 72 = .ok (.iload_n 1, 1) := by decide +kernel
theorem dX11_meet_73 : decode cX11_meet 73 = .ok (.iload 6, 2) := by decide +kernel
theorem dX11_meet_75 : decode cX11_meet 75 = .ok (.invokevirtual 237, 3) := by decide +kernel
theorem dX11_meet_78 : decode cX11_meet 78 = .ok (.istore 7, 2) := by decide +kernel
theorem dX11_meet_80 : decode cX11_meet 80 = .ok (.iload 7, 2) := by decide +kernel
theorem dX11_meet_82 : decode cX11_meet 82 = .ok (.ifCond .eq 7, 3) := by decide +kernel
theorem dX11_meet_85 : decode cX11_meet 85 = .ok (.iload_n 1, 1) := by decide +kernel
theorem dX11_meet_86 : decode cX11_meet 86 = .ok (.goto 4, 3) := by decide +kernel
theorem dX11_meet_89 : decode cX11_meet 89 = .ok (.iload_n 2, 1) := by decide +kernel
theorem dX11_meet_90 : decode cX11_meet 90 = .ok (.istore 8, 2) := by decide +kernel
theorem dX11_meet_92 : decode cX11_meet 92 = .ok (.aload_n 0, 1) := by decide +kernel
theorem dX11_meet_93 : decode cX11_meet 93 = .ok (.iload 8, 2) := by decide +kernel
theorem dX11_meet_95 : decode cX11_meet 95 = .ok (.iload 7, 2) := by decide +kernel
theorem dX11_meet_97 : decode cX11_meet 97 = .ok (.ifCond .eq 7, 3) := by decide +kernel
theorem dX11_meet_100 : decode cX11_meet 100 = .ok (.iload_n 2, 1) := by decide +kernel
theorem dX11_meet_101 : decode cX11_meet 101 = .ok (.goto 4, 3) := by decide +kernel
theorem dX11_meet_104 : decode cX11_meet 104 = .ok (.iload_n 1, 1) := by decide +kernel
theorem dX11_meet_105 : decode cX11_meet 105 = .ok (.iload 7, 2) := by decide +kernel
theorem dX11_meet_107 : decode cX11_meet 107 = .ok (.ifCond .eq 7, 3) := by decide +kernel
theorem dX11_meet_110 : decode cX11_meet 110 = .ok (.iconst 1, 1) := by decide +kernel
theorem dX11_meet_111 : decode cX11_meet 111 = .ok (.goto 4, 3) := by decide +kernel
theorem dX11_meet_114 : decode cX11_meet 114 = .ok (.iconst 0, 1) := by decide +kernel
theorem dX11_meet_115 : decode cX11_meet 115 = .ok (.iload 6, 2) := by decide +kernel
theorem dX11_meet_117 : decode cX11_meet 117 = .ok (.invokevirtual 289, 3) := by decide +kernel
theorem dX11_meet_120 : decode cX11_meet 120 = .ok (.ifCond .ne 6, 3) := by decide +kernel
theorem dX11_meet_123 : decode cX11_meet 123 = .ok (.goto 36, 3) := by decide +kernel
theorem dX11_meet_126 : decode cX11_meet 126 = .ok (.aload_n 0, 1) := by decide +kernel
theorem dX11_meet_127 : decode cX11_meet 127 = .ok (.iload 8, 2) := by decide +kernel
theorem dX11_meet_129 : decode cX11_meet 129 = .ok (.iload 6, 2) := by decide +kernel
theorem dX11_meet_131 : decode cX11_meet 131 = .ok (.invokevirtual 258, 3) := by decide +kernel
theorem dX11_meet_134 : decode cX11_meet 134 = .ok (.istore 9, 2) := by decide +kernel
theorem dX11_meet_136 : decode cX11_meet 136 = .ok (.iload 4, 2) := by decide +kernel
theorem dX11_meet_138 : decode cX11_meet 138 = .ok (.ifCond .lt 13, 3) := by decide +kernel
theorem dX11_meet_141 : decode cX11_meet 141 = .ok (.iload 9, 2) := by decide +kernel
theorem dX11_meet_143 : decode cX11_meet 143 = .ok (.iload 5, 2) := by decide +kernel
theorem dX11_meet_145 : decode cX11_meet 145 = .ok (.if_icmp .gt 6, 3) := by decide +kernel
theorem dX11_meet_148 : decode cX11_meet 148 = .ok (.goto 11, 3) := by decide +kernel
theorem dX11_meet_151 : decode cX11_meet 151 = .ok (.iload 6, 2) := by decide +kernel
theorem dX11_meet_153 : decode cX11_meet 153 = .ok (.istore 4, 2) := by decide +kernel
theorem dX11_meet_155 : decode cX11_meet 155 = .ok (.iload 9, 2) := by decide +kernel
theorem dX11_meet_157 : decode cX11_meet 157 = .ok (.istore 5, 2) := by decide +kernel
theorem dX11_meet_159 : decode cX11_meet 159 = .ok (.iinc 6 1, 3) := by decide +kernel
theorem dX11_meet_162 : decode cX11_meet 162 = .ok (.goto (-100), 3) := by decide +kernel
theorem dX11_meet_165 : decode cX11_meet 165 = .ok (.iload 4, 2) := by decide +kernel
theorem dX11_meet_167 : decode cX11_meet 167 = .ok (.ifCond .lt 7, 3) := by decide +kernel
theorem dX11_meet_170 : decode cX11_meet 170 = .ok (.iconst 1, 1) := by decide +kernel
theorem dX11_meet_171 : decode cX11_meet 171 = .ok (.goto 4, 3) := by decide +kernel
theorem dX11_meet_174 : decode cX11_meet 174 = .ok (.iconst 0, 1) := by decide +kernel
theorem dX11_meet_175 : decode cX11_meet 175 = .ok (.istore_n 3, 1) := by decide +kernel
theorem dX11_meet_176 : decode cX11_meet 176 = .ok (.iload_n 3, 1) := by decide +kernel
theorem dX11_meet_177 : decode cX11_meet 177 = .ok (.ifCond .ne 6, 3) := by decide +kernel
theorem dX11_meet_180 : decode cX11_meet 180 = .ok (.goto (-157), 3) := by decide +kernel
theorem dX11_meet_183 : decode cX11_meet 183 = .ok (.aload_n 0, 1) := by decide +kernel
theorem dX11_meet_184 : decode cX11_meet 184 = .ok (.iload_n 1, 1) := by decide +kernel
theorem dX11_meet_185 : decode cX11_meet 185 = .ok (.iload 4, 2) := by decide +kernel
theorem dX11_meet_187 : decode cX11_meet 187 = .ok (.invokevirtual 237, 3) := by decide +kernel
theorem dX11_meet_190 : decode cX11_meet 190 = .ok (.ifCond .eq 15, 3) := by decide +kernel
theorem dX11_meet_193 : decode cX11_meet 193 = .ok (.aload_n 0, 1) := by decide +kernel
theorem dX11_meet_194 : decode cX11_meet 194 = .ok (.iload_n 1, 1) := by decide +kernel
theorem dX11_meet_195 : decode cX11_meet 195 = .ok (.iload_n 2, 1) := by decide +kernel
theorem dX11_meet_196 : decode cX11_meet 196 = .ok (.iconst 1, 1) := by decide +kernel
theorem dX11_meet_197 : decode cX11_meet 197 = .ok (.iload 4, 2) := by decide +kernel
theorem dX11_meet_199 : decode cX11_meet 199 = .ok (.invokevirtual 293, 3) := by decide +kernel
theorem dX11_meet_202 : decode cX11_meet 202 = .ok (.goto 12, 3) := by decide +kernel
theorem dX11_meet_205 : decode cX11_meet 205 = .ok (.aload_n 0, 1) := by decide +kernel
theorem dX11_meet_206 : decode cX11_meet 206 = .ok (.iload_n 2, 1) := by decide +kernel
theorem dX11_meet_207 : decode cX11_meet 207 = .ok (.iload_n 1, 1) := by decide +kernel
theorem dX11_meet_208 : decode cX11_meet 208 = .ok (.iconst 0, 1) := by decide +kernel
theorem dX11_meet_209 : decode cX11_meet 209 = .ok (.iload 4, 2) := by decide +kernel
theorem dX11_meet_211 : decode cX11_meet 211 = .ok (.invokevirtual 293, 3) := by decide +kernel
theorem dX11_meet_214 : decode cX11_meet 214 = .ok (.goto (-191), 3) := by decide +kernel
theorem dX11_meet_217 : decode cX11_meet 217 = .ok (.return_, 1) := by decide +kernel
theorem dX11_allCopies_0 : decode cX11_allCopies 0 = .ok (.iconst 0, 1) := by decide +kernel
theorem dX11_allCopies_1 : decode cX11_allCopies 1 = .ok (.istore_n 1, 1) := by decide +kernel
theorem dX11_allCopies_2 : decode cX11_allCopies 2 = .ok (.iconst 0, 1) := by decide +kernel
theorem dX11_allCopies_3 : decode cX11_allCopies 3 = .ok (.istore_n 2, 1) := by decide +kernel
theorem dX11_allCopies_4 : decode cX11_allCopies 4 = .ok (.iload_n 2, 1) := by decide +kernel
theorem dX11_allCopies_5 : decode cX11_allCopies 5 = .ok (.aload_n 0, 1) := by decide +kernel
theorem dX11_allCopies_6 : decode cX11_allCopies 6 = .ok (.invokevirtual 64, 3) := by decide +kernel
theorem dX11_allCopies_9 : decode cX11_allCopies 9 = .ok (.if_icmp .ge 17, 3) := by decide +kernel
theorem dX11_allCopies_12 : decode cX11_allCopies 12 = .ok (.iload_n 1, 1) := by decide +kernel
theorem dX11_allCopies_13 : decode cX11_allCopies 13 = .ok (.aload_n 0, 1) := by decide +kernel
theorem dX11_allCopies_14 : decode cX11_allCopies 14 = .ok (.iload_n 2, 1) := by decide +kernel
theorem dX11_allCopies_15 : decode cX11_allCopies 15 = .ok (.invokevirtual 264, 3) := by decide +kernel
theorem dX11_allCopies_18 : decode cX11_allCopies 18 = .ok (.iadd, 1) := by decide +kernel
theorem dX11_allCopies_19 : decode cX11_allCopies 19 = .ok (.istore_n 1, 1) := by decide +kernel
theorem dX11_allCopies_20 : decode cX11_allCopies 20 = .ok (.iinc 2 1, 3) := by decide +kernel
theorem dX11_allCopies_23 : decode cX11_allCopies 23 = .ok (.goto (-19), 3) := by decide +kernel
theorem dX11_allCopies_26 : decode cX11_allCopies 26 = .ok (.iload_n 1, 1) := by decide +kernel
theorem dX11_allCopies_27 : decode cX11_allCopies 27 = .ok (.ireturn, 1) := by decide +kernel
theorem dX11_isDead_0 : decode cX11_isDead 0 = .ok (.aload_n 0, 1) := by decide +kernel
theorem dX11_isDead_1 : decode cX11_isDead 1 = .ok (.invokevirtual 97, 3) := by decide +kernel
theorem dX11_isDead_4 : decode cX11_isDead 4 = .ok (.aload_n 0, 1) := by decide +kernel
theorem dX11_isDead_5 : decode cX11_isDead 5 = .ok (.iload_n 1, 1) := by decide +kernel
theorem dX11_isDead_6 : decode cX11_isDead 6 = .ok (.iconst 2, 1) := by decide +kernel
theorem dX11_isDead_7 : decode cX11_isDead 7 = .ok (.invokevirtual 240, 3) := by decide +kernel
theorem dX11_isDead_10 : decode cX11_isDead 10 = .ok (.aload_n 0, 1) := by decide +kernel
theorem dX11_isDead_11 : decode cX11_isDead 11 = .ok (.iload_n 1, 1) := by decide +kernel
theorem dX11_isDead_12 : decode cX11_isDead 12 = .ok (.iconst 3, 1) := by decide +kernel
theorem dX11_isDead_13 : decode cX11_isDead 13 = .ok (.invokevirtual 240, 3) := by decide +kernel
theorem dX11_isDead_16 : decode cX11_isDead 16 = .ok (.iadd, 1) := by decide +kernel
theorem dX11_isDead_17 : decode cX11_isDead 17 = .ok (.if_icmp .lt 7, 3) := by decide +kernel
theorem dX11_isDead_20 : decode cX11_isDead 20 = .ok (.iconst 1, 1) := by decide +kernel
theorem dX11_isDead_21 : decode cX11_isDead 21 = .ok (.goto 4, 3) := by decide +kernel
theorem dX11_isDead_24 : decode cX11_isDead 24 = .ok (.iconst 0, 1) := by decide +kernel
theorem dX11_isDead_25 : decode cX11_isDead 25 = .ok (.ireturn, 1) := by decide +kernel
theorem dX11_goesOn_0 : decode cX11_goesOn 0 = .ok (.aload_n 0, 1) := by decide +kernel
theorem dX11_goesOn_1 : decode cX11_goesOn 1 = .ok (.getfield 13, 3) := by decide +kernel
theorem dX11_goesOn_4 : decode cX11_goesOn 4 = .ok (.iconst 0, 1) := by decide +kernel
theorem dX11_goesOn_5 : decode cX11_goesOn 5 = .ok (.dup2, 1) := by decide +kernel
theorem dX11_goesOn_6 : decode cX11_goesOn 6 = .ok (.iaload, 1) := by decide +kernel
theorem dX11_goesOn_7 : decode cX11_goesOn 7 = .ok (.iconst 1, 1) := by decide +kernel
theorem dX11_goesOn_8 : decode cX11_goesOn 8 = .ok (.iadd, 1) := by decide +kernel
theorem dX11_goesOn_9 : decode cX11_goesOn 9 = .ok (.iastore, 1) := by decide +kernel
theorem dX11_goesOn_10 : decode cX11_goesOn 10 = .ok (.iconst 0, 1) := by decide +kernel
theorem dX11_goesOn_11 : decode cX11_goesOn 11 = .ok (.istore_n 1, 1) := by decide +kernel
theorem dX11_goesOn_12 : decode cX11_goesOn 12 = .ok (.iload_n 1, 1) := by decide +kernel
theorem dX11_goesOn_13 : decode cX11_goesOn 13 = .ok (.aload_n 0, 1) := by decide +kernel
theorem dX11_goesOn_14 : decode cX11_goesOn 14 = .ok (.invokevirtual 64, 3) := by decide +kernel
theorem dX11_goesOn_17 : decode cX11_goesOn 17 = .ok (.if_icmp .ge 28, 3) := by decide +kernel
theorem dX11_goesOn_20 : decode cX11_goesOn 20 = .ok (.aload_n 0, 1) := by decide +kernel
theorem dX11_goesOn_21 : decode cX11_goesOn 21 = .ok (.getfield 13, 3) := by decide +kernel
theorem dX11_goesOn_24 : decode cX11_goesOn 24 = .ok (.iload_n 1, 1) := by decide +kernel
theorem dX11_goesOn_25 : decode cX11_goesOn 25 = .ok (.iconst 0, 1) := by decide +kernel
theorem dX11_goesOn_26 : decode cX11_goesOn 26 = .ok (.invokestatic 100, 3) := by decide +kernel
theorem dX11_goesOn_29 : decode cX11_goesOn 29 = .ok (.aload_n 0, 1) := by decide +kernel
theorem dX11_goesOn_30 : decode cX11_goesOn 30 = .ok (.iload_n 1, 1) := by decide +kernel
theorem dX11_goesOn_31 : decode cX11_goesOn 31 = .ok (.aload_n 0, 1) := by decide +kernel
theorem dX11_goesOn_32 : decode cX11_goesOn 32 = .ok (.invokevirtual 97, 3) := by decide +kernel
theorem dX11_goesOn_35 : decode cX11_goesOn 35 = .ok (.invokevirtual 297, 3) := by decide +kernel
theorem dX11_goesOn_38 : decode cX11_goesOn 38 = .ok (.iastore, 1) := by decide +kernel
theorem dX11_goesOn_39 : decode cX11_goesOn 39 = .ok (.iinc 1 1, 3) := by decide +kernel
theorem dX11_goesOn_42 : decode cX11_goesOn 42 = .ok (.goto (-30), 3) := by decide +kernel
theorem dX11_goesOn_45 : decode cX11_goesOn 45 = .ok (.iconst 0, 1) := by decide +kernel
theorem dX11_goesOn_46 : decode cX11_goesOn 46 = .ok (.istore_n 1, 1) := by decide +kernel
theorem dX11_goesOn_47 : decode cX11_goesOn 47 = .ok (.iload_n 1, 1) := by decide +kernel
theorem dX11_goesOn_48 : decode cX11_goesOn 48 = .ok (.aload_n 0, 1) := by decide +kernel
theorem dX11_goesOn_49 : decode cX11_goesOn 49 = .ok (.invokevirtual 64, 3) := by decide +kernel
theorem dX11_goesOn_52 : decode cX11_goesOn 52 = .ok (.if_icmp .ge 54, 3) := by decide +kernel
theorem dX11_goesOn_55 : decode cX11_goesOn 55 = .ok (.iconst 0, 1) := by decide +kernel
theorem dX11_goesOn_56 : decode cX11_goesOn 56 = .ok (.istore_n 2, 1) := by decide +kernel
theorem dX11_goesOn_57 : decode cX11_goesOn 57 = .ok (.iload_n 2, 1) := by decide +kernel
theorem dX11_goesOn_58 : decode cX11_goesOn 58 = .ok (.aload_n 0, 1) := by decide +kernel
theorem dX11_goesOn_59 : decode cX11_goesOn 59 = .ok (.invokevirtual 72, 3) := by decide +kernel
theorem dX11_goesOn_62 : decode cX11_goesOn 62 = .ok (.if_icmp .ge 38, 3) := by decide +kernel
theorem dX11_goesOn_65 : decode cX11_goesOn 65 = .ok (.aload_n 0, 1) := by decide +kernel
theorem dX11_goesOn_66 : decode cX11_goesOn 66 = .ok (.iload_n 1, 1) := by decide +kernel
theorem dX11_goesOn_67 : decode cX11_goesOn 67 = .ok (.iload_n 2, 1) := by decide +kernel
theorem dX11_goesOn_68 : decode cX11_goesOn 68 = .ok (.invokevirtual 237, 3) := by decide +kernel
theorem dX11_goesOn_71 : decode cX11_goesOn 71 = .ok (.ifCond .eq 23, 3) := by decide +kernel
theorem dX11_goesOn_74 : decode cX11_goesOn 74 = .ok (.aload_n 0, 1) := by decide +kernel
theorem dX11_goesOn_75 : decode cX11_goesOn 75 = .ok (.iload_n 2, 1) := by decide +kernel
theorem dX11_goesOn_76 : decode cX11_goesOn 76 = .ok (.invokevirtual 300, 3) := by decide +kernel
theorem dX11_goesOn_79 : decode cX11_goesOn 79 = .ok (.ifCond .eq 15, 3) := by decide +kernel
theorem dX11_goesOn_82 : decode cX11_goesOn 82 = .ok (.aload_n 0, 1) := by decide +kernel
theorem dX11_goesOn_83 : decode cX11_goesOn 83 = .ok (.getfield 13, 3) := by decide +kernel
theorem dX11_goesOn_86 : decode cX11_goesOn 86 = .ok (.iload_n 1, 1) := by decide +kernel
theorem dX11_goesOn_87 : decode cX11_goesOn 87 = .ok (.iload_n 2, 1) := by decide +kernel
theorem dX11_goesOn_88 : decode cX11_goesOn 88 = .ok (.iconst 0, 1) := by decide +kernel
theorem dX11_goesOn_89 : decode cX11_goesOn 89 = .ok (.invokestatic 85, 3) := by decide +kernel
theorem dX11_goesOn_92 : decode cX11_goesOn 92 = .ok (.iconst 0, 1) := by decide +kernel
theorem dX11_goesOn_93 : decode cX11_goesOn 93 = .ok (.iastore, 1) := by decide +kernel
theorem dX11_goesOn_94 : decode cX11_goesOn 94 = .ok (.iinc 2 1, 3) := by decide +kernel
theorem dX11_goesOn_97 : decode cX11_goesOn 97 = .ok (.goto (-40), 3) := by decide +kernel
theorem dX11_goesOn_100 : decode cX11_goesOn 100 = .ok (.iinc 1 1, 3) := by decide +kernel
theorem dX11_goesOn_103 : decode cX11_goesOn 103 = .ok (.goto (-56), 3) := by decide +kernel
theorem dX11_goesOn_106 : decode cX11_goesOn 106 = .ok (.iconst 0, 1) := by decide +kernel
theorem dX11_goesOn_107 : decode cX11_goesOn 107 = .ok (.istore_n 1, 1) := by decide +kernel
theorem dX11_goesOn_108 : decode cX11_goesOn 108 = .ok (.iload_n 1, 1) := by decide +kernel
theorem dX11_goesOn_109 : decode cX11_goesOn 109 = .ok (.aload_n 0, 1) := by decide +kernel
theorem dX11_goesOn_110 : decode cX11_goesOn 110 = .ok (.invokevirtual 64, 3) := by decide +kernel
theorem dX11_goesOn_113 : decode cX11_goesOn 113 = .ok (.if_icmp .ge 56, 3) := by decide +kernel
theorem dX11_goesOn_116 : decode cX11_goesOn 116 = .ok (.iload_n 1, 1) := by decide +kernel
theorem dX11_goesOn_117 : decode cX11_goesOn 117 = .ok (.iconst 1, 1) := by decide +kernel
theorem dX11_goesOn_118 : decode cX11_goesOn 118 = .ok (.iadd, 1) := by decide +kernel
theorem dX11_goesOn_119 : decode cX11_goesOn 119 = .ok (.istore_n 2, 1) := by decide +kernel
theorem dX11_goesOn_120 : decode cX11_goesOn 120 = .ok (.iload_n 2, 1) := by decide +kernel
theorem dX11_goesOn_121 : decode cX11_goesOn 121 = .ok (.aload_n 0, 1) := by decide +kernel
theorem dX11_goesOn_122 : decode cX11_goesOn 122 = .ok (.invokevirtual 64, 3) := by decide +kernel
theorem dX11_goesOn_125 : decode cX11_goesOn 125 = .ok (.if_icmp .ge 38, 3) := by decide +kernel
theorem dX11_goesOn_128 : decode cX11_goesOn 128 = .ok (.aload_n 0, 1) := by decide +kernel
theorem dX11_goesOn_129 : decode cX11_goesOn 129 = .ok (.getfield 13, 3) := by decide +kernel
theorem dX11_goesOn_132 : decode cX11_goesOn 132 = .ok (.iload_n 1, 1) := by decide +kernel
theorem dX11_goesOn_133 : decode cX11_goesOn 133 = .ok (.iconst 0, 1) := by decide +kernel
theorem dX11_goesOn_134 : decode cX11_goesOn 134 = .ok (.invokestatic 100, 3) := by decide +kernel
theorem dX11_goesOn_137 : decode cX11_goesOn 137 = .ok (.iaload, 1) := by decide +kernel
theorem dX11_goesOn_138 : decode cX11_goesOn 138 = .ok (.aload_n 0, 1) := by decide +kernel
theorem dX11_goesOn_139 : decode cX11_goesOn 139 = .ok (.getfield 13, 3) := by decide +kernel
theorem dX11_goesOn_142 : decode cX11_goesOn 142 = .ok (.iload_n 2, 1) := by decide +kernel
theorem dX11_goesOn_143 : decode cX11_goesOn 143 = .ok (.iconst 0, 1) := by decide +kernel
theorem dX11_goesOn_144 : decode cX11_goesOn 144 = .ok (.invokestatic 100, 3) := by decide +kernel
theorem dX11_goesOn_147 : decode cX11_goesOn 147 = .ok (.iaload, 1) := by decide +kernel
theorem dX11_goesOn_148 : decode cX11_goesOn 148 = .ok (.if_icmp .ne 9, 3) := by decide +kernel
theorem dX11_goesOn_151 : decode cX11_goesOn 151 = .ok (.aload_n 0, 1) := by decide +kernel
theorem dX11_goesOn_152 : decode cX11_goesOn 152 = .ok (.iload_n 1, 1) := by decide +kernel
theorem dX11_goesOn_153 : decode cX11_goesOn 153 = .ok (.iload_n 2, 1) := by decide +kernel
theorem dX11_goesOn_154 : decode cX11_goesOn 154 = .ok (.invokevirtual 303, 3) := by decide +kernel
theorem dX11_goesOn_157 : decode cX11_goesOn 157 = .ok (.iinc 2 1, 3) := by decide +kernel
theorem dX11_goesOn_160 : decode cX11_goesOn 160 = .ok (.goto (-40), 3) := by decide +kernel
theorem dX11_goesOn_163 : decode cX11_goesOn 163 = .ok (.iinc 1 1, 3) := by decide +kernel
theorem dX11_goesOn_166 : decode cX11_goesOn 166 = .ok (.goto (-58), 3) := by decide +kernel
theorem dX11_goesOn_169 : decode cX11_goesOn 169 = .ok (.return_, 1) := by decide +kernel
theorem dX11_ticks_0 : decode cX11_ticks 0 = .ok (.aload_n 0, 1) := by decide +kernel
theorem dX11_ticks_1 : decode cX11_ticks 1 = .ok (.iconst 0, 1) := by decide +kernel
