theorem dX11_through_253 : decode cX11_through 253 = .ok (.istore 7, 2) := by decide +kernel
theorem dX11_through_255 : decode cX11_through 255 = .ok (.iload_n 3, 1) := by decide +kernel
theorem dX11_through_256 : decode cX11_through 256 = .ok (.bipush 14, 2) := by decide +kernel
theorem dX11_through_258 : decode cX11_through 258 = .ok (.if_icmp .ne 52, 3) := by decide +kernel
theorem dX11_through_261 : decode cX11_through 261 = .ok (.aload_n 0, 1) := by decide +kernel
theorem dX11_through_262 : decode cX11_through 262 = .ok (.getfield 81, 3) := by decide +kernel
theorem dX11_through_265 : decode cX11_through 265 = .ok (.iload 5, 2) := by decide +kernel
theorem dX11_through_267 : decode cX11_through 267 = .ok (.iaload, 1) := by decide +kernel
theorem dX11_through_268 : decode cX11_through 268 = .ok (.ifCond .le 42, 3) := by decide +kernel
theorem dX11_through_271 : decode cX11_through 271 = .ok (.aload_n 0, 1) := by decide +kernel
theorem dX11_through_272 : decode cX11_through 272 = .ok (.getfield 99, 3) := by decide +kernel
theorem dX11_through_275 : decode cX11_through 275 = .ok (.iload 5, 2) := by decide +kernel
theorem dX11_through_277 : decode cX11_through 277 = .ok (.iaload, 1) := by decide +kernel
theorem dX11_through_278 : decode cX11_through 278 = .ok (.iload 7, 2) := by decide +kernel
theorem dX11_through_280 : decode cX11_through 280 = .ok (.iand, 1) := by decide +kernel
theorem dX11_through_281 : decode cX11_through 281 = .ok (.ifCond .ne 29, 3) := by decide +kernel
theorem dX11_through_284 : decode cX11_through 284 = .ok (.aload_n 0, 1) := by decide +kernel
theorem dX11_through_285 : decode cX11_through 285 = .ok (.getfield 99, 3) := by decide +kernel
theorem dX11_through_288 : decode cX11_through 288 = .ok (.iload 5, 2) := by decide +kernel
theorem dX11_through_290 : decode cX11_through 290 = .ok (.dup2, 1) := by decide +kernel
theorem dX11_through_291 : decode cX11_through 291 = .ok (.iaload, 1) := by decide +kernel
theorem dX11_through_292 : decode cX11_through 292 = .ok (.iload 7, 2) := by decide +kernel
theorem dX11_through_294 : decode cX11_through 294 = .ok (.ior, 1) := by decide +kernel
theorem dX11_through_295 : decode cX11_through 295 = .ok (.iastore, 1) := by decide +kernel
theorem dX11_through_296 : decode cX11_through 296 = .ok (.aload_n 0, 1) := by decide +kernel
theorem dX11_through_297 : decode cX11_through 297 = .ok (.getfield 93, 3) := by decide +kernel
theorem dX11_through_300 : decode cX11_through 300 = .ok (.iload 5, 2) := by decide +kernel
theorem dX11_through_302 : decode cX11_through 302 = .ok (.iconst 1, 1) := by decide +kernel
theorem dX11_through_303 : decode cX11_through 303 = .ok (.bastore, 1) := by decide +kernel
theorem dX11_through_304 : decode cX11_through 304 = .ok (.aload_n 0, 1) := by decide +kernel
theorem dX11_through_305 : decode cX11_through 305 = .ok (.invokevirtual 222, 3) := by decide +kernel
theorem dX11_through_308 : decode cX11_through 308 = .ok (.iconst 1, 1) := by decide +kernel
theorem dX11_through_309 : decode cX11_through 309 = .ok (.ireturn, 1) := by decide +kernel
theorem dX11_through_310 : decode cX11_through 310 = .ok (.iload_n 3, 1) := by decide +kernel
theorem dX11_through_311 : decode cX11_through 311 = .ok (.bipush 12, 2) := by decide +kernel
theorem dX11_through_313 : decode cX11_through 313 = .ok (.if_icmp .ne 13, 3) := by decide +kernel
theorem dX11_through_316 : decode cX11_through 316 = .ok (.aload_n 0, 1) := by decide +kernel
theorem dX11_through_317 : decode cX11_through 317 = .ok (.getfield 93, 3) := by decide +kernel
theorem dX11_through_320 : decode cX11_through 320 = .ok (.iload 5, 2) := by decide +kernel
theorem dX11_through_322 : decode cX11_through 322 = .ok (.iconst 1, 1) := by decide +kernel
theorem dX11_through_323 : decode cX11_through 323 = .ok (.bastore, 1) := by decide +kernel
theorem dX11_through_324 : decode cX11_through 324 = .ok (.iconst 2, 1) := by decide +kernel
theorem dX11_through_325 : decode cX11_through 325 = .ok (.ireturn, 1) := by decide +kernel
theorem dX11_through_326 : decode cX11_through 326 = .ok (.iload_n 3, 1) := by decide +kernel
theorem dX11_through_327 : decode cX11_through 327 = .ok (.iconst 3, 1) := by decide +kernel
theorem dX11_through_328 : decode cX11_through 328 = .ok (.bipush 8, 2) := by decide +kernel
theorem dX11_through_330 : decode cX11_through 330 = .ok (.invokestatic 114, 3) := by decide +kernel
theorem dX11_through_333 : decode cX11_through 333 = .ok (.ifCond .eq 39, 3) := by decide +kernel
theorem dX11_through_336 : decode cX11_through 336 = .ok (.aload_n 0, 1) := by decide +kernel
theorem dX11_through_337 : decode cX11_through 337 = .ok (.getfield 209, 3) := by decide +kernel
theorem dX11_through_340 : decode cX11_through 340 = .ok (.iload 4, 2) := by decide +kernel
theorem dX11_through_342 : decode cX11_through 342 = .ok (.if_icmp .le 30, 3) := by decide +kernel
theorem dX11_through_345 : decode cX11_through 345 = .ok (.aload_n 0, 1) := by decide +kernel
theorem dX11_through_346 : decode cX11_through 346 = .ok (.getfield 81, 3) := by decide +kernel
theorem dX11_through_349 : decode cX11_through 349 = .ok (.aload_n 0, 1) := by decide +kernel
theorem dX11_through_350 : decode cX11_through 350 = .ok (.getfield 209, 3) := by decide +kernel
theorem dX11_through_353 : decode cX11_through 353 = .ok (.iconst 1, 1) := by decide +kernel
theorem dX11_through_354 : decode cX11_through 354 = .ok (.isub, 1) := by decide +kernel
theorem dX11_through_355 : decode cX11_through 355 = .ok (.iaload, 1) := by decide +kernel
theorem dX11_through_356 : decode cX11_through 356 = .ok (.iconst 2, 1) := by decide +kernel
theorem dX11_through_357 : decode cX11_through 357 = .ok (.if_icmp .ne 15, 3) := by decide +kernel
theorem dX11_through_360 : decode cX11_through 360 = .ok (.bipush (-3), 2) := by decide +kernel
theorem dX11_through_362 : decode cX11_through 362 = .ok (.aload_n 0, 1) := by decide +kernel
theorem dX11_through_363 : decode cX11_through 363 = .ok (.getfield 209, 3) := by decide +kernel
theorem dX11_through_366 : decode cX11_through 366 = .ok (.iconst 1, 1) := by decide +kernel
theorem dX11_through_367 : decode cX11_through 367 = .ok (.isub, 1) := by decide +kernel
theorem dX11_through_368 : decode cX11_through 368 = .ok (.isub, 1) := by decide +kernel
theorem dX11_through_369 : decode cX11_through 369 = .ok (.goto 4, 3) := by decide +kernel
theorem dX11_through_372 : decode cX11_through 372 = .ok (.iconst 0, 1) := by decide +kernel
theorem dX11_through_373 : decode cX11_through 373 = .ok (.ireturn, 1) := by decide +kernel
theorem dX11_makeTrace_0 : decode cX11_makeTrace 0 = .ok (.aload_n 0, 1) := by decide +kernel
theorem dX11_makeTrace_1 : decode cX11_makeTrace 1 = .ok (.iconst 0, 1) := by decide +kernel
theorem dX11_makeTrace_2 : decode cX11_makeTrace 2 = .ok (.putfield 209, 3) := by decide +kernel
theorem dX11_makeTrace_5 : decode cX11_makeTrace 5 = .ok (.aload_n 0, 1) := by decide +kernel
theorem dX11_makeTrace_6 : decode cX11_makeTrace 6 = .ok (.iconst 0, 1) := by decide +kernel
theorem dX11_makeTrace_7 : decode cX11_makeTrace 7 = .ok (.putfield 216, 3) := by decide +kernel
theorem dX11_makeTrace_10 : decode cX11_makeTrace 10 = .ok (.iconst 0, 1) := by decide +kernel
theorem dX11_makeTrace_11 : decode cX11_makeTrace 11 = .ok (.istore_n 1, 1) := by decide +kernel
theorem dX11_makeTrace_12 : decode cX11_makeTrace 12 = .ok (.iload_n 1, 1) := by decide +kernel
theorem dX11_makeTrace_13 : decode cX11_makeTrace 13 = .ok (.bipush 6, 2) := by decide +kernel
theorem dX11_makeTrace_15 : decode cX11_makeTrace 15 = .ok (.if_icmp .ge 23, 3) := by decide +kernel
theorem dX11_makeTrace_18 : decode cX11_makeTrace 18 = .ok (.aload_n 0, 1) := by decide +kernel
theorem dX11_makeTrace_19 : decode cX11_makeTrace 19 = .ok (.getfield 102, 3) := by decide +kernel
theorem dX11_makeTrace_22 : decode cX11_makeTrace 22 = .ok (.iload_n 1, 1) := by decide +kernel
theorem dX11_makeTrace_23 : decode cX11_makeTrace 23 = .ok (.aload_n 0, 1) := by decide +kernel
theorem dX11_makeTrace_24 : decode cX11_makeTrace 24 = .ok (.iconst 1, 1) := by decide +kernel
theorem dX11_makeTrace_25 : decode cX11_makeTrace 25 = .ok (.iload_n 1, 1) := by decide +kernel
theorem dX11_makeTrace_26 : decode cX11_makeTrace 26 = .ok (.iconst 0, 1) := by decide +kernel
theorem dX11_makeTrace_27 : decode cX11_makeTrace 27 = .ok (.iconst 0, 1) := by decide +kernel
theorem dX11_makeTrace_28 : decode cX11_makeTrace 28 = .ok (.invokevirtual 212, 3) := by decide +kernel
theorem dX11_makeTrace_31 : decode cX11_makeTrace 31 = .ok (.iastore, 1) := by decide +kernel
theorem dX11_makeTrace_32 : decode cX11_makeTrace 32 = .ok (.iinc 1 1, 3) := by decide +kernel
theorem dX11_makeTrace_35 : decode cX11_makeTrace 35 = .ok (.goto (-23), 3) := by decide +kernel
theorem dX11_makeTrace_38 : decode cX11_makeTrace 38 = .ok (.iconst 0, 1) := by decide +kernel
theorem dX11_makeTrace_39 : decode cX11_makeTrace 39 = .ok (.istore_n 1, 1) := by decide +kernel
theorem dX11_makeTrace_40 : decode cX11_makeTrace 40 = .ok (.iload_n 1, 1) := by decide +kernel
theorem dX11_makeTrace_41 : decode cX11_makeTrace 41 = .ok (.aload_n 0, 1) := by decide +kernel
theorem dX11_makeTrace_42 : decode cX11_makeTrace 42 = .ok (.getfield 185, 3) := by decide +kernel
theorem dX11_makeTrace_45 : decode cX11_makeTrace 45 = .ok (.if_icmp .ge 20, 3) := by decide +kernel
theorem dX11_makeTrace_48 : decode cX11_makeTrace 48 = .ok (.aload_n 0, 1) := by decide +kernel
theorem dX11_makeTrace_49 : decode cX11_makeTrace 49 = .ok (.getfield 108, 3) := by decide +kernel
theorem dX11_makeTrace_52 : decode cX11_makeTrace 52 = .ok (.iload_n 1, 1) := by decide +kernel
theorem dX11_makeTrace_53 : decode cX11_makeTrace 53 = .ok (.aload_n 0, 1) := by decide +kernel
theorem dX11_makeTrace_54 : decode cX11_makeTrace 54 = .ok (.iload_n 1, 1) := by decide +kernel
theorem dX11_makeTrace_55 : decode cX11_makeTrace 55 = .ok (.invokevirtual 225, 3) := by decide +kernel
theorem dX11_makeTrace_58 : decode cX11_makeTrace 58 = .ok (.iastore, 1) := by decide +kernel
theorem dX11_makeTrace_59 : decode cX11_makeTrace 59 = .ok (.iinc 1 1, 3) := by decide +kernel
theorem dX11_makeTrace_62 : decode cX11_makeTrace 62 = .ok (.goto (-22), 3) := by decide +kernel
theorem dX11_makeTrace_65 : decode cX11_makeTrace 65 = .ok (.aload_n 0, 1) := by decide +kernel
theorem dX11_makeTrace_66 : decode cX11_makeTrace 66 = .ok (.getfield 145, 3) := by decide +kernel
theorem dX11_makeTrace_69 : decode cX11_makeTrace 69 = .ok (.istore_n 1, 1) := by decide +kernel
theorem dX11_makeTrace_70 : decode cX11_makeTrace 70 = .ok (.aload_n 0, 1) := by decide +kernel
theorem dX11_makeTrace_71 : decode cX11_makeTrace 71 = .ok (.getfield 78, 3) := by decide +kernel
theorem dX11_makeTrace_74 : decode cX11_makeTrace 74 = .ok (.iload_n 1, 1) := by decide +kernel
theorem dX11_makeTrace_75 : decode cX11_makeTrace 75 = .ok (.iconst 0, 1) := by decide +kernel
theorem dX11_makeTrace_76 : decode cX11_makeTrace 76 = .ok (.iastore, 1) := by decide +kernel
theorem dX11_makeTrace_77 : decode cX11_makeTrace 77 = .ok (.iconst 0, 1) := by decide +kernel
theorem dX11_makeTrace_78 : decode cX11_makeTrace 78 = .ok (.istore_n 2, 1) := by decide +kernel
theorem dX11_makeTrace_79 : decode cX11_makeTrace 79 = .ok (.iload_n 2, 1) := by decide +kernel
theorem dX11_makeTrace_80 : decode cX11_makeTrace 80 = .ok (.bipush 6, 2) := by decide +kernel
theorem dX11_makeTrace_82 : decode cX11_makeTrace 82 = .ok (.if_icmp .ge 66, 3) := by decide +kernel
theorem dX11_makeTrace_85 : decode cX11_makeTrace 85 = .ok (.aload_n 0, 1) := by decide +kernel
theorem dX11_makeTrace_86 : decode cX11_makeTrace 86 = .ok (.getfield 93, 3) := by decide +kernel
theorem dX11_makeTrace_89 : decode cX11_makeTrace 89 = .ok (.aload_n 0, 1) := by decide +kernel
theorem dX11_makeTrace_90 : decode cX11_makeTrace 90 = .ok (.getfield 102, 3) := by decide +kernel
theorem dX11_makeTrace_93 : decode cX11_makeTrace 93 = .ok (.iload_n 2, 1) := by decide +kernel
theorem dX11_makeTrace_94 : decode cX11_makeTrace 94 = .ok (.iaload, 1) := by decide +kernel
theorem dX11_makeTrace_95 : decode cX11_makeTrace 95 = .ok (.iconst 1, 1) := by decide +kernel
theorem dX11_makeTrace_96 : decode cX11_makeTrace 96 = .ok (.bastore, 1) := by decide +kernel
theorem dX11_makeTrace_97 : decode cX11_makeTrace 97 = .ok (.aload_n 0, 1) := by decide +kernel
theorem dX11_makeTrace_98 : decode cX11_makeTrace 98 = .ok (.getfield 96, 3) := by decide +kernel
theorem dX11_makeTrace_101 : decode cX11_makeTrace 101 = .ok (.iload_n 2, 1) := by decide +kernel
theorem dX11_makeTrace_102 : decode cX11_makeTrace 102 = .ok (.aload_n 0, 1) := by decide +kernel
theorem dX11_makeTrace_103 : decode cX11_makeTrace 103 = .ok (.getfield 102, 3) := by decide +kernel
theorem dX11_makeTrace_106 : decode cX11_makeTrace 106 = .ok (.iload_n 2, 1) := by decide +kernel
theorem dX11_makeTrace_107 : decode cX11_makeTrace 107 = .ok (.iaload, 1) := by decide +kernel
theorem dX11_makeTrace_108 : decode cX11_makeTrace 108 = .ok (.iload_n 2, 1) := by decide +kernel
theorem dX11_makeTrace_109 : decode cX11_makeTrace 109 = .ok (.if_icmp .ne 7, 3) := by decide +kernel
theorem dX11_makeTrace_112 : decode cX11_makeTrace 112 = .ok (.iconst 1, 1) := by decide +kernel
theorem dX11_makeTrace_113 : decode cX11_makeTrace 113 = .ok (.goto 4, 3) := by decide +kernel
theorem dX11_makeTrace_116 : decode cX11_makeTrace 116 = .ok (.iconst 0, 1) := by decide +kernel
theorem dX11_makeTrace_117 : decode cX11_makeTrace 117 = .ok (.bastore, 1) := by decide +kernel
theorem dX11_makeTrace_118 : decode cX11_makeTrace 118 = .ok (.aload_n 0, 1) := by decide +kernel
theorem dX11_makeTrace_119 : decode cX11_makeTrace 119 = .ok (.getfield 78, 3) := by decide +kernel
theorem dX11_makeTrace_122 : decode cX11_makeTrace 122 = .ok (.iload_n 1, 1) := by decide +kernel
theorem dX11_makeTrace_123 : decode cX11_makeTrace 123 = .ok (.dup2, 1) := by decide +kernel
theorem dX11_makeTrace_124 : decode cX11_makeTrace 124 = .ok (.iaload, 1) := by decide +kernel
theorem dX11_makeTrace_125 : decode cX11_makeTrace 125 = .ok (.aload_n 0, 1) := by decide +kernel
theorem dX11_makeTrace_126 : decode cX11_makeTrace 126 = .ok (.getfield 102, 3) := by decide +kernel
theorem dX11_makeTrace_129 : decode cX11_makeTrace 129 = .ok (.iload_n 2, 1) := by decide +kernel
theorem dX11_makeTrace_130 : decode cX11_makeTrace 130 = .ok (.iaload, 1) := by decide +kernel
theorem dX11_makeTrace_131 : decode cX11_makeTrace 131 = .ok (.iload_n 2, 1) := by decide +kernel
theorem dX11_makeTrace_132 : decode cX11_makeTrace 132 = .ok (.if_icmp .ne 7, 3) := by decide +kernel
theorem dX11_makeTrace_135 : decode cX11_makeTrace 135 = .ok (.iconst 1, 1) := by decide +kernel
theorem dX11_makeTrace_136 : decode cX11_makeTrace 136 = .ok (.goto 4, 3) := by decide +kernel
theorem dX11_makeTrace_139 : decode cX11_makeTrace 139 = .ok (.iconst 0, 1) := by decide +kernel
theorem dX11_makeTrace_140 : decode cX11_makeTrace 140 = .ok (.iadd, 1) := by decide +kernel
theorem dX11_makeTrace_141 : decode cX11_makeTrace 141 = .ok (.iastore, 1) := by decide +kernel
theorem dX11_makeTrace_142 : decode cX11_makeTrace 142 = .ok (.iinc 2 1, 3) := by decide +kernel
theorem dX11_makeTrace_145 : decode cX11_makeTrace 145 = .ok (.goto (-66), 3) := by decide +kernel
theorem dX11_makeTrace_148 : decode cX11_makeTrace 148 = .ok (.aload_n 0, 1) := by decide +kernel
theorem dX11_makeTrace_149 : decode cX11_makeTrace 149 = .ok (.getfield 209, 3) := by decide +kernel
theorem dX11_makeTrace_152 : decode cX11_makeTrace 152 = .ok (.iconst 1, 1) := by decide +kernel
theorem dX11_makeTrace_153 : decode cX11_makeTrace 153 = .ok (.isub, 1) := by decide +kernel
theorem dX11_makeTrace_154 : decode cX11_makeTrace 154 = .ok (.istore_n 2, 1) := by decide +kernel
theorem dX11_makeTrace_155 : decode cX11_makeTrace 155 = .ok (.iload_n 2, 1) := by decide +kernel
theorem dX11_makeTrace_156 : decode cX11_makeTrace 156 = .ok (.ifCond .lt 52, 3) := by decide +kernel
theorem dX11_makeTrace_159 : decode cX11_makeTrace 159 = .ok (.aload_n 0, 1) := by decide +kernel
theorem dX11_makeTrace_160 : decode cX11_makeTrace 160 = .ok (.getfield 81, 3) := by decide +kernel
theorem dX11_makeTrace_163 : decode cX11_makeTrace 163 = .ok (.iload_n 2, 1) := by decide +kernel
theorem dX11_makeTrace_164 : decode cX11_makeTrace 164 = .ok (.iaload, 1) := by decide +kernel
theorem dX11_makeTrace_165 : decode cX11_makeTrace 165 = .ok (.iconst 2, 1) := by decide +kernel
theorem dX11_makeTrace_166 : decode cX11_makeTrace 166 = .ok (.if_icmp .ne 36, 3) := by decide +kernel
theorem dX11_makeTrace_169 : decode cX11_makeTrace 169 = .ok (.aload_n 0, 1) := by decide +kernel
theorem dX11_makeTrace_170 : decode cX11_makeTrace 170 = .ok (.getfield 93, 3) := by decide +kernel
theorem dX11_makeTrace_173 : decode cX11_makeTrace 173 = .ok (.iload_n 2, 1) := by decide +kernel
theorem dX11_makeTrace_174 : decode cX11_makeTrace 174 = .ok (.baload, 1) := by decide +kernel
theorem dX11_makeTrace_175 : decode cX11_makeTrace 175 = .ok (.ifCond .eq 27, 3) := by decide +kernel
theorem dX11_makeTrace_178 : decode cX11_makeTrace 178 = .ok (.aload_n 0, 1) := by decide +kernel
theorem dX11_makeTrace_179 : decode cX11_makeTrace 179 = .ok (.getfield 93, 3) := by decide +kernel
theorem dX11_makeTrace_182 : decode cX11_makeTrace 182 = .ok (.aload_n 0, 1) := by decide +kernel
theorem dX11_makeTrace_183 : decode cX11_makeTrace 183 = .ok (.getfield 87, 3) := by decide +kernel
theorem dX11_makeTrace_186 : decode cX11_makeTrace 186 = .ok (.iload_n 2, 1) := by decide +kernel
theorem dX11_makeTrace_187 : decode cX11_makeTrace 187 = .ok (.iaload, 1) := by decide +kernel
theorem dX11_makeTrace_188 : decode cX11_makeTrace 188 = .ok (.iconst 1, 1) := by decide +kernel
theorem dX11_makeTrace_189 : decode cX11_makeTrace 189 = .ok (.bastore, 1) := by decide +kernel
theorem dX11_makeTrace_190 : decode cX11_makeTrace 190 = .ok (.aload_n 0, 1) := by decide +kernel
theorem dX11_makeTrace_191 : decode cX11_makeTrace 191 = .ok (.getfield 93, 3) := by decide +kernel
theorem dX11_makeTrace_194 : decode cX11_makeTrace 194 = .ok (.aload_n 0, 1) := by decide +kernel
theorem dX11_makeTrace_195 : decode cX11_makeTrace 195 = .ok (.getfield 90, 3) := by decide +kernel
theorem dX11_makeTrace_198 : decode cX11_makeTrace 198 = .ok (.iload_n 2, 1) := by decide +kernel
theorem dX11_makeTrace_199 : decode cX11_makeTrace 199 = .ok (.iaload, 1) := by decide +kernel
theorem dX11_makeTrace_200 : decode cX11_makeTrace 200 = .ok (.iconst 1, 1) := by decide +kernel
theorem dX11_makeTrace_201 : decode cX11_makeTrace 201 = .ok (.bastore, 1) := by decide +kernel
theorem dX11_makeTrace_202 : decode cX11_makeTrace 202 = .ok (.iinc 2 (-1), 3) := by decide +kernel
theorem dX11_makeTrace_205 : decode cX11_makeTrace 205 = .ok (.goto (-50), 3) := by decide +kernel
theorem dX11_makeTrace_208 : decode cX11_makeTrace 208 = .ok (.bipush 6, 2) := by decide +kernel
theorem dX11_makeTrace_210 : decode cX11_makeTrace 210 = .ok (.istore_n 2, 1) := by decide +kernel
theorem dX11_makeTrace_211 : decode cX11_makeTrace 211 = .ok (.iload_n 2, 1) := by decide +kernel
theorem dX11_makeTrace_212 : decode cX11_makeTrace 212 = .ok (.aload_n 0, 1) := by decide +kernel
theorem dX11_makeTrace_213 : decode cX11_makeTrace 213 = .ok (.getfield 209, 3) := by decide +kernel
theorem dX11_makeTrace_216 : decode cX11_makeTrace 216 = .ok (.if_icmp .ge 57, 3) := by decide +kernel
theorem dX11_makeTrace_219 : decode cX11_makeTrace 219 = .ok (.aload_n 0, 1) := by decide +kernel
theorem dX11_makeTrace_220 : decode cX11_makeTrace 220 = .ok (.getfield 96, 3) := by decide +kernel
theorem dX11_makeTrace_223 : decode cX11_makeTrace 223 = .ok (.iload_n 2, 1) := by decide +kernel
theorem dX11_makeTrace_224 : decode cX11_makeTrace 224 = .ok (.aload_n 0, 1) := by decide +kernel
theorem dX11_makeTrace_225 : decode cX11_makeTrace 225 = .ok (.getfield 81, 3) := by decide +kernel
theorem dX11_makeTrace_228 : decode cX11_makeTrace 228 = .ok (.iload_n 2, 1) := by decide +kernel
theorem dX11_makeTrace_229 : decode cX11_makeTrace 229 = .ok (.iaload, 1) := by decide +kernel
theorem dX11_makeTrace_230 : decode cX11_makeTrace 230 = .ok (.ifCond .eq 31, 3) := by decide +kernel
theorem dX11_makeTrace_233 : decode cX11_makeTrace 233 = .ok (.aload_n 0, 1) := by decide +kernel
theorem dX11_makeTrace_234 : decode cX11_makeTrace 234 = .ok (.getfield 96, 3) := by decide +kernel
theorem dX11_makeTrace_237 : decode cX11_makeTrace 237 = .ok (.aload_n 0, 1) := by decide +kernel
theorem dX11_makeTrace_238 : decode cX11_makeTrace 238 = .ok (.getfield 87, 3) := by decide +kernel
theorem dX11_makeTrace_241 : decode cX11_makeTrace 241 = .ok (.iload_n 2, 1) := by decide +kernel
theorem dX11_makeTrace_242 : decode cX11_makeTrace 242 = .ok (.iaload, 1) := by decide +kernel
theorem dX11_makeTrace_243 : decode cX11_makeTrace 243 = .ok (.baload, 1) := by decide +kernel
theorem dX11_makeTrace_244 : decode cX11_makeTrace 244 = .ok (.ifCond .eq 21, 3) := by decide +kernel
theorem dX11_makeTrace_247 : decode cX11_makeTrace 247 = .ok (.aload_n 0, 1) := by decide +kernel
theorem dX11_makeTrace_248 : decode cX11_makeTrace 248 = .ok (.getfield 96, 3) := by decide +kernel
theorem dX11_makeTrace_251 : decode cX11_makeTrace 251 = .ok (.aload_n 0, 1) := by decide +kernel
theorem dX11_makeTrace_252 : decode cX11_makeTrace 252 = .ok (.getfield 90, 3) := by decide +kernel
theorem dX11_makeTrace_255 : decode cX11_makeTrace 255 = .ok (.iload_n 2, 1) := by decide +kernel
theorem dX11_makeTrace_256 : decode cX11_makeTrace 256 = .ok (.iaload, 1) := by decide +kernel
theorem dX11_makeTrace_257 : decode cX11_makeTrace 257 = .ok (.baload, 1) := by decide +kernel
theorem dX11_makeTrace_258 : decode cX11_makeTrace 258 = .ok (.ifCond .eq 7, 3) := by decide +kernel
theorem dX11_makeTrace_261 : decode cX11_makeTrace 261 = .ok (.iconst 1, 1) := by decide +kernel
theorem dX11_makeTrace_262 : decode cX11_makeTrace 262 = .ok (.goto 4, 3) := by decide +kernel
theorem dX11_makeTrace_265 : decode cX11_makeTrace 265 = .ok (.iconst 0, 1) := by decide +kernel
theorem dX11_makeTrace_266 : decode cX11_makeTrace 266 = .ok (.bastore, 1) := by decide +kernel
theorem dX11_makeTrace_267 : decode cX11_makeTrace 267 = .ok (.iinc 2 1, 3) := by decide +kernel
theorem dX11_makeTrace_270 : decode cX11_makeTrace 270 = .ok (.goto (-59), 3) := by decide +kernel
theorem dX11_makeTrace_273 : decode cX11_makeTrace 273 = .ok (.aload_n 0, 1) := by decide +kernel
theorem dX11_makeTrace_274 : decode cX11_makeTrace 274 = .ok (.iload_n 1, 1) := by decide +kernel
theorem dX11_makeTrace_275 : decode cX11_makeTrace 275 = .ok (.invokevirtual 228, 3) := by decide +kernel
theorem dX11_makeTrace_278 : decode cX11_makeTrace 278 = .ok (.aload_n 0, 1) := by decide +kernel
theorem dX11_makeTrace_279 : decode cX11_makeTrace 279 = .ok (.getfield 51, 3) := by decide +kernel
theorem dX11_makeTrace_282 : decode cX11_makeTrace 282 = .ok (.iload_n 1, 1) := by decide +kernel
theorem dX11_makeTrace_283 : decode cX11_makeTrace 283 = .ok (.aload_n 0, 1) := by decide +kernel
theorem dX11_makeTrace_284 : decode cX11_makeTrace 284 = .ok (.getfield 38, 3) := by decide +kernel
theorem dX11_makeTrace_287 : decode cX11_makeTrace 287 = .ok (.iastore, 1) := by decide +kernel
theorem dX11_makeTrace_288 : decode cX11_makeTrace 288 = .ok (.aload_n 0, 1) := by decide +kernel
theorem dX11_makeTrace_289 : decode cX11_makeTrace 289 = .ok (.getfield 54, 3) := by decide +kernel
theorem dX11_makeTrace_292 : decode cX11_makeTrace 292 = .ok (.iload_n 1, 1) := by decide +kernel
theorem dX11_makeTrace_293 : decode cX11_makeTrace 293 = .ok (.aload_n 0, 1) := by decide +kernel
theorem dX11_makeTrace_294 : decode cX11_makeTrace 294 = .ok (.getfield 185, 3) := by decide +kernel
theorem dX11_makeTrace_297 : decode cX11_makeTrace 297 = .ok (.iastore, 1) := by decide +kernel
theorem dX11_makeTrace_298 : decode cX11_makeTrace 298 = .ok (.aload_n 0, 1) := by decide +kernel
theorem dX11_makeTrace_299 : decode cX11_makeTrace 299 = .ok (.getfield 35, 3) := by decide +kernel
theorem dX11_makeTrace_302 : decode cX11_makeTrace 302 = .ok (.aload_n 0, 1) := by decide +kernel
theorem dX11_makeTrace_303 : decode cX11_makeTrace 303 = .ok (.getfield 38, 3) := by decide +kernel
theorem dX11_makeTrace_306 : decode cX11_makeTrace 306 = .ok (.iconst 1, 1) := by decide +kernel
theorem dX11_makeTrace_307 : decode cX11_makeTrace 307 = .ok (.iastore, 1) := by decide +kernel
theorem dX11_makeTrace_308 : decode cX11_makeTrace 308 = .ok (.aload_n 0, 1) := by decide +kernel
theorem dX11_makeTrace_309 : decode cX11_makeTrace 309 = .ok (.dup, 1) := by decide +kernel
theorem dX11_makeTrace_310 : decode cX11_makeTrace 310 = .ok (.getfield 145, 3) := by decide +kernel
theorem dX11_makeTrace_313 : decode cX11_makeTrace 313 = .ok (.iconst 1, 1) := by decide +kernel
theorem dX11_makeTrace_314 : decode cX11_makeTrace 314 = .ok (.iadd, 1) := by decide +kernel
theorem dX11_makeTrace_315 : decode cX11_makeTrace 315 = .ok (.putfield 145, 3) := by decide +kernel
theorem dX11_makeTrace_318 : decode cX11_makeTrace 318 = .ok (.aload_n 0, 1) := by decide +kernel
theorem dX11_makeTrace_319 : decode cX11_makeTrace 319 = .ok (.iconst (-1), 1) := by decide +kernel
theorem dX11_makeTrace_320 : decode cX11_makeTrace 320 = .ok (.putfield 38, 3) := by decide +kernel
theorem dX11_makeTrace_323 : decode cX11_makeTrace 323 = .ok (.return_, 1) := by decide +kernel
theorem dX11_keep_0 : decode cX11_keep 0 = .ok (.aload_n 0, 1) := by decide +kernel
theorem dX11_keep_1 : decode cX11_keep 1 = .ok (.getfield 66, 3) := by decide +kernel
theorem dX11_keep_4 : decode cX11_keep 4 = .ok (.iload_n 1, 1) := by decide +kernel
theorem dX11_keep_5 : decode cX11_keep 5 = .ok (.iconst 0, 1) := by decide +kernel
theorem dX11_keep_6 : decode cX11_keep 6 = .ok (.iastore, 1) := by decide +kernel
theorem dX11_keep_7 : decode cX11_keep 7 = .ok (.aload_n 0, 1) := by decide +kernel
theorem dX11_keep_8 : decode cX11_keep 8 = .ok (.getfield 69, 3) := by decide +kernel
theorem dX11_keep_11 : decode cX11_keep 11 = .ok (.iload_n 1, 1) := by decide +kernel
theorem dX11_keep_12 : decode cX11_keep 12 = .ok (.iconst 0, 1) := by decide +kernel
theorem dX11_keep_13 : decode cX11_keep 13 = .ok (.iastore, 1) := by decide +kernel
theorem dX11_keep_14 : decode cX11_keep 14 = .ok (.aload_n 0, 1) := by decide +kernel
theorem dX11_keep_15 : decode cX11_keep 15 = .ok (.getfield 72, 3) := by decide +kernel
theorem dX11_keep_18 : decode cX11_keep 18 = .ok (.iload_n 1, 1) := by decide +kernel
theorem dX11_keep_19 : decode cX11_keep 19 = .ok (.iconst 0, 1) := by decide +kernel
theorem dX11_keep_20 : decode cX11_keep 20 = .ok (.iastore, 1) := by decide +kernel
theorem dX11_keep_21 : decode cX11_keep 21 = .ok (.aload_n 0, 1) := by decide +kernel
theorem dX11_keep_22 : decode cX11_keep 22 = .ok (.getfield 75, 3) := by decide +kernel
theorem dX11_keep_25 : decode cX11_keep 25 = .ok (.iload_n 1, 1) := by decide +kernel
theorem dX11_keep_26 : decode cX11_keep 26 = .ok (.iconst 0, 1) := by decide +kernel
theorem dX11_keep_27 : decode cX11_keep 27 = .ok (.iastore, 1) := by decide +kernel
theorem dX11_keep_28 : decode cX11_keep 28 = .ok (.iconst 0, 1) := by decide +kernel
theorem dX11_keep_29 : decode cX11_keep 29 = .ok (.istore_n 2, 1) := by decide +kernel
theorem dX11_keep_30 : decode cX11_keep 30 = .ok (.iload_n 2, 1) := by decide +kernel
theorem dX11_keep_31 : decode cX11_keep 31 = .ok (.aload_n 0, 1) := by decide +kernel
theorem dX11_keep_32 : decode cX11_keep 32 = .ok (.getfield 185, 3) := by decide +kernel
theorem dX11_keep_35 : decode cX11_keep 35 = .ok (.if_icmp .ge 223, 3) := by decide +kernel
theorem dX11_keep_38 : decode cX11_keep 38 = .ok (.aload_n 0, 1) := by decide +kernel
theorem dX11_keep_39 : decode cX11_keep 39 = .ok (.getfield 108, 3) := by decide +kernel
theorem dX11_keep_42 : decode cX11_keep 42 = .ok (.iload_n 2, 1) := by decide +kernel
theorem dX11_keep_43 : decode cX11_keep 43 = .ok (.iaload, 1) := by decide +kernel
theorem dX11_keep_44 : decode cX11_keep 44 = .ok (.bipush (-2), 2) := by decide +kernel
theorem dX11_keep_46 : decode cX11_keep 46 = .ok (.if_icmp .ge 15, 3) := by decide +kernel
theorem dX11_keep_49 : decode cX11_keep 49 = .ok (.bipush (-3), 2) := by decide +kernel
theorem dX11_keep_51 : decode cX11_keep 51 = .ok (.aload_n 0, 1) := by decide +kernel
theorem dX11_keep_52 : decode cX11_keep 52 = .ok (.getfield 108, 3) := by decide +kernel
theorem dX11_keep_55 : decode cX11_keep 55 = .ok (.iload_n 2, 1) := by decide +kernel
theorem dX11_keep_56 : decode cX11_keep 56 = .ok (.iaload, 1) := by decide +kernel
theorem dX11_keep_57 : decode cX11_keep 57 = .ok (.isub, 1) := by decide +kernel
theorem dX11_keep_58 : decode cX11_keep 58 = .ok (.goto 4, 3) := by decide +kernel
theorem dX11_keep_61 : decode cX11_keep 61 = .ok (.iconst (-1), 1) := by decide +kernel
theorem dX11_keep_62 : decode cX11_keep 62 = .ok (.istore_n 3, 1) := by decide +kernel
theorem dX11_keep_63 : decode cX11_keep 63 = .ok (.iload_n 3, 1) := by decide +kernel
theorem dX11_keep_64 : decode cX11_keep 64 = .ok (.ifCond .lt 16, 3) := by decide +kernel
theorem dX11_keep_67 : decode cX11_keep 67 = .ok (.aload_n 0, 1) := by decide +kernel
theorem dX11_keep_68 : decode cX11_keep 68 = .ok (.getfield 93, 3) := by decide +kernel
theorem dX11_keep_71 : decode cX11_keep 71 = .ok (.iload_n 3, 1) := by decide +kernel
theorem dX11_keep_72 : decode cX11_keep 72 = .ok (.baload, 1) := by decide +kernel
theorem dX11_keep_73 : decode cX11_keep 73 = .ok (.ifCond .eq 7, 3) := by decide +kernel
theorem dX11_keep_76 : decode cX11_keep 76 = .ok (.iconst 1, 1) := by decide +kernel
theorem dX11_keep_77 : decode cX11_keep 77 = .ok (.goto 4, 3) := by decide +kernel
theorem dX11_keep_80 : decode cX11_keep 80 = .ok (.iconst 0, 1) := by decide +kernel
theorem dX11_keep_81 : decode cX11_keep 81 = .ok (.istore 4, 2) := by decide +kernel
theorem dX11_keep_83 : decode cX11_keep 83 = .ok (.aload_n 0, 1) := by decide +kernel
theorem dX11_keep_84 : decode cX11_keep 84 = .ok (.getfield 66, 3) := by decide +kernel
theorem dX11_keep_87 : decode cX11_keep 87 = .ok (.iload_n 1, 1) := by decide +kernel
theorem dX11_keep_88 : decode cX11_keep 88 = .ok (.dup2, 1) := by decide +kernel
theorem dX11_keep_89 : decode cX11_keep 89 = .ok (.iaload, 1) := by decide +kernel
theorem dX11_keep_90 : decode cX11_keep 90 = .ok (.iload 4, 2) := by decide +kernel
theorem dX11_keep_92 : decode cX11_keep 92 = .ok (.ifCond .eq 16, 3) := by decide +kernel
theorem dX11_keep_95 : decode cX11_keep 95 = .ok (.aload_n 0, 1) := by decide +kernel
theorem dX11_keep_96 : decode cX11_keep 96 = .ok (.getfield 96, 3) := by decide +kernel
theorem dX11_keep_99 : decode cX11_keep 99 = .ok (.iload_n 3, 1) := by decide +kernel
theorem dX11_keep_100 : decode cX11_keep 100 = .ok (.baload, 1) := by decide +kernel
theorem dX11_keep_101 : decode cX11_keep 101 = .ok (.ifCond .eq 7, 3) := by decide +kernel
theorem dX11_keep_104 : decode cX11_keep 104 = .ok (.iconst 1, 1) := by decide +kernel
theorem dX11_keep_105 : decode cX11_keep 105 = .ok (.goto 4, 3) := by decide +kernel
theorem dX11_keep_108 : decode cX11_keep 108 = .ok (.iconst 0, 1) := by decide +kernel
theorem dX11_keep_109 : decode cX11_keep 109 = .ok (.iadd, 1) := by decide +kernel
theorem dX11_keep_110 : decode cX11_keep 110 = .ok (.iastore, 1) := by decide +kernel
theorem dX11_keep_111 : decode cX11_keep 111 = .ok (.aload_n 0, 1) := by decide +kernel
theorem dX11_keep_112 : decode cX11_keep 112 = .ok (.getfield 69, 3) := by decide +kernel
theorem dX11_keep_115 : decode cX11_keep 115 = .ok (.iload_n 1, 1) := by decide +kernel
theorem dX11_keep_116 : decode cX11_keep 116 = .ok (.dup2, 1) := by decide +kernel
theorem dX11_keep_117 : decode cX11_keep 117 = .ok (.iaload, 1) := by decide +kernel
theorem dX11_keep_118 : decode cX11_keep 118 = .ok (.iload 4, 2) := by decide +kernel
theorem dX11_keep_120 : decode cX11_keep 120 = .ok (.ifCond .eq 16, 3) := by decide +kernel
theorem dX11_keep_123 : decode cX11_keep 123 = .ok (.aload_n 0, 1) := by decide +kernel
theorem dX11_keep_124 : decode cX11_keep 124 = .ok (.getfield 96, 3) := by decide +kernel
theorem dX11_keep_127 : decode cX11_keep 127 = .ok (.iload_n 3, 1) := by decide +kernel
theorem dX11_keep_128 : decode cX11_keep 128 = .ok (.baload, 1) := by decide +kernel
theorem dX11_keep_129 : decode cX11_keep 129 = .ok (.ifCond .ne 7, 3) := by decide +kernel
theorem dX11_keep_132 : decode cX11_keep 132 = .ok (.iconst 1, 1) := by decide +kernel
theorem dX11_keep_133 : decode cX11_keep 133 = .ok (.goto 4, 3) := by decide +kernel
theorem dX11_keep_136 : decode cX11_keep 136 = .ok (.iconst 0, 1) := by decide +kernel
theorem dX11_keep_137 : decode cX11_keep 137 = .ok (.iadd, 1) := by decide +kernel
theorem dX11_keep_138 : decode cX11_keep 138 = .ok (.iastore, 1) := by decide +kernel
theorem dX11_keep_139 : decode cX11_keep 139 = .ok (.aload_n 0, 1) := by decide +kernel
theorem dX11_keep_140 : decode cX11_keep 140 = .ok (.getfield 72, 3) := by decide +kernel
theorem dX11_keep_143 : decode cX11_keep 143 = .ok (.iload_n 1, 1) := by decide +kernel
theorem dX11_keep_144 : decode cX11_keep 144 = .ok (.dup2, 1) := by decide +kernel
theorem dX11_keep_145 : decode cX11_keep 145 = .ok (.iaload, 1) := by decide +kernel
theorem dX11_keep_146 : decode cX11_keep 146 = .ok (.aload_n 0, 1) := by decide +kernel
theorem dX11_keep_147 : decode cX11_keep 147 = .ok (.getfield 108, 3) := by decide +kernel
theorem dX11_keep_150 : decode cX11_keep 150 = .ok (.iload_n 2, 1) := by decide +kernel
theorem dX11_keep_151 : decode cX11_keep 151 = .ok (.iaload, 1) := by decide +kernel
theorem dX11_keep_152 : decode cX11_keep 152 = .ok (.iconst 1, 1) := by decide +kernel
theorem dX11_keep_153 : decode cX11_keep 153 = .ok (.if_icmp .ne 7, 3) := by decide +kernel
theorem dX11_keep_156 : decode cX11_keep 156 = .ok (.iconst 1, 1) := by decide +kernel
theorem dX11_keep_157 : decode cX11_keep 157 = .ok (.goto 4, 3) := by decide +kernel
theorem dX11_keep_160 : decode cX11_keep 160 = .ok (.iconst 0, 1) := by decide +kernel
theorem dX11_keep_161 : decode cX11_keep 161 = .ok (.iadd, 1) := by decide +kernel
theorem dX11_keep_162 : decode cX11_keep 162 = .ok (.iastore, 1) := by decide +kernel
theorem dX11_keep_163 : decode cX11_keep 163 = .ok (.aload_n 0, 1) := by decide +kernel
theorem dX11_keep_164 : decode cX11_keep 164 = .ok (.getfield 75, 3) := by decide +kernel
theorem dX11_keep_167 : decode cX11_keep 167 = .ok (.iload_n 1, 1) := by decide +kernel
theorem dX11_keep_168 : decode cX11_keep 168 = .ok (.dup2, 1) := by decide +kernel
theorem dX11_keep_169 : decode cX11_keep 169 = .ok (.iaload, 1) := by decide +kernel
theorem dX11_keep_170 : decode cX11_keep 170 = .ok (.aload_n 0, 1) := by decide +kernel
theorem dX11_keep_171 : decode cX11_keep 171 = .ok (.getfield 108, 3) := by decide +kernel
theorem dX11_keep_174 : decode cX11_keep 174 = .ok (.iload_n 2, 1) := by decide +kernel
theorem dX11_keep_175 : decode cX11_keep 175 = .ok (.iaload, 1) := by decide +kernel
theorem dX11_keep_176 : decode cX11_keep 176 = .ok (.iconst 2, 1) := by decide +kernel
theorem dX11_keep_177 : decode cX11_keep 177 = .ok (.if_icmp .ne 7, 3) := by decide +kernel
theorem dX11_keep_180 : decode cX11_keep 180 = .ok (.iconst 1, 1) := by decide +kernel
theorem dX11_keep_181 : decode cX11_keep 181 = .ok (.goto 4, 3) := by decide +kernel
theorem dX11_keep_184 : decode cX11_keep 184 = .ok (.iconst 0, 1) := by decide +kernel
theorem dX11_keep_185 : decode cX11_keep 185 = .ok (.iadd, 1) := by decide +kernel
theorem dX11_keep_186 : decode cX11_keep 186 = .ok (.iastore, 1) := by decide +kernel
theorem dX11_keep_187 : decode cX11_keep 187 = .ok (.aload_n 0, 1) := by decide +kernel
theorem dX11_keep_188 : decode cX11_keep 188 = .ok (.getfield 57, 3) := by decide +kernel
theorem dX11_keep_191 : decode cX11_keep 191 = .ok (.bipush 30, 2) := by decide +kernel
theorem dX11_keep_193 : decode cX11_keep 193 = .ok (.iload_n 1, 1) := by decide +kernel
theorem dX11_keep_194 : decode cX11_keep 194 = .ok (.imul, 1) := by decide +kernel
theorem dX11_keep_195 : decode cX11_keep 195 = .ok (.iload_n 2, 1) := by decide +kernel
theorem dX11_keep_196 : decode cX11_keep 196 = .ok (.iadd, 1) := by decide +kernel
theorem dX11_keep_197 : decode cX11_keep 197 = .ok (.aload_n 0, 1) := by decide +kernel
theorem dX11_keep_198 : decode cX11_keep 198 = .ok (.getfield 41, 3) := by decide +kernel
theorem dX11_keep_201 : decode cX11_keep 201 = .ok (.iload_n 2, 1) := by decide +kernel
theorem dX11_keep_202 : decode cX11_keep 202 = .ok (.iaload, 1) := by decide +kernel
theorem dX11_keep_203 : decode cX11_keep 203 = .ok (.iastore, 1) := by decide +kernel
theorem dX11_keep_204 : decode cX11_keep 204 = .ok (.aload_n 0, 1) := by decide +kernel
theorem dX11_keep_205 : decode cX11_keep 205 = .ok (.getfield 60, 3) := by decide +kernel
theorem dX11_keep_208 : decode cX11_keep 208 = .ok (.bipush 30, 2) := by decide +kernel
theorem dX11_keep_210 : decode cX11_keep 210 = .ok (.iload_n 1, 1) := by decide +kernel
theorem dX11_keep_211 : decode cX11_keep 211 = .ok (.imul, 1) := by decide +kernel
theorem dX11_keep_212 : decode cX11_keep 212 = .ok (.iload_n 2, 1) := by decide +kernel
theorem dX11_keep_213 : decode cX11_keep 213 = .ok (.iadd, 1) := by decide +kernel
theorem dX11_keep_214 : decode cX11_keep 214 = .ok (.aload_n 0, 1) := by decide +kernel
theorem dX11_keep_215 : decode cX11_keep 215 = .ok (.getfield 44, 3) := by decide +kernel
theorem dX11_keep_218 : decode cX11_keep 218 = .ok (.iload_n 2, 1) := by decide +kernel
theorem dX11_keep_219 : decode cX11_keep 219 = .ok (.baload, 1) := by decide +kernel
theorem dX11_keep_220 : decode cX11_keep 220 = .ok (.bastore, 1) := by decide +kernel
theorem dX11_keep_221 : decode cX11_keep 221 = .ok (.aload_n 0, 1) := by decide +kernel
theorem dX11_keep_222 : decode cX11_keep 222 = .ok (.getfield 63, 3) := by decide +kernel
theorem dX11_keep_225 : decode cX11_keep 225 = .ok (.bipush 30, 2) := by decide +kernel
theorem dX11_keep_227 : decode cX11_keep 227 = .ok (.iload_n 1, 1) := by decide +kernel
theorem dX11_keep_228 : decode cX11_keep 228 = .ok (.imul, 1) := by decide +kernel
theorem dX11_keep_229 : decode cX11_keep 229 = .ok (.iload_n 2, 1) := by decide +kernel
theorem dX11_keep_230 : decode cX11_keep 230 = .ok (.iadd, 1) := by decide +kernel
theorem dX11_keep_231 : decode cX11_keep 231 = .ok (.aload_n 0, 1) := by decide +kernel
theorem dX11_keep_232 : decode cX11_keep 232 = .ok (.getfield 69, 3) := by decide +kernel
theorem dX11_keep_235 : decode cX11_keep 235 = .ok (.iload_n 1, 1) := by decide +kernel
theorem dX11_keep_236 : decode cX11_keep 236 = .ok (.iaload, 1) := by decide +kernel
theorem dX11_keep_237 : decode cX11_keep 237 = .ok (.aload_n 0, 1) := by decide +kernel
theorem dX11_keep_238 : decode cX11_keep 238 = .ok (.getfield 72, 3) := by decide +kernel
theorem dX11_keep_241 : decode cX11_keep 241 = .ok (.iload_n 1, 1) := by decide +kernel
theorem dX11_keep_242 : decode cX11_keep 242 = .ok (.iaload, 1) := by decide +kernel
theorem dX11_keep_243 : decode cX11_keep 243 = .ok (.iadd, 1) := by decide +kernel
theorem dX11_keep_244 : decode cX11_keep 244 = .ok (.aload_n 0, 1) := by decide +kernel
theorem dX11_keep_245 : decode cX11_keep 245 = .ok (.getfield 75, 3) := by decide +kernel
theorem dX11_keep_248 : decode cX11_keep 248 = .ok (.iload_n 1, 1) := by decide +kernel
theorem dX11_keep_249 : decode cX11_keep 249 = .ok (.iaload, 1) := by decide +kernel
theorem dX11_keep_250 : decode cX11_keep 250 = .ok (.iadd, 1) := by decide +kernel
theorem dX11_keep_251 : decode cX11_keep 251 = .ok (.iastore, 1) := by decide +kernel
theorem dX11_keep_252 : decode cX11_keep 252 = .ok (.iinc 2 1, 3) := by decide +kernel
theorem dX11_keep_255 : decode cX11_keep 255 = .ok (.goto (-225), 3) := by decide +kernel
theorem dX11_keep_258 : decode cX11_keep 258 = .ok (.return_, 1) := by decide +kernel
theorem dX11_local_0 : decode cX11_local 0 = .ok (.aload_n 0, 1) := by decide +kernel
theorem dX11_local_1 : decode cX11_local 1 = .ok (.iconst 0, 1) := by decide +kernel
theorem dX11_local_2 : decode cX11_local 2 = .ok (.putfield 111, 3) := by decide +kernel
theorem dX11_local_5 : decode cX11_local 5 = .ok (.iload_n 1, 1) := by decide +kernel
theorem dX11_local_6 : decode cX11_local 6 = .ok (.iconst 0, 1) := by decide +kernel
theorem dX11_local_7 : decode cX11_local 7 = .ok (.iconst 5, 1) := by decide +kernel
theorem dX11_local_8 : decode cX11_local 8 = .ok (.invokestatic 114, 3) := by decide +kernel
theorem dX11_local_11 : decode cX11_local 11 = .ok (.ifCond .eq 12, 3) := by decide +kernel
theorem dX11_local_14 : decode cX11_local 14 = .ok (.aload_n 0, 1) := by decide +kernel
theorem dX11_local_15 : decode cX11_local 15 = .ok (.getfield 23, 3) := by decide +kernel
theorem dX11_local_18 : decode cX11_local 18 = .ok (.iload_n 1, 1) := by decide +kernel
theorem dX11_local_19 : decode cX11_local 19 = .ok (.iaload, 1) := by decide +kernel
theorem dX11_local_20 : decode cX11_local 20 = .ok (.goto 8, 3) := by decide +kernel
theorem dX11_local_23 : decode cX11_local 23 = .ok (.aload_n 0, 1) := by decide +kernel
theorem dX11_local_24 : decode cX11_local 24 = .ok (.iconst 1, 1) := by decide +kernel
theorem dX11_local_25 : decode cX11_local 25 = .ok (.invokevirtual 118, 3) := by decide +kernel
theorem dX11_local_28 : decode cX11_local 28 = .ok (.ireturn, 1) := by decide +kernel
theorem dX11_top_0 : decode cX11_top 0 = .ok (.aload_n 0, 1) := by decide +kernel
theorem dX11_top_1 : decode cX11_top 1 = .ok (.iconst 0, 1) := by decide +kernel
theorem dX11_top_2 : decode cX11_top 2 = .ok (.putfield 111, 3) := by decide +kernel
theorem dX11_top_5 : decode cX11_top 5 = .ok (.iload_n 1, 1) := by decide +kernel
theorem dX11_top_6 : decode cX11_top 6 = .ok (.iconst 0, 1) := by decide +kernel
theorem dX11_top_7 : decode cX11_top 7 = .ok (.aload_n 0, 1) := by decide +kernel
theorem dX11_top_8 : decode cX11_top 8 = .ok (.getfield 139, 3) := by decide +kernel
theorem dX11_top_11 : decode cX11_top 11 = .ok (.iconst 1, 1) := by decide +kernel
theorem dX11_top_12 : decode cX11_top 12 = .ok (.isub, 1) := by decide +kernel
theorem dX11_top_13 : decode cX11_top 13 = .ok (.invokestatic 114, 3) := by decide +kernel
theorem dX11_top_16 : decode cX11_top 16 = .ok (.ifCond .eq 19, 3) := by decide +kernel
theorem dX11_top_19 : decode cX11_top 19 = .ok (.aload_n 0, 1) := by decide +kernel
theorem dX11_top_20 : decode cX11_top 20 = .ok (.getfield 26, 3) := by decide +kernel
theorem dX11_top_23 : decode cX11_top 23 = .ok (.aload_n 0, 1) := by decide +kernel
theorem dX11_top_24 : decode cX11_top 24 = .ok (.getfield 139, 3) := by decide +kernel
theorem dX11_top_27 : decode cX11_top 27 = .ok (.iconst 1, 1) := by decide +kernel
theorem dX11_top_28 : decode cX11_top 28 = .ok (.isub, 1) := by decide +kernel
theorem dX11_top_29 : decode cX11_top 29 = .ok (.iload_n 1, 1) := by decide +kernel
theorem dX11_top_30 : decode cX11_top 30 = .ok (.isub, 1) := by decide +kernel
theorem dX11_top_31 : decode cX11_top 31 = .ok (.iaload, 1) := by decide +kernel
theorem dX11_top_32 : decode cX11_top 32 = .ok (.goto 8, 3) := by decide +kernel
theorem dX11_top_35 : decode cX11_top 35 = .ok (.aload_n 0, 1) := by decide +kernel
theorem dX11_top_36 : decode cX11_top 36 = .ok (.iconst 1, 1) := by decide +kernel
theorem dX11_top_37 : decode cX11_top 37 = .ok (.invokevirtual 118, 3) := by decide +kernel
theorem dX11_top_40 : decode cX11_top 40 = .ok (.ireturn, 1) := by decide +kernel
theorem dX11_outs_0 : decode cX11_outs 0 = .ok (.aload_n 0, 1) := by decide +kernel
theorem dX11_outs_1 : decode cX11_outs 1 = .ok (.iconst 0, 1) := by decide +kernel
theorem dX11_outs_2 : decode cX11_outs 2 = .ok (.putfield 111, 3) := by decide +kernel
theorem dX11_outs_5 : decode cX11_outs 5 = .ok (.aload_n 0, 1) := by decide +kernel
theorem dX11_outs_6 : decode cX11_outs 6 = .ok (.getfield 142, 3) := by decide +kernel
theorem dX11_outs_9 : decode cX11_outs 9 = .ok (.ireturn, 1) := by decide +kernel
theorem dX11_out_0 : decode cX11_out 0 = .ok (.aload_n 0, 1) := by decide +kernel
theorem dX11_out_1 : decode cX11_out 1 = .ok (.iconst 0, 1) := by decide +kernel
theorem dX11_out_2 : decode cX11_out 2 = .ok (.putfield 111, 3) := by decide +kernel
theorem dX11_out_5 : decode cX11_out 5 = .ok (.iload_n 1, 1) := by decide +kernel
theorem dX11_out_6 : decode cX11_out 6 = .ok (.iconst 0, 1) := by decide +kernel
theorem dX11_out_7 : decode cX11_out 7 = .ok (.bipush 29, 2) := by decide +kernel
theorem dX11_out_9 : decode cX11_out 9 = .ok (.invokestatic 114, 3) := by decide +kernel
theorem dX11_out_12 : decode cX11_out 12 = .ok (.ifCond .eq 20, 3) := by decide +kernel
theorem dX11_out_15 : decode cX11_out 15 = .ok (.iload_n 1, 1) := by decide +kernel
theorem dX11_out_16 : decode cX11_out 16 = .ok (.aload_n 0, 1) := by decide +kernel
theorem dX11_out_17 : decode cX11_out 17 = .ok (.getfield 142, 3) := by decide +kernel
theorem dX11_out_20 : decode cX11_out 20 = .ok (.if_icmp .ge 12, 3) := by decide +kernel
theorem dX11_out_23 : decode cX11_out 23 = .ok (.aload_n 0, 1) := by decide +kernel
theorem dX11_out_24 : decode cX11_out 24 = .ok (.getfield 29, 3) := by decide +kernel
theorem dX11_out_27 : decode cX11_out 27 = .ok (.iload_n 1, 1) := by decide +kernel
theorem dX11_out_28 : decode cX11_out 28 = .ok (.iaload, 1) := by decide +kernel
theorem dX11_out_29 : decode cX11_out 29 = .ok (.goto 8, 3) := by decide +kernel
theorem dX11_out_32 : decode cX11_out 32 = .ok (.aload_n 0, 1) := by decide +kernel
theorem dX11_out_33 : decode cX11_out 33 = .ok (.iconst 1, 1) := by decide +kernel
theorem dX11_out_34 : decode cX11_out 34 = .ok (.invokevirtual 118, 3) := by decide +kernel
theorem dX11_out_37 : decode cX11_out 37 = .ok (.ireturn, 1) := by decide +kernel
theorem dX11_count_0 : decode cX11_count 0 = .ok (.aload_n 0, 1) := by decide +kernel
theorem dX11_count_1 : decode cX11_count 1 = .ok (.iconst 0, 1) := by decide +kernel
theorem dX11_count_2 : decode cX11_count 2 = .ok (.putfield 111, 3) := by decide +kernel
theorem dX11_count_5 : decode cX11_count 5 = .ok (.iload_n 1, 1) := by decide +kernel
theorem dX11_count_6 : decode cX11_count 6 = .ok (.iconst 0, 1) := by decide +kernel
theorem dX11_count_7 : decode cX11_count 7 = .ok (.bipush 6, 2) := by decide +kernel
theorem dX11_count_9 : decode cX11_count 9 = .ok (.invokestatic 114, 3) := by decide +kernel
theorem dX11_count_12 : decode cX11_count 12 = .ok (.ifCond .ne 9, 3) := by decide +kernel
theorem dX11_count_15 : decode cX11_count 15 = .ok (.aload_n 0, 1) := by decide +kernel
theorem dX11_count_16 : decode cX11_count 16 = .ok (.iconst 1, 1) := by decide +kernel
theorem dX11_count_17 : decode cX11_count 17 = .ok (.invokevirtual 118, 3) := by decide +kernel
theorem dX11_count_20 : decode cX11_count 20 = .ok (.ireturn, 1) := by decide +kernel
theorem dX11_count_21 : decode cX11_count 21 = .ok (.iload_n 1, 1) := by decide +kernel
theorem dX11_count_22 : decode cX11_count 22 = .ok (.iconst 3, 1) := by decide +kernel
theorem dX11_count_23 : decode cX11_count 23 = .ok (.if_icmp .ge 31, 3) := by decide +kernel
theorem dX11_count_26 : decode cX11_count 26 = .ok (.iload_n 1, 1) := by decide +kernel
theorem dX11_count_27 : decode cX11_count 27 = .ok (.ifCond .ne 10, 3) := by decide +kernel
theorem dX11_count_30 : decode cX11_count 30 = .ok (.aload_n 0, 1) := by decide +kernel
theorem dX11_count_31 : decode cX11_count 31 = .ok (.getfield 19, 3) := by decide +kernel
theorem dX11_count_34 : decode cX11_count 34 = .ok (.goto 19, 3) := by decide +kernel
theorem dX11_count_37 : decode cX11_count 37 = .ok (.iload_n 1, 1) := by decide +kernel
theorem dX11_count_38 : decode cX11_count 38 = .ok (.iconst 1, 1) := by decide +kernel
theorem dX11_count_39 : decode cX11_count 39 = .ok (.if_icmp .ne 10, 3) := by decide +kernel
theorem dX11_count_42 : decode cX11_count 42 = .ok (.aload_n 0, 1) := by decide +kernel
theorem dX11_count_43 : decode cX11_count 43 = .ok (.getfield 148, 3) := by decide +kernel
theorem dX11_count_46 : decode cX11_count 46 = .ok (.goto 7, 3) := by decide +kernel
theorem dX11_count_49 : decode cX11_count 49 = .ok (.aload_n 0, 1) := by decide +kernel
theorem dX11_count_50 : decode cX11_count 50 = .ok (.getfield 151, 3) := by decide +kernel
theorem dX11_count_53 : decode cX11_count 53 = .ok (.ireturn, 1) := by decide +kernel
theorem dX11_count_54 : decode cX11_count 54 = .ok (.iload_n 1, 1) := by decide +kernel
theorem dX11_count_55 : decode cX11_count 55 = .ok (.iconst 3, 1) := by decide +kernel
theorem dX11_count_56 : decode cX11_count 56 = .ok (.if_icmp .ne 10, 3) := by decide +kernel
theorem dX11_count_59 : decode cX11_count 59 = .ok (.aload_n 0, 1) := by decide +kernel
theorem dX11_count_60 : decode cX11_count 60 = .ok (.getfield 154, 3) := by decide +kernel
theorem dX11_count_63 : decode cX11_count 63 = .ok (.goto 39, 3) := by decide +kernel
theorem dX11_count_66 : decode cX11_count 66 = .ok (.iload_n 1, 1) := by decide +kernel
theorem dX11_count_67 : decode cX11_count 67 = .ok (.iconst 4, 1) := by decide +kernel
theorem dX11_count_68 : decode cX11_count 68 = .ok (.if_icmp .ne 10, 3) := by decide +kernel
theorem dX11_count_71 : decode cX11_count 71 = .ok (.aload_n 0, 1) := by decide +kernel
theorem dX11_count_72 : decode cX11_count 72 = .ok (.getfield 157, 3) := by decide +kernel
theorem dX11_count_75 : decode cX11_count 75 = .ok (.goto 27, 3) := by decide +kernel
theorem dX11_count_78 : decode cX11_count 78 = .ok (.iload_n 1, 1) := by decide +kernel
theorem dX11_count_79 : decode cX11_count 79 = .ok (.iconst 5, 1) := by decide +kernel
theorem dX11_count_80 : decode cX11_count 80 = .ok (.if_icmp .ne 10, 3) := by decide +kernel
theorem dX11_count_83 : decode cX11_count 83 = .ok (.aload_n 0, 1) := by decide +kernel
theorem dX11_count_84 : decode cX11_count 84 = .ok (.getfield 145, 3) := by decide +kernel
theorem dX11_count_87 : decode cX11_count 87 = .ok (.goto 15, 3) := by decide +kernel
theorem dX11_count_90 : decode cX11_count 90 = .ok (.aload_n 0, 1) := by decide +kernel
theorem dX11_count_91 : decode cX11_count 91 = .ok (.getfield 38, 3) := by decide +kernel
theorem dX11_count_94 : decode cX11_count 94 = .ok (.ifCond .lt 7, 3) := by decide +kernel
theorem dX11_count_97 : decode cX11_count 97 = .ok (.iconst 1, 1) := by decide +kernel
theorem dX11_count_98 : decode cX11_count 98 = .ok (.goto 4, 3) := by decide +kernel
theorem dX11_count_101 : decode cX11_count 101 = .ok (.iconst 0, 1) := by decide +kernel
theorem dX11_count_102 : decode cX11_count 102 = .ok (.ireturn, 1) := by decide +kernel
theorem dX11_place_0 : decode cX11_place 0 = .ok (.aload_n 0, 1) := by decide +kernel
theorem dX11_place_1 : decode cX11_place 1 = .ok (.iconst 0, 1) := by decide +kernel
theorem dX11_place_2 : decode cX11_place 2 = .ok (.putfield 111, 3) := by decide +kernel
theorem dX11_place_5 : decode cX11_place 5 = .ok (.iload_n 1, 1) := by decide +kernel
theorem dX11_place_6 : decode cX11_place 6 = .ok (.iconst 0, 1) := by decide +kernel
theorem dX11_place_7 : decode cX11_place 7 = .ok (.aload_n 0, 1) := by decide +kernel
theorem dX11_place_8 : decode cX11_place 8 = .ok (.getfield 122, 3) := by decide +kernel
theorem dX11_place_11 : decode cX11_place 11 = .ok (.iconst 1, 1) := by decide +kernel
theorem dX11_place_12 : decode cX11_place 12 = .ok (.isub, 1) := by decide +kernel
theorem dX11_place_13 : decode cX11_place 13 = .ok (.invokestatic 114, 3) := by decide +kernel
theorem dX11_place_16 : decode cX11_place 16 = .ok (.ifCond .eq 12, 3) := by decide +kernel
theorem dX11_place_19 : decode cX11_place 19 = .ok (.iload_n 2, 1) := by decide +kernel
theorem dX11_place_20 : decode cX11_place 20 = .ok (.iconst 0, 1) := by decide +kernel
theorem dX11_place_21 : decode cX11_place 21 = .ok (.iconst 1, 1) := by decide +kernel
theorem dX11_place_22 : decode cX11_place 22 = .ok (.invokestatic 114, 3) := by decide +kernel
theorem dX11_place_25 : decode cX11_place 25 = .ok (.ifCond .ne 9, 3) := by decide +kernel
theorem dX11_place_28 : decode cX11_place 28 = .ok (.aload_n 0, 1) := by decide +kernel
theorem dX11_place_29 : decode cX11_place 29 = .ok (.iconst 1, 1) := by decide +kernel
theorem dX11_place_30 : decode cX11_place 30 = .ok (.invokevirtual 118, 3) := by decide +kernel
theorem dX11_place_33 : decode cX11_place 33 = .ok (.ireturn, 1) := by decide +kernel
theorem dX11_place_34 : decode cX11_place 34 = .ok (.iload_n 2, 1) := by decide +kernel
theorem dX11_place_35 : decode cX11_place 35 = .ok (.ifCond .ne 12, 3) := by decide +kernel
theorem dX11_place_38 : decode cX11_place 38 = .ok (.aload_n 0, 1) := by decide +kernel
theorem dX11_place_39 : decode cX11_place 39 = .ok (.getfield 32, 3) := by decide +kernel
theorem dX11_place_42 : decode cX11_place 42 = .ok (.iload_n 1, 1) := by decide +kernel
theorem dX11_place_43 : decode cX11_place 43 = .ok (.iaload, 1) := by decide +kernel
theorem dX11_place_44 : decode cX11_place 44 = .ok (.goto 9, 3) := by decide +kernel
theorem dX11_place_47 : decode cX11_place 47 = .ok (.aload_n 0, 1) := by decide +kernel
theorem dX11_place_48 : decode cX11_place 48 = .ok (.getfield 35, 3) := by decide +kernel
theorem dX11_place_51 : decode cX11_place 51 = .ok (.iload_n 1, 1) := by decide +kernel
theorem dX11_place_52 : decode cX11_place 52 = .ok (.iaload, 1) := by decide +kernel
theorem dX11_place_53 : decode cX11_place 53 = .ok (.ireturn, 1) := by decide +kernel
theorem dX11_trace_0 : decode cX11_trace 0 = .ok (.aload_n 0, 1) := by decide +kernel
theorem dX11_trace_1 : decode cX11_trace 1 = .ok (.iconst 0, 1) := by decide +kernel
theorem dX11_trace_2 : decode cX11_trace 2 = .ok (.putfield 111, 3) := by decide +kernel
theorem dX11_trace_5 : decode cX11_trace 5 = .ok (.iload_n 1, 1) := by decide +kernel
theorem dX11_trace_6 : decode cX11_trace 6 = .ok (.iconst 0, 1) := by decide +kernel
theorem dX11_trace_7 : decode cX11_trace 7 = .ok (.aload_n 0, 1) := by decide +kernel
theorem dX11_trace_8 : decode cX11_trace 8 = .ok (.getfield 145, 3) := by decide +kernel
theorem dX11_trace_11 : decode cX11_trace 11 = .ok (.iconst 1, 1) := by decide +kernel
theorem dX11_trace_12 : decode cX11_trace 12 = .ok (.isub, 1) := by decide +kernel
theorem dX11_trace_13 : decode cX11_trace 13 = .ok (.invokestatic 114, 3) := by decide +kernel
theorem dX11_trace_16 : decode cX11_trace 16 = .ok (.ifCond .eq 12, 3) := by decide +kernel
theorem dX11_trace_19 : decode cX11_trace 19 = .ok (.iload_n 2, 1) := by decide +kernel
theorem dX11_trace_20 : decode cX11_trace 20 = .ok (.iconst 0, 1) := by decide +kernel
theorem dX11_trace_21 : decode cX11_trace 21 = .ok (.iconst 5, 1) := by decide +kernel
theorem dX11_trace_22 : decode cX11_trace 22 = .ok (.invokestatic 114, 3) := by decide +kernel
theorem dX11_trace_25 : decode cX11_trace 25 = .ok (.ifCond .ne 9, 3) := by decide +kernel
theorem dX11_trace_28 : decode cX11_trace 28 = .ok (.aload_n 0, 1) := by decide +kernel
theorem dX11_trace_29 : decode cX11_trace 29 = .ok (.iconst 1, 1) := by decide +kernel
theorem dX11_trace_30 : decode cX11_trace 30 = .ok (.invokevirtual 118, 3) := by decide +kernel
theorem dX11_trace_33 : decode cX11_trace 33 = .ok (.ireturn, 1) := by decide +kernel
theorem dX11_trace_34 : decode cX11_trace 34 = .ok (.iload_n 2, 1) := by decide +kernel
theorem dX11_trace_35 : decode cX11_trace 35 = .ok (.iconst 3, 1) := by decide +kernel
theorem dX11_trace_36 : decode cX11_trace 36 = .ok (.if_icmp .ge 37, 3) := by decide +kernel
theorem dX11_trace_39 : decode cX11_trace 39 = .ok (.iload_n 2, 1) := by decide +kernel
theorem dX11_trace_40 : decode cX11_trace 40 = .ok (.ifCond .ne 12, 3) := by decide +kernel
theorem dX11_trace_43 : decode cX11_trace 43 = .ok (.aload_n 0, 1) := by decide +kernel
theorem dX11_trace_44 : decode cX11_trace 44 = .ok (.getfield 51, 3) := by decide +kernel
theorem dX11_trace_47 : decode cX11_trace 47 = .ok (.iload_n 1, 1) := by decide +kernel
theorem dX11_trace_48 : decode cX11_trace 48 = .ok (.iaload, 1) := by decide +kernel
theorem dX11_trace_49 : decode cX11_trace 49 = .ok (.goto 23, 3) := by decide +kernel
theorem dX11_trace_52 : decode cX11_trace 52 = .ok (.iload_n 2, 1) := by decide +kernel
theorem dX11_trace_53 : decode cX11_trace 53 = .ok (.iconst 1, 1) := by decide +kernel
theorem dX11_trace_54 : decode cX11_trace 54 = .ok (.if_icmp .ne 12, 3) := by decide +kernel
theorem dX11_trace_57 : decode cX11_trace 57 = .ok (.aload_n 0, 1) := by decide +kernel
theorem dX11_trace_58 : decode cX11_trace 58 = .ok (.getfield 66, 3) := by decide +kernel
theorem dX11_trace_61 : decode cX11_trace 61 = .ok (.iload_n 1, 1) := by decide +kernel
theorem dX11_trace_62 : decode cX11_trace 62 = .ok (.iaload, 1) := by decide +kernel
theorem dX11_trace_63 : decode cX11_trace 63 = .ok (.goto 9, 3) := by decide +kernel
theorem dX11_trace_66 : decode cX11_trace 66 = .ok (.aload_n 0, 1) := by decide +kernel
theorem dX11_trace_67 : decode cX11_trace 67 = .ok (.getfield 69, 3) := by decide +kernel
theorem dX11_trace_70 : decode cX11_trace 70 = .ok (.iload_n 1, 1) := by decide +kernel
theorem dX11_trace_71 : decode cX11_trace 71 = .ok (.iaload, 1) := by decide +kernel
theorem dX11_trace_72 : decode cX11_trace 72 = .ok (.ireturn, 1) := by decide +kernel
theorem dX11_trace_73 : decode cX11_trace 73 = .ok (.iload_n 2, 1) := by decide +kernel
theorem dX11_trace_74 : decode cX11_trace 74 = .ok (.iconst 3, 1) := by decide +kernel
theorem dX11_trace_75 : decode cX11_trace 75 = .ok (.if_icmp .ne 12, 3) := by decide +kernel
theorem dX11_trace_78 : decode cX11_trace 78 = .ok (.aload_n 0, 1) := by decide +kernel
theorem dX11_trace_79 : decode cX11_trace 79 = .ok (.getfield 72, 3) := by decide +kernel
theorem dX11_trace_82 : decode cX11_trace 82 = .ok (.iload_n 1, 1) := by decide +kernel
theorem dX11_trace_83 : decode cX11_trace 83 = .ok (.iaload, 1) := by decide +kernel
theorem dX11_trace_84 : decode cX11_trace 84 = .ok (.goto 23, 3) := by decide +kernel
theorem dX11_trace_87 : decode cX11_trace 87 = .ok (.iload_n 2, 1) := by decide +kernel
theorem dX11_trace_88 : decode cX11_trace 88 = .ok (.iconst 4, 1) := by decide +kernel
theorem dX11_trace_89 : decode cX11_trace 89 = .ok (.if_icmp .ne 12, 3) := by decide +kernel
theorem dX11_trace_92 : decode cX11_trace 92 = .ok (.aload_n 0, 1) := by decide +kernel
theorem dX11_trace_93 : decode cX11_trace 93 = .ok (.getfield 75, 3) := by decide +kernel
theorem dX11_trace_96 : decode cX11_trace 96 = .ok (.iload_n 1, 1) := by decide +kernel
theorem dX11_trace_97 : decode cX11_trace 97 = .ok (.iaload, 1) := by decide +kernel
theorem dX11_trace_98 : decode cX11_trace 98 = .ok (.goto 9, 3) := by decide +kernel
theorem dX11_trace_101 : decode cX11_trace 101 = .ok (.aload_n 0, 1) := by decide +kernel
theorem dX11_trace_102 : decode cX11_trace 102 = .ok (.getfield 78, 3) := by decide +kernel
theorem dX11_trace_105 : decode cX11_trace 105 = .ok (.iload_n 1, 1) := by decide +kernel
theorem dX11_trace_106 : decode cX11_trace 106 = .ok (.iaload, 1) := by decide +kernel
theorem dX11_trace_107 : decode cX11_trace 107 = .ok (.ireturn, 1) := by decide +kernel
theorem dL_add_0 : decode cL_add 0 = .ok (.aload_n 3, 1) := by decide +kernel
theorem dL_add_1 : decode cL_add 1 = .ok (.iconst 0, 1) := by decide +kernel
theorem dL_add_2 : decode cL_add 2 = .ok (.aload_n 0, 1) := by decide +kernel
theorem dL_add_3 : decode cL_add 3 = .ok (.iload_n 1, 1) := by decide +kernel
theorem dL_add_4 : decode cL_add 4 = .ok (.iload_n 2, 1) := by decide +kernel
theorem dL_add_5 : decode cL_add 5 = .ok (.invokevirtual 7, 3) := by decide +kernel
theorem dL_add_8 : decode cL_add 8 = .ok (.i2l, 1) := by decide +kernel
theorem dL_add_9 : decode cL_add 9 = .ok (.lastore, 1) := by decide +kernel
theorem dL_add_10 : decode cL_add 10 = .ok (.goto 11, 3) := by decide +kernel
theorem dL_add_13 : decode cL_add 13 = .ok (.astore 4, 2) := by decide +kernel
theorem dL_add_15 : decode cL_add 15 = .ok (.iconst 1, 1) := by decide +kernel
theorem dL_add_16 : decode cL_add 16 = .ok (.ireturn, 1) := by decide +kernel
theorem dL_add_17 : decode cL_add 17 = .ok (.astore 4, 2) := by decide +kernel
theorem dL_add_19 : decode cL_add 19 = .ok (.iconst 2, 1) := by decide +kernel
theorem dL_add_20 : decode cL_add 20 = .ok (.ireturn, 1) := by decide +kernel
theorem dL_add_21 : decode cL_add 21 = .ok (.iconst 0, 1) := by decide +kernel
theorem dL_add_22 : decode cL_add 22 = .ok (.ireturn, 1) := by decide +kernel
theorem dL_begin_0 : decode cL_begin 0 = .ok (.aload 4, 2) := by decide +kernel
theorem dL_begin_2 : decode cL_begin 2 = .ok (.iconst 0, 1) := by decide +kernel
theorem dL_begin_3 : decode cL_begin 3 = .ok (.aload_n 0, 1) := by decide +kernel
theorem dL_begin_4 : decode cL_begin 4 = .ok (.iload_n 1, 1) := by decide +kernel
theorem dL_begin_5 : decode cL_begin 5 = .ok (.iload_n 2, 1) := by decide +kernel
theorem dL_begin_6 : decode cL_begin 6 = .ok (.iload_n 3, 1) := by decide +kernel
theorem dL_begin_7 : decode cL_begin 7 = .ok (.invokevirtual 17, 3) := by decide +kernel
theorem dL_begin_10 : decode cL_begin 10 = .ok (.ifCond .eq 7, 3) := by decide +kernel
theorem dL_begin_13 : decode cL_begin 13 = .ok (.lconst 1, 1) := by decide +kernel
theorem dL_begin_14 : decode cL_begin 14 = .ok (.goto 4, 3) := by decide +kernel
theorem dL_begin_17 : decode cL_begin 17 = .ok (.lconst 0, 1) := by decide +kernel
theorem dL_begin_18 : decode cL_begin 18 = .ok (.lastore, 1) := by decide +kernel
theorem dL_begin_19 : decode cL_begin 19 = .ok (.goto 7, 3) := by decide +kernel
theorem dL_begin_22 : decode cL_begin 22 = .ok (.astore 5, 2) := by decide +kernel
theorem dL_begin_24 : decode cL_begin 24 = .ok (.iconst 1, 1) := by decide +kernel
theorem dL_begin_25 : decode cL_begin 25 = .ok (.ireturn, 1) := by decide +kernel
theorem dL_begin_26 : decode cL_begin 26 = .ok (.iconst 0, 1) := by decide +kernel
theorem dL_begin_27 : decode cL_begin 27 = .ok (.ireturn, 1) := by decide +kernel
theorem dL_run_0 : decode cL_run 0 = .ok (.aload_n 2, 1) := by decide +kernel
theorem dL_run_1 : decode cL_run 1 = .ok (.iconst 0, 1) := by decide +kernel
theorem dL_run_2 : decode cL_run 2 = .ok (.aload_n 0, 1) := by decide +kernel
theorem dL_run_3 : decode cL_run 3 = .ok (.iload_n 1, 1) := by decide +kernel
theorem dL_run_4 : decode cL_run 4 = .ok (.invokevirtual 21, 3) := by decide +kernel
theorem dL_run_7 : decode cL_run 7 = .ok (.i2l, 1) := by decide +kernel
theorem dL_run_8 : decode cL_run 8 = .ok (.lastore, 1) := by decide +kernel
theorem dL_run_9 : decode cL_run 9 = .ok (.goto 9, 3) := by decide +kernel
theorem dL_run_12 : decode cL_run 12 = .ok (.astore_n 3, 1) := by decide +kernel
theorem dL_run_13 : decode cL_run 13 = .ok (.iconst 1, 1) := by decide +kernel
theorem dL_run_14 : decode cL_run 14 = .ok (.ireturn, 1) := by decide +kernel
theorem dL_run_15 : decode cL_run 15 = .ok (.astore_n 3, 1) := by decide +kernel
theorem dL_run_16 : decode cL_run 16 = .ok (.iconst 2, 1) := by decide +kernel
theorem dL_run_17 : decode cL_run 17 = .ok (.ireturn, 1) := by decide +kernel
theorem dL_run_18 : decode cL_run 18 = .ok (.iconst 0, 1) := by decide +kernel
theorem dL_run_19 : decode cL_run 19 = .ok (.ireturn, 1) := by decide +kernel
theorem dL_local_0 : decode cL_local 0 = .ok (.aload_n 2, 1) := by decide +kernel
theorem dL_local_1 : decode cL_local 1 = .ok (.iconst 0, 1) := by decide +kernel
theorem dL_local_2 : decode cL_local 2 = .ok (.aload_n 0, 1) := by decide +kernel
theorem dL_local_3 : decode cL_local 3 = .ok (.iload_n 1, 1) := by decide +kernel
theorem dL_local_4 : decode cL_local 4 = .ok (.invokevirtual 25, 3) := by decide +kernel
theorem dL_local_7 : decode cL_local 7 = .ok (.i2l, 1) := by decide +kernel
theorem dL_local_8 : decode cL_local 8 = .ok (.lastore, 1) := by decide +kernel
theorem dL_local_9 : decode cL_local 9 = .ok (.goto 6, 3) := by decide +kernel
theorem dL_local_12 : decode cL_local 12 = .ok (.astore_n 3, 1) := by decide +kernel
theorem dL_local_13 : decode cL_local 13 = .ok (.iconst 1, 1) := by decide +kernel
theorem dL_local_14 : decode cL_local 14 = .ok (.ireturn, 1) := by decide +kernel
theorem dL_local_15 : decode cL_local 15 = .ok (.iconst 0, 1) := by decide +kernel
theorem dL_local_16 : decode cL_local 16 = .ok (.ireturn, 1) := by decide +kernel
theorem dL_top_0 : decode cL_top 0 = .ok (.aload_n 2, 1) := by decide +kernel
theorem dL_top_1 : decode cL_top 1 = .ok (.iconst 0, 1) := by decide +kernel
theorem dL_top_2 : decode cL_top 2 = .ok (.aload_n 0, 1) := by decide +kernel
theorem dL_top_3 : decode cL_top 3 = .ok (.iload_n 1, 1) := by decide +kernel
theorem dL_top_4 : decode cL_top 4 = .ok (.invokevirtual 30, 3) := by decide +kernel
theorem dL_top_7 : decode cL_top 7 = .ok (.i2l, 1) := by decide +kernel
theorem dL_top_8 : decode cL_top 8 = .ok (.lastore, 1) := by decide +kernel
theorem dL_top_9 : decode cL_top 9 = .ok (.goto 6, 3) := by decide +kernel
theorem dL_top_12 : decode cL_top 12 = .ok (.astore_n 3, 1) := by decide +kernel
theorem dL_top_13 : decode cL_top 13 = .ok (.iconst 1, 1) := by decide +kernel
theorem dL_top_14 : decode cL_top 14 = .ok (.ireturn, 1) := by decide +kernel
theorem dL_top_15 : decode cL_top 15 = .ok (.iconst 0, 1) := by decide +kernel
theorem dL_top_16 : decode cL_top 16 = .ok (.ireturn, 1) := by decide +kernel
theorem dL_out_0 : decode cL_out 0 = .ok (.aload_n 2, 1) := by decide +kernel
theorem dL_out_1 : decode cL_out 1 = .ok (.iconst 0, 1) := by decide +kernel
theorem dL_out_2 : decode cL_out 2 = .ok (.aload_n 0, 1) := by decide +kernel
theorem dL_out_3 : decode cL_out 3 = .ok (.iload_n 1, 1) := by decide +kernel
theorem dL_out_4 : decode cL_out 4 = .ok (.invokevirtual 33, 3) := by decide +kernel
theorem dL_out_7 : decode cL_out 7 = .ok (.i2l, 1) := by decide +kernel
theorem dL_out_8 : decode cL_out 8 = .ok (.lastore, 1) := by decide +kernel
theorem dL_out_9 : decode cL_out 9 = .ok (.goto 6, 3) := by decide +kernel
theorem dL_out_12 : decode cL_out 12 = .ok (.astore_n 3, 1) := by decide +kernel
theorem dL_out_13 : decode cL_out 13 = .ok (.iconst 1, 1) := by decide +kernel
theorem dL_out_14 : decode cL_out 14 = .ok (.ireturn, 1) := by decide +kernel
theorem dL_out_15 : decode cL_out 15 = .ok (.iconst 0, 1) := by decide +kernel
theorem dL_out_16 : decode cL_out 16 = .ok (.ireturn, 1) := by decide +kernel
theorem dL_count_0 : decode cL_count 0 = .ok (.aload_n 2, 1) := by decide +kernel
theorem dL_count_1 : decode cL_count 1 = .ok (.iconst 0, 1) := by decide +kernel
theorem dL_count_2 : decode cL_count 2 = .ok (.aload_n 0, 1) := by decide +kernel
theorem dL_count_3 : decode cL_count 3 = .ok (.iload_n 1, 1) := by decide +kernel
theorem dL_count_4 : decode cL_count 4 = .ok (.invokevirtual 36, 3) := by decide +kernel
theorem dL_count_7 : decode cL_count 7 = .ok (.i2l, 1) := by decide +kernel
theorem dL_count_8 : decode cL_count 8 = .ok (.lastore, 1) := by decide +kernel
theorem dL_count_9 : decode cL_count 9 = .ok (.goto 6, 3) := by decide +kernel
theorem dL_count_12 : decode cL_count 12 = .ok (.astore_n 3, 1) := by decide +kernel
theorem dL_count_13 : decode cL_count 13 = .ok (.iconst 1, 1) := by decide +kernel
theorem dL_count_14 : decode cL_count 14 = .ok (.ireturn, 1) := by decide +kernel
theorem dL_count_15 : decode cL_count 15 = .ok (.iconst 0, 1) := by decide +kernel
theorem dL_count_16 : decode cL_count 16 = .ok (.ireturn, 1) := by decide +kernel
theorem dL_place_0 : decode cL_place 0 = .ok (.aload_n 3, 1) := by decide +kernel
theorem dL_place_1 : decode cL_place 1 = .ok (.iconst 0, 1) := by decide +kernel
theorem dL_place_2 : decode cL_place 2 = .ok (.aload_n 0, 1) := by decide +kernel
theorem dL_place_3 : decode cL_place 3 = .ok (.iload_n 1, 1) := by decide +kernel
theorem dL_place_4 : decode cL_place 4 = .ok (.iload_n 2, 1) := by decide +kernel
theorem dL_place_5 : decode cL_place 5 = .ok (.invokevirtual 39, 3) := by decide +kernel
theorem dL_place_8 : decode cL_place 8 = .ok (.i2l, 1) := by decide +kernel
theorem dL_place_9 : decode cL_place 9 = .ok (.lastore, 1) := by decide +kernel
theorem dL_place_10 : decode cL_place 10 = .ok (.goto 7, 3) := by decide +kernel
theorem dL_place_13 : decode cL_place 13 = .ok (.astore 4, 2) := by decide +kernel
theorem dL_place_15 : decode cL_place 15 = .ok (.iconst 1, 1) := by decide +kernel
theorem dL_place_16 : decode cL_place 16 = .ok (.ireturn, 1) := by decide +kernel
theorem dL_place_17 : decode cL_place 17 = .ok (.iconst 0, 1) := by decide +kernel
theorem dL_place_18 : decode cL_place 18 = .ok (.ireturn, 1) := by decide +kernel
theorem dL_trace_0 : decode cL_trace 0 = .ok (.aload_n 3, 1) := by decide +kernel
theorem dL_trace_1 : decode cL_trace 1 = .ok (.iconst 0, 1) := by decide +kernel
theorem dL_trace_2 : decode cL_trace 2 = .ok (.aload_n 0, 1) := by decide +kernel
theorem dL_trace_3 : decode cL_trace 3 = .ok (.iload_n 1, 1) := by decide +kernel
theorem dL_trace_4 : decode cL_trace 4 = .ok (.iload_n 2, 1) := by decide +kernel
theorem dL_trace_5 : decode cL_trace 5 = .ok (.invokevirtual 42, 3) := by decide +kernel
theorem dL_trace_8 : decode cL_trace 8 = .ok (.i2l, 1) := by decide +kernel
theorem dL_trace_9 : decode cL_trace 9 = .ok (.lastore, 1) := by decide +kernel
theorem dL_trace_10 : decode cL_trace 10 = .ok (.goto 7, 3) := by decide +kernel
theorem dL_trace_13 : decode cL_trace 13 = .ok (.astore 4, 2) := by decide +kernel
theorem dL_trace_15 : decode cL_trace 15 = .ok (.iconst 1, 1) := by decide +kernel
theorem dL_trace_16 : decode cL_trace 16 = .ok (.ireturn, 1) := by decide +kernel
theorem dL_trace_17 : decode cL_trace 17 = .ok (.iconst 0, 1) := by decide +kernel
theorem dL_trace_18 : decode cL_trace 18 = .ok (.ireturn, 1) := by decide +kernel
theorem dL_law_0 : decode cL_law 0 = .ok (.new 8, 3) := by decide +kernel
theorem dL_law_3 : decode cL_law 3 = .ok (.dup, 1) := by decide +kernel
theorem dL_law_4 : decode cL_law 4 = .ok (.invokespecial 45, 3) := by decide +kernel
theorem dL_law_7 : decode cL_law 7 = .ok (.astore_n 1, 1) := by decide +kernel
theorem dL_law_8 : decode cL_law 8 = .ok (.new 46, 3) := by decide +kernel
theorem dL_law_11 : decode cL_law 11 = .ok (.dup, 1) := by decide +kernel
theorem dL_law_12 : decode cL_law 12 = .ok (.invokespecial 48, 3) := by decide +kernel
theorem dL_law_15 : decode cL_law 15 = .ok (.astore_n 2, 1) := by decide +kernel
theorem dL_law_16 : decode cL_law 16 = .ok (.iconst 1, 1) := by decide +kernel
theorem dL_law_17 : decode cL_law 17 = .ok (.newarray .long, 2) := by decide +kernel
theorem dL_law_19 : decode cL_law 19 = .ok (.astore_n 3, 1) := by decide +kernel
theorem dL_law_20 : decode cL_law 20 = .ok (.iconst 0, 1) := by decide +kernel
theorem dL_law_21 : decode cL_law 21 = .ok (.istore 4, 2) := by decide +kernel
theorem dL_law_23 : decode cL_law 23 = .ok (.iload 4, 2) := by decide +kernel
theorem dL_law_25 : decode cL_law 25 = .ok (.aload_n 0, 1) := by decide +kernel
theorem dL_law_26 : decode cL_law 26 = .ok (.arraylength, 1) := by decide +kernel
theorem dL_law_27 : decode cL_law 27 = .ok (.iconst 4, 1) := by decide +kernel
theorem dL_law_28 : decode cL_law 28 = .ok (.isub, 1) := by decide +kernel
theorem dL_law_29 : decode cL_law 29 = .ok (.if_icmp .gt 686, 3) := by decide +kernel
theorem dL_law_32 : decode cL_law 32 = .ok (.aload_n 0, 1) := by decide +kernel
theorem dL_law_33 : decode cL_law 33 = .ok (.iload 4, 2) := by decide +kernel
theorem dL_law_35 : decode cL_law 35 = .ok (.iaload, 1) := by decide +kernel
theorem dL_law_36 : decode cL_law 36 = .ok (.bipush 15, 2) := by decide +kernel
theorem dL_law_38 : decode cL_law 38 = .ok (.iand, 1) := by decide +kernel
theorem dL_law_39 : decode cL_law 39 = .ok (.tableswitch 670 0 10 #[57, 125, 228, 284, 297, 353, 409, 422, 478, 534, 602], 57) := by decide +kernel
theorem dL_law_96 : decode cL_law 96 = .ok (.aload_n 1, 1) := by decide +kernel
theorem dL_law_97 : decode cL_law 97 = .ok (.aload_n 0, 1) := by decide +kernel
theorem dL_law_98 : decode cL_law 98 = .ok (.iload 4, 2) := by decide +kernel
theorem dL_law_100 : decode cL_law 100 = .ok (.iconst 1, 1) := by decide +kernel
theorem dL_law_101 : decode cL_law 101 = .ok (.iadd, 1) := by decide +kernel
theorem dL_law_102 : decode cL_law 102 = .ok (.iaload, 1) := by decide +kernel
theorem dL_law_103 : decode cL_law 103 = .ok (.aload_n 0, 1) := by decide +kernel
theorem dL_law_104 : decode cL_law 104 = .ok (.iload 4, 2) := by decide +kernel
theorem dL_law_106 : decode cL_law 106 = .ok (.iconst 2, 1) := by decide +kernel
theorem dL_law_107 : decode cL_law 107 = .ok (.iadd, 1) := by decide +kernel
theorem dL_law_108 : decode cL_law 108 = .ok (.iaload, 1) := by decide +kernel
theorem dL_law_109 : decode cL_law 109 = .ok (.aload_n 3, 1) := by decide +kernel
theorem dL_law_110 : decode cL_law 110 = .ok (.invokestatic 49, 3) := by decide +kernel
theorem dL_law_113 : decode cL_law 113 = .ok (.istore 5, 2) := by decide +kernel
theorem dL_law_115 : decode cL_law 115 = .ok (.aload_n 2, 1) := by decide +kernel
theorem dL_law_116 : decode cL_law 116 = .ok (.aload_n 0, 1) := by decide +kernel
theorem dL_law_117 : decode cL_law 117 = .ok (.iload 4, 2) := by decide +kernel
theorem dL_law_119 : decode cL_law 119 = .ok (.iconst 1, 1) := by decide +kernel
theorem dL_law_120 : decode cL_law 120 = .ok (.iadd, 1) := by decide +kernel
theorem dL_law_121 : decode cL_law 121 = .ok (.iaload, 1) := by decide +kernel
theorem dL_law_122 : decode cL_law 122 = .ok (.aload_n 0, 1) := by decide +kernel
theorem dL_law_123 : decode cL_law 123 = .ok (.iload 4, 2) := by decide +kernel
theorem dL_law_125 : decode cL_law 125 = .ok (.iconst 2, 1) := by decide +kernel
theorem dL_law_126 : decode cL_law 126 = .ok (.iadd, 1) := by decide +kernel
theorem dL_law_127 : decode cL_law 127 = .ok (.iaload, 1) := by decide +kernel
theorem dL_law_128 : decode cL_law 128 = .ok (.invokevirtual 54, 3) := by decide +kernel
theorem dL_law_131 : decode cL_law 131 = .ok (.istore 6, 2) := by decide +kernel
theorem dL_law_133 : decode cL_law 133 = .ok (.aload_n 2, 1) := by decide +kernel
theorem dL_law_134 : decode cL_law 134 = .ok (.invokevirtual 55, 3) := by decide +kernel
theorem dL_law_137 : decode cL_law 137 = .ok (.iload 5, 2) := by decide +kernel
theorem dL_law_139 : decode cL_law 139 = .ok (.if_icmp .eq 5, 3) := by decide +kernel
theorem dL_law_142 : decode cL_law 142 = .ok (.iconst 0, 1) := by decide +kernel
theorem dL_law_143 : decode cL_law 143 = .ok (.ireturn, 1) := by decide +kernel
theorem dL_law_144 : decode cL_law 144 = .ok (.iload 5, 2) := by decide +kernel
theorem dL_law_146 : decode cL_law 146 = .ok (.ifCond .ne 15, 3) := by decide +kernel
theorem dL_law_149 : decode cL_law 149 = .ok (.aload_n 3, 1) := by decide +kernel
theorem dL_law_150 : decode cL_law 150 = .ok (.iconst 0, 1) := by decide +kernel
theorem dL_law_151 : decode cL_law 151 = .ok (.laload, 1) := by decide +kernel
theorem dL_law_152 : decode cL_law 152 = .ok (.iload 6, 2) := by decide +kernel
theorem dL_law_154 : decode cL_law 154 = .ok (.i2l, 1) := by decide +kernel
theorem dL_law_155 : decode cL_law 155 = .ok (.lcmp, 1) := by decide +kernel
theorem dL_law_156 : decode cL_law 156 = .ok (.ifCond .eq 5, 3) := by decide +kernel
theorem dL_law_159 : decode cL_law 159 = .ok (.iconst 0, 1) := by decide +kernel
theorem dL_law_160 : decode cL_law 160 = .ok (.ireturn, 1) := by decide +kernel
theorem dL_law_161 : decode cL_law 161 = .ok (.goto 548, 3) := by decide +kernel
theorem dL_law_164 : decode cL_law 164 = .ok (.aload_n 1, 1) := by decide +kernel
theorem dL_law_165 : decode cL_law 165 = .ok (.aload_n 0, 1) := by decide +kernel
theorem dL_law_166 : decode cL_law 166 = .ok (.iload 4, 2) := by decide +kernel
theorem dL_law_168 : decode cL_law 168 = .ok (.iconst 1, 1) := by decide +kernel
theorem dL_law_169 : decode cL_law 169 = .ok (.iadd, 1) := by decide +kernel
theorem dL_law_170 : decode cL_law 170 = .ok (.iaload, 1) := by decide +kernel
theorem dL_law_171 : decode cL_law 171 = .ok (.aload_n 0, 1) := by decide +kernel
theorem dL_law_172 : decode cL_law 172 = .ok (.iload 4, 2) := by decide +kernel
theorem dL_law_174 : decode cL_law 174 = .ok (.iconst 2, 1) := by decide +kernel
theorem dL_law_175 : decode cL_law 175 = .ok (.iadd, 1) := by decide +kernel
theorem dL_law_176 : decode cL_law 176 = .ok (.iaload, 1) := by decide +kernel
theorem dL_law_177 : decode cL_law 177 = .ok (.aload_n 0, 1) := by decide +kernel
theorem dL_law_178 : decode cL_law 178 = .ok (.iload 4, 2) := by decide +kernel
theorem dL_law_180 : decode cL_law 180 = .ok (.iconst 3, 1) := by decide +kernel
theorem dL_law_181 : decode cL_law 181 = .ok (.iadd, 1) := by decide +kernel
theorem dL_law_182 : decode cL_law 182 = .ok (.iaload, 1) := by decide +kernel
theorem dL_law_183 : decode cL_law 183 = .ok (.ifCond .eq 7, 3) := by decide +kernel
theorem dL_law_186 : decode cL_law 186 = .ok (.iconst 1, 1) := by decide +kernel
theorem dL_law_187 : decode cL_law 187 = .ok (.goto 4, 3) := by decide +kernel
theorem dL_law_190 : decode cL_law 190 = .ok (.iconst 0, 1) := by decide +kernel
theorem dL_law_191 : decode cL_law 191 = .ok (.aload_n 3, 1) := by decide +kernel
theorem dL_law_192 : decode cL_law 192 = .ok (.invokestatic 59, 3) := by decide +kernel
theorem dL_law_195 : decode cL_law 195 = .ok (.istore 5, 2) := by decide +kernel
theorem dL_law_197 : decode cL_law 197 = .ok (.aload_n 2, 1) := by decide +kernel
theorem dL_law_198 : decode cL_law 198 = .ok (.aload_n 0, 1) := by decide +kernel
theorem dL_law_199 : decode cL_law 199 = .ok (.iload 4, 2) := by decide +kernel
theorem dL_law_201 : decode cL_law 201 = .ok (.iconst 1, 1) := by decide +kernel
theorem dL_law_202 : decode cL_law 202 = .ok (.iadd, 1) := by decide +kernel
theorem dL_law_203 : decode cL_law 203 = .ok (.iaload, 1) := by decide +kernel
theorem dL_law_204 : decode cL_law 204 = .ok (.aload_n 0, 1) := by decide +kernel
theorem dL_law_205 : decode cL_law 205 = .ok (.iload 4, 2) := by decide +kernel
theorem dL_law_207 : decode cL_law 207 = .ok (.iconst 2, 1) := by decide +kernel
theorem dL_law_208 : decode cL_law 208 = .ok (.iadd, 1) := by decide +kernel
theorem dL_law_209 : decode cL_law 209 = .ok (.iaload, 1) := by decide +kernel
theorem dL_law_210 : decode cL_law 210 = .ok (.aload_n 0, 1) := by decide +kernel
theorem dL_law_211 : decode cL_law 211 = .ok (.iload 4, 2) := by decide +kernel
theorem dL_law_213 : decode cL_law 213 = .ok (.iconst 3, 1) := by decide +kernel
theorem dL_law_214 : decode cL_law 214 = .ok (.iadd, 1) := by decide +kernel
theorem dL_law_215 : decode cL_law 215 = .ok (.iaload, 1) := by decide +kernel
theorem dL_law_216 : decode cL_law 216 = .ok (.ifCond .eq 7, 3) := by decide +kernel
theorem dL_law_219 : decode cL_law 219 = .ok (.iconst 1, 1) := by decide +kernel
theorem dL_law_220 : decode cL_law 220 = .ok (.goto 4, 3) := by decide +kernel
theorem dL_law_223 : decode cL_law 223 = .ok (.iconst 0, 1) := by decide +kernel
theorem dL_law_224 : decode cL_law 224 = .ok (.invokevirtual 62, 3) := by decide +kernel
theorem dL_law_227 : decode cL_law 227 = .ok (.istore 6, 2) := by decide +kernel
theorem dL_law_229 : decode cL_law 229 = .ok (.aload_n 2, 1) := by decide +kernel
theorem dL_law_230 : decode cL_law 230 = .ok (.invokevirtual 55, 3) := by decide +kernel
theorem dL_law_233 : decode cL_law 233 = .ok (.iload 5, 2) := by decide +kernel
theorem dL_law_235 : decode cL_law 235 = .ok (.if_icmp .eq 5, 3) := by decide +kernel
theorem dL_law_238 : decode cL_law 238 = .ok (.iconst 0, 1) := by decide +kernel
theorem dL_law_239 : decode cL_law 239 = .ok (.ireturn, 1) := by decide +kernel
theorem dL_law_240 : decode cL_law 240 = .ok (.iload 5, 2) := by decide +kernel
theorem dL_law_242 : decode cL_law 242 = .ok (.ifCond .ne 22, 3) := by decide +kernel
theorem dL_law_245 : decode cL_law 245 = .ok (.aload_n 3, 1) := by decide +kernel
theorem dL_law_246 : decode cL_law 246 = .ok (.iconst 0, 1) := by decide +kernel
theorem dL_law_247 : decode cL_law 247 = .ok (.laload, 1) := by decide +kernel
theorem dL_law_248 : decode cL_law 248 = .ok (.iload 6, 2) := by decide +kernel
theorem dL_law_250 : decode cL_law 250 = .ok (.ifCond .eq 7, 3) := by decide +kernel
theorem dL_law_253 : decode cL_law 253 = .ok (.lconst 1, 1) := by decide +kernel
theorem dL_law_254 : decode cL_law 254 = .ok (.goto 4, 3) := by decide +kernel
theorem dL_law_257 : decode cL_law 257 = .ok (.lconst 0, 1) := by decide +kernel
theorem dL_law_258 : decode cL_law 258 = .ok (.lcmp, 1) := by decide +kernel
theorem dL_law_259 : decode cL_law 259 = .ok (.ifCond .eq 5, 3) := by decide +kernel
theorem dL_law_262 : decode cL_law 262 = .ok (.iconst 0, 1) := by decide +kernel
theorem dL_law_263 : decode cL_law 263 = .ok (.ireturn, 1) := by decide +kernel
theorem dL_law_264 : decode cL_law 264 = .ok (.goto 445, 3) := by decide +kernel
theorem dL_law_267 : decode cL_law 267 = .ok (.aload_n 1, 1) := by decide +kernel
theorem dL_law_268 : decode cL_law 268 = .ok (.aload_n 0, 1) := by decide +kernel
theorem dL_law_269 : decode cL_law 269 = .ok (.iload 4, 2) := by decide +kernel
theorem dL_law_271 : decode cL_law 271 = .ok (.iconst 1, 1) := by decide +kernel
theorem dL_law_272 : decode cL_law 272 = .ok (.iadd, 1) := by decide +kernel
theorem dL_law_273 : decode cL_law 273 = .ok (.iaload, 1) := by decide +kernel
theorem dL_law_274 : decode cL_law 274 = .ok (.aload_n 3, 1) := by decide +kernel
theorem dL_law_275 : decode cL_law 275 = .ok (.invokestatic 63, 3) := by decide +kernel
theorem dL_law_278 : decode cL_law 278 = .ok (.istore 5, 2) := by decide +kernel
theorem dL_law_280 : decode cL_law 280 = .ok (.aload_n 2, 1) := by decide +kernel
theorem dL_law_281 : decode cL_law 281 = .ok (.aload_n 0, 1) := by decide +kernel
theorem dL_law_282 : decode cL_law 282 = .ok (.iload 4, 2) := by decide +kernel
theorem dL_law_284 : decode cL_law 284 = .ok (.iconst 1, 1) := by decide +kernel
theorem dL_law_285 : decode cL_law 285 = .ok (.iadd, 1) := by decide +kernel
theorem dL_law_286 : decode cL_law 286 = .ok (.iaload, 1) := by decide +kernel
theorem dL_law_287 : decode cL_law 287 = .ok (.invokevirtual 66, 3) := by decide +kernel
theorem dL_law_290 : decode cL_law 290 = .ok (.istore 6, 2) := by decide +kernel
theorem dL_law_292 : decode cL_law 292 = .ok (.aload_n 2, 1) := by decide +kernel
theorem dL_law_293 : decode cL_law 293 = .ok (.invokevirtual 55, 3) := by decide +kernel
theorem dL_law_296 : decode cL_law 296 = .ok (.iload 5, 2) := by decide +kernel
theorem dL_law_298 : decode cL_law 298 = .ok (.if_icmp .eq 5, 3) := by decide +kernel
theorem dL_law_301 : decode cL_law 301 = .ok (.iconst 0, 1) := by decide +kernel
theorem dL_law_302 : decode cL_law 302 = .ok (.ireturn, 1) := by decide +kernel
theorem dL_law_303 : decode cL_law 303 = .ok (.iload 5, 2) := by decide +kernel
theorem dL_law_305 : decode cL_law 305 = .ok (.ifCond .ne 15, 3) := by decide +kernel
theorem dL_law_308 : decode cL_law 308 = .ok (.aload_n 3, 1) := by decide +kernel
theorem dL_law_309 : decode cL_law 309 = .ok (.iconst 0, 1) := by decide +kernel
theorem dL_law_310 : decode cL_law 310 = .ok (.laload, 1) := by decide +kernel
theorem dL_law_311 : decode cL_law 311 = .ok (.iload 6, 2) := by decide +kernel
theorem dL_law_313 : decode cL_law 313 = .ok (.i2l, 1) := by decide +kernel
theorem dL_law_314 : decode cL_law 314 = .ok (.lcmp, 1) := by decide +kernel
theorem dL_law_315 : decode cL_law 315 = .ok (.ifCond .eq 5, 3) := by decide +kernel
theorem dL_law_318 : decode cL_law 318 = .ok (.iconst 0, 1) := by decide +kernel
theorem dL_law_319 : decode cL_law 319 = .ok (.ireturn, 1) := by decide +kernel
theorem dL_law_320 : decode cL_law 320 = .ok (.goto 389, 3) := by decide +kernel
theorem dL_law_323 : decode cL_law 323 = .ok (.aload_n 1, 1) := by decide +kernel
theorem dL_law_324 : decode cL_law 324 = .ok (.invokevirtual 67, 3) := by decide +kernel
theorem dL_law_327 : decode cL_law 327 = .ok (.aload_n 2, 1) := by decide +kernel
theorem dL_law_328 : decode cL_law 328 = .ok (.invokevirtual 70, 3) := by decide +kernel
theorem dL_law_331 : decode cL_law 331 = .ok (.if_icmp .eq 378, 3) := by decide +kernel
theorem dL_law_334 : decode cL_law 334 = .ok (.iconst 0, 1) := by decide +kernel
theorem dL_law_335 : decode cL_law 335 = .ok (.ireturn, 1) := by decide +kernel
theorem dL_law_336 : decode cL_law 336 = .ok (.aload_n 1, 1) := by decide +kernel
theorem dL_law_337 : decode cL_law 337 = .ok (.aload_n 0, 1) := by decide +kernel
theorem dL_law_338 : decode cL_law 338 = .ok (.iload 4, 2) := by decide +kernel
theorem dL_law_340 : decode cL_law 340 = .ok (.iconst 1, 1) := by decide +kernel
theorem dL_law_341 : decode cL_law 341 = .ok (.iadd, 1) := by decide +kernel
theorem dL_law_342 : decode cL_law 342 = .ok (.iaload, 1) := by decide +kernel
theorem dL_law_343 : decode cL_law 343 = .ok (.aload_n 3, 1) := by decide +kernel
theorem dL_law_344 : decode cL_law 344 = .ok (.invokestatic 71, 3) := by decide +kernel
theorem dL_law_347 : decode cL_law 347 = .ok (.istore 5, 2) := by decide +kernel
theorem dL_law_349 : decode cL_law 349 = .ok (.aload_n 2, 1) := by decide +kernel
theorem dL_law_350 : decode cL_law 350 = .ok (.aload_n 0, 1) := by decide +kernel
theorem dL_law_351 : decode cL_law 351 = .ok (.iload 4, 2) := by decide +kernel
theorem dL_law_353 : decode cL_law 353 = .ok (.iconst 1, 1) := by decide +kernel
theorem dL_law_354 : decode cL_law 354 = .ok (.iadd, 1) := by decide +kernel
theorem dL_law_355 : decode cL_law 355 = .ok (.iaload, 1) := by decide +kernel
theorem dL_law_356 : decode cL_law 356 = .ok (.invokevirtual 73, 3) := by decide +kernel
theorem dL_law_359 : decode cL_law 359 = .ok (.istore 6, 2) := by decide +kernel
theorem dL_law_361 : decode cL_law 361 = .ok (.aload_n 2, 1) := by decide +kernel
theorem dL_law_362 : decode cL_law 362 = .ok (.invokevirtual 55, 3) := by decide +kernel
theorem dL_law_365 : decode cL_law 365 = .ok (.iload 5, 2) := by decide +kernel
theorem dL_law_367 : decode cL_law 367 = .ok (.if_icmp .eq 5, 3) := by decide +kernel
theorem dL_law_370 : decode cL_law 370 = .ok (.iconst 0, 1) := by decide +kernel
theorem dL_law_371 : decode cL_law 371 = .ok (.ireturn, 1) := by decide +kernel
theorem dL_law_372 : decode cL_law 372 = .ok (.iload 5, 2) := by decide +kernel
theorem dL_law_374 : decode cL_law 374 = .ok (.ifCond .ne 15, 3) := by decide +kernel
theorem dL_law_377 : decode cL_law 377 = .ok (.aload_n 3, 1) := by decide +kernel
theorem dL_law_378 : decode cL_law 378 = .ok (.iconst 0, 1) := by decide +kernel
theorem dL_law_379 : decode cL_law 379 = .ok (.laload, 1) := by decide +kernel
theorem dL_law_380 : decode cL_law 380 = .ok (.iload 6, 2) := by decide +kernel
theorem dL_law_382 : decode cL_law 382 = .ok (.i2l, 1) := by decide +kernel
theorem dL_law_383 : decode cL_law 383 = .ok (.lcmp, 1) := by decide +kernel
theorem dL_law_384 : decode cL_law 384 = .ok (.ifCond .eq 5, 3) := by decide +kernel
theorem dL_law_387 : decode cL_law 387 = .ok (.iconst 0, 1) := by decide +kernel
theorem dL_law_388 : decode cL_law 388 = .ok (.ireturn, 1) := by decide +kernel
theorem dL_law_389 : decode cL_law 389 = .ok (.goto 320, 3) := by decide +kernel
theorem dL_law_392 : decode cL_law 392 = .ok (.aload_n 1, 1) := by decide +kernel
theorem dL_law_393 : decode cL_law 393 = .ok (.aload_n 0, 1) := by decide +kernel
theorem dL_law_394 : decode cL_law 394 = .ok (.iload 4, 2) := by decide +kernel
theorem dL_law_396 : decode cL_law 396 = .ok (.iconst 1, 1) := by decide +kernel
theorem dL_law_397 : decode cL_law 397 = .ok (.iadd, 1) := by decide +kernel
theorem dL_law_398 : decode cL_law 398 = .ok (.iaload, 1) := by decide +kernel
theorem dL_law_399 : decode cL_law 399 = .ok (.aload_n 3, 1) := by decide +kernel
theorem dL_law_400 : decode cL_law 400 = .ok (.invokestatic 74, 3) := by decide +kernel
theorem dL_law_403 : decode cL_law 403 = .ok (.istore 5, 2) := by decide +kernel
theorem dL_law_405 : decode cL_law 405 = .ok (.aload_n 2, 1) := by decide +kernel
theorem dL_law_406 : decode cL_law 406 = .ok (.aload_n 0, 1) := by decide +kernel
theorem dL_law_407 : decode cL_law 407 = .ok (.iload 4, 2) := by decide +kernel
theorem dL_law_409 : decode cL_law 409 = .ok (.iconst 1, 1) := by decide +kernel
theorem dL_law_410 : decode cL_law 410 = .ok (.iadd, 1) := by decide +kernel
theorem dL_law_411 : decode cL_law 411 = .ok (.iaload, 1) := by decide +kernel
theorem dL_law_412 : decode cL_law 412 = .ok (.invokevirtual 76, 3) := by decide +kernel
theorem dL_law_415 : decode cL_law 415 = .ok (.istore 6, 2) := by decide +kernel
theorem dL_law_417 : decode cL_law 417 = .ok (.aload_n 2, 1) := by decide +kernel
theorem dL_law_418 : decode cL_law 418 = .ok (.invokevirtual 55, 3) := by decide +kernel
theorem dL_law_421 : decode cL_law 421 = .ok (.iload 5, 2) := by decide +kernel
theorem dL_law_423 : decode cL_law 423 = .ok (.if_icmp .eq 5, 3) := by decide +kernel
theorem dL_law_426 : decode cL_law 426 = .ok (.iconst 0, 1) := by decide +kernel
theorem dL_law_427 : decode cL_law 427 = .ok (.ireturn, 1) := by decide +kernel
theorem dL_law_428 : decode cL_law 428 = .ok (.iload 5, 2) := by decide +kernel
theorem dL_law_430 : decode cL_law 430 = .ok (.ifCond .ne 15, 3) := by decide +kernel
theorem dL_law_433 : decode cL_law 433 = .ok (.aload_n 3, 1) := by decide +kernel
theorem dL_law_434 : decode cL_law 434 = .ok (.iconst 0, 1) := by decide +kernel
theorem dL_law_435 : decode cL_law 435 = .ok (.laload, 1) := by decide +kernel
theorem dL_law_436 : decode cL_law 436 = .ok (.iload 6, 2) := by decide +kernel
theorem dL_law_438 : decode cL_law 438 = .ok (.i2l, 1) := by decide +kernel
theorem dL_law_439 : decode cL_law 439 = .ok (.lcmp, 1) := by decide +kernel
theorem dL_law_440 : decode cL_law 440 = .ok (.ifCond .eq 5, 3) := by decide +kernel
theorem dL_law_443 : decode cL_law 443 = .ok (.iconst 0, 1) := by decide +kernel
theorem dL_law_444 : decode cL_law 444 = .ok (.ireturn, 1) := by decide +kernel
theorem dL_law_445 : decode cL_law 445 = .ok (.goto 264, 3) := by decide +kernel
theorem dL_law_448 : decode cL_law 448 = .ok (.aload_n 1, 1) := by decide +kernel
theorem dL_law_449 : decode cL_law 449 = .ok (.invokevirtual 77, 3) := by decide +kernel
theorem dL_law_452 : decode cL_law 452 = .ok (.aload_n 2, 1) := by decide +kernel
theorem dL_law_453 : decode cL_law 453 = .ok (.invokevirtual 80, 3) := by decide +kernel
theorem dL_law_456 : decode cL_law 456 = .ok (.if_icmp .eq 253, 3) := by decide +kernel
theorem dL_law_459 : decode cL_law 459 = .ok (.iconst 0, 1) := by decide +kernel
theorem dL_law_460 : decode cL_law 460 = .ok (.ireturn, 1) := by decide +kernel
theorem dL_law_461 : decode cL_law 461 = .ok (.aload_n 1, 1) := by decide +kernel
theorem dL_law_462 : decode cL_law 462 = .ok (.aload_n 0, 1) := by decide +kernel
theorem dL_law_463 : decode cL_law 463 = .ok (.iload 4, 2) := by decide +kernel
theorem dL_law_465 : decode cL_law 465 = .ok (.iconst 1, 1) := by decide +kernel
theorem dL_law_466 : decode cL_law 466 = .ok (.iadd, 1) := by decide +kernel
theorem dL_law_467 : decode cL_law 467 = .ok (.iaload, 1) := by decide +kernel
theorem dL_law_468 : decode cL_law 468 = .ok (.aload_n 3, 1) := by decide +kernel
theorem dL_law_469 : decode cL_law 469 = .ok (.invokestatic 81, 3) := by decide +kernel
theorem dL_law_472 : decode cL_law 472 = .ok (.istore 5, 2) := by decide +kernel
theorem dL_law_474 : decode cL_law 474 = .ok (.aload_n 2, 1) := by decide +kernel
theorem dL_law_475 : decode cL_law 475 = .ok (.aload_n 0, 1) := by decide +kernel
theorem dL_law_476 : decode cL_law 476 = .ok (.iload 4, 2) := by decide +kernel
theorem dL_law_478 : decode cL_law 478 = .ok (.iconst 1, 1) := by decide +kernel
theorem dL_law_479 : decode cL_law 479 = .ok (.iadd, 1) := by decide +kernel
theorem dL_law_480 : decode cL_law 480 = .ok (.iaload, 1) := by decide +kernel
theorem dL_law_481 : decode cL_law 481 = .ok (.invokevirtual 83, 3) := by decide +kernel
theorem dL_law_484 : decode cL_law 484 = .ok (.istore 6, 2) := by decide +kernel
theorem dL_law_486 : decode cL_law 486 = .ok (.aload_n 2, 1) := by decide +kernel
theorem dL_law_487 : decode cL_law 487 = .ok (.invokevirtual 55, 3) := by decide +kernel
theorem dL_law_490 : decode cL_law 490 = .ok (.iload 5, 2) := by decide +kernel
theorem dL_law_492 : decode cL_law 492 = .ok (.if_icmp .eq 5, 3) := by decide +kernel
theorem dL_law_495 : decode cL_law 495 = .ok (.iconst 0, 1) := by decide +kernel
theorem dL_law_496 : decode cL_law 496 = .ok (.ireturn, 1) := by decide +kernel
theorem dL_law_497 : decode cL_law 497 = .ok (.iload 5, 2) := by decide +kernel
theorem dL_law_499 : decode cL_law 499 = .ok (.ifCond .ne 15, 3) := by decide +kernel
theorem dL_law_502 : decode cL_law 502 = .ok (.aload_n 3, 1) := by decide +kernel
theorem dL_law_503 : decode cL_law 503 = .ok (.iconst 0, 1) := by decide +kernel
theorem dL_law_504 : decode cL_law 504 = .ok (.laload, 1) := by decide +kernel
theorem dL_law_505 : decode cL_law 505 = .ok (.iload 6, 2) := by decide +kernel
theorem dL_law_507 : decode cL_law 507 = .ok (.i2l, 1) := by decide +kernel
theorem dL_law_508 : decode cL_law 508 = .ok (.lcmp, 1) := by decide +kernel
theorem dL_law_509 : decode cL_law 509 = .ok (.ifCond .eq 5, 3) := by decide +kernel
theorem dL_law_512 : decode cL_law 512 = .ok (.iconst 0, 1) := by decide +kernel
theorem dL_law_513 : decode cL_law 513 = .ok (.ireturn, 1) := by decide +kernel
theorem dL_law_514 : decode cL_law 514 = .ok (.goto 195, 3) := by decide +kernel
theorem dL_law_517 : decode cL_law 517 = .ok (.aload_n 1, 1) := by decide +kernel
theorem dL_law_518 : decode cL_law 518 = .ok (.aload_n 0, 1) := by decide +kernel
theorem dL_law_519 : decode cL_law 519 = .ok (.iload 4, 2) := by decide +kernel
theorem dL_law_521 : decode cL_law 521 = .ok (.iconst 1, 1) := by decide +kernel
theorem dL_law_522 : decode cL_law 522 = .ok (.iadd, 1) := by decide +kernel
theorem dL_law_523 : decode cL_law 523 = .ok (.iaload, 1) := by decide +kernel
theorem dL_law_524 : decode cL_law 524 = .ok (.aload_n 3, 1) := by decide +kernel
theorem dL_law_525 : decode cL_law 525 = .ok (.invokestatic 84, 3) := by decide +kernel
theorem dL_law_528 : decode cL_law 528 = .ok (.istore 5, 2) := by decide +kernel
theorem dL_law_530 : decode cL_law 530 = .ok (.aload_n 2, 1) := by decide +kernel
theorem dL_law_531 : decode cL_law 531 = .ok (.aload_n 0, 1) := by decide +kernel
theorem dL_law_532 : decode cL_law 532 = .ok (.iload 4, 2) := by decide +kernel
theorem dL_law_534 : decode cL_law 534 = .ok (.iconst 1, 1) := by decide +kernel
theorem dL_law_535 : decode cL_law 535 = .ok (.iadd, 1) := by decide +kernel
theorem dL_law_536 : decode cL_law 536 = .ok (.iaload, 1) := by decide +kernel
theorem dL_law_537 : decode cL_law 537 = .ok (.invokevirtual 86, 3) := by decide +kernel
theorem dL_law_540 : decode cL_law 540 = .ok (.istore 6, 2) := by decide +kernel
theorem dL_law_542 : decode cL_law 542 = .ok (.aload_n 2, 1) := by decide +kernel
theorem dL_law_543 : decode cL_law 543 = .ok (.invokevirtual 55, 3) := by decide +kernel
theorem dL_law_546 : decode cL_law 546 = .ok (.iload 5, 2) := by decide +kernel
theorem dL_law_548 : decode cL_law 548 = .ok (.if_icmp .eq 5, 3) := by decide +kernel
theorem dL_law_551 : decode cL_law 551 = .ok (.iconst 0, 1) := by decide +kernel
theorem dL_law_552 : decode cL_law 552 = .ok (.ireturn, 1) := by decide +kernel
theorem dL_law_553 : decode cL_law 553 = .ok (.iload 5, 2) := by decide +kernel
theorem dL_law_555 : decode cL_law 555 = .ok (.ifCond .ne 15, 3) := by decide +kernel
theorem dL_law_558 : decode cL_law 558 = .ok (.aload_n 3, 1) := by decide +kernel
theorem dL_law_559 : decode cL_law 559 = .ok (.iconst 0, 1) := by decide +kernel
theorem dL_law_560 : decode cL_law 560 = .ok (.laload, 1) := by decide +kernel
theorem dL_law_561 : decode cL_law 561 = .ok (.iload 6, 2) := by decide +kernel
theorem dL_law_563 : decode cL_law 563 = .ok (.i2l, 1) := by decide +kernel
theorem dL_law_564 : decode cL_law 564 = .ok (.lcmp, 1) := by decide +kernel
theorem dL_law_565 : decode cL_law 565 = .ok (.ifCond .eq 5, 3) := by decide +kernel
theorem dL_law_568 : decode cL_law 568 = .ok (.iconst 0, 1) := by decide +kernel
theorem dL_law_569 : decode cL_law 569 = .ok (.ireturn, 1) := by decide +kernel
theorem dL_law_570 : decode cL_law 570 = .ok (.goto 139, 3) := by decide +kernel
theorem dL_law_573 : decode cL_law 573 = .ok (.aload_n 1, 1) := by decide +kernel
theorem dL_law_574 : decode cL_law 574 = .ok (.aload_n 0, 1) := by decide +kernel
theorem dL_law_575 : decode cL_law 575 = .ok (.iload 4, 2) := by decide +kernel
theorem dL_law_577 : decode cL_law 577 = .ok (.iconst 1, 1) := by decide +kernel
theorem dL_law_578 : decode cL_law 578 = .ok (.iadd, 1) := by decide +kernel
theorem dL_law_579 : decode cL_law 579 = .ok (.iaload, 1) := by decide +kernel
theorem dL_law_580 : decode cL_law 580 = .ok (.aload_n 0, 1) := by decide +kernel
theorem dL_law_581 : decode cL_law 581 = .ok (.iload 4, 2) := by decide +kernel
theorem dL_law_583 : decode cL_law 583 = .ok (.iconst 2, 1) := by decide +kernel
theorem dL_law_584 : decode cL_law 584 = .ok (.iadd, 1) := by decide +kernel
theorem dL_law_585 : decode cL_law 585 = .ok (.iaload, 1) := by decide +kernel
theorem dL_law_586 : decode cL_law 586 = .ok (.aload_n 3, 1) := by decide +kernel
theorem dL_law_587 : decode cL_law 587 = .ok (.invokestatic 87, 3) := by decide +kernel
theorem dL_law_590 : decode cL_law 590 = .ok (.istore 5, 2) := by decide +kernel
theorem dL_law_592 : decode cL_law 592 = .ok (.aload_n 2, 1) := by decide +kernel
theorem dL_law_593 : decode cL_law 593 = .ok (.aload_n 0, 1) := by decide +kernel
theorem dL_law_594 : decode cL_law 594 = .ok (.iload 4, 2) := by decide +kernel
theorem dL_law_596 : decode cL_law 596 = .ok (.iconst 1, 1) := by decide +kernel
theorem dL_law_597 : decode cL_law 597 = .ok (.iadd, 1) := by decide +kernel
theorem dL_law_598 : decode cL_law 598 = .ok (.iaload, 1) := by decide +kernel
theorem dL_law_599 : decode cL_law 599 = .ok (.aload_n 0, 1) := by decide +kernel
theorem dL_law_600 : decode cL_law 600 = .ok (.iload 4, 2) := by decide +kernel
theorem dL_law_602 : decode cL_law 602 = .ok (.iconst 2, 1) := by decide +kernel
theorem dL_law_603 : decode cL_law 603 = .ok (.iadd, 1) := by decide +kernel
theorem dL_law_604 : decode cL_law 604 = .ok (.iaload, 1) := by decide +kernel
theorem dL_law_605 : decode cL_law 605 = .ok (.invokevirtual 89, 3) := by decide +kernel
theorem dL_law_608 : decode cL_law 608 = .ok (.istore 6, 2) := by decide +kernel
theorem dL_law_610 : decode cL_law 610 = .ok (.aload_n 2, 1) := by decide +kernel
theorem dL_law_611 : decode cL_law 611 = .ok (.invokevirtual 55, 3) := by decide +kernel
theorem dL_law_614 : decode cL_law 614 = .ok (.iload 5, 2) := by decide +kernel
theorem dL_law_616 : decode cL_law 616 = .ok (.if_icmp .eq 5, 3) := by decide +kernel
theorem dL_law_619 : decode cL_law 619 = .ok (.iconst 0, 1) := by decide +kernel
theorem dL_law_620 : decode cL_law 620 = .ok (.ireturn, 1) := by decide +kernel
theorem dL_law_621 : decode cL_law 621 = .ok (.iload 5, 2) := by decide +kernel
theorem dL_law_623 : decode cL_law 623 = .ok (.ifCond .ne 15, 3) := by decide +kernel
theorem dL_law_626 : decode cL_law 626 = .ok (.aload_n 3, 1) := by decide +kernel
theorem dL_law_627 : decode cL_law 627 = .ok (.iconst 0, 1) := by decide +kernel
theorem dL_law_628 : decode cL_law 628 = .ok (.laload, 1) := by decide +kernel
theorem dL_law_629 : decode cL_law 629 = .ok (.iload 6, 2) := by decide +kernel
theorem dL_law_631 : decode cL_law 631 = .ok (.i2l, 1) := by decide +kernel
theorem dL_law_632 : decode cL_law 632 = .ok (.lcmp, 1) := by decide +kernel
theorem dL_law_633 : decode cL_law 633 = .ok (.ifCond .eq 5, 3) := by decide +kernel
theorem dL_law_636 : decode cL_law 636 = .ok (.iconst 0, 1) := by decide +kernel
theorem dL_law_637 : decode cL_law 637 = .ok (.ireturn, 1) := by decide +kernel
theorem dL_law_638 : decode cL_law 638 = .ok (.goto 71, 3) := by decide +kernel
theorem dL_law_641 : decode cL_law 641 = .ok (.aload_n 1, 1) := by decide +kernel
theorem dL_law_642 : decode cL_law 642 = .ok (.aload_n 0, 1) := by decide +kernel
theorem dL_law_643 : decode cL_law 643 = .ok (.iload 4, 2) := by decide +kernel
theorem dL_law_645 : decode cL_law 645 = .ok (.iconst 1, 1) := by decide +kernel
theorem dL_law_646 : decode cL_law 646 = .ok (.iadd, 1) := by decide +kernel
theorem dL_law_647 : decode cL_law 647 = .ok (.iaload, 1) := by decide +kernel
theorem dL_law_648 : decode cL_law 648 = .ok (.aload_n 0, 1) := by decide +kernel
theorem dL_law_649 : decode cL_law 649 = .ok (.iload 4, 2) := by decide +kernel
theorem dL_law_651 : decode cL_law 651 = .ok (.iconst 2, 1) := by decide +kernel
theorem dL_law_652 : decode cL_law 652 = .ok (.iadd, 1) := by decide +kernel
theorem dL_law_653 : decode cL_law 653 = .ok (.iaload, 1) := by decide +kernel
theorem dL_law_654 : decode cL_law 654 = .ok (.aload_n 3, 1) := by decide +kernel
theorem dL_law_655 : decode cL_law 655 = .ok (.invokestatic 90, 3) := by decide +kernel
theorem dL_law_658 : decode cL_law 658 = .ok (.istore 5, 2) := by decide +kernel
theorem dL_law_660 : decode cL_law 660 = .ok (.aload_n 2, 1) := by decide +kernel
theorem dL_law_661 : decode cL_law 661 = .ok (.aload_n 0, 1) := by decide +kernel
theorem dL_law_662 : decode cL_law 662 = .ok (.iload 4, 2) := by decide +kernel
theorem dL_law_664 : decode cL_law 664 = .ok (.iconst 1, 1) := by decide +kernel
theorem dL_law_665 : decode cL_law 665 = .ok (.iadd, 1) := by decide +kernel
theorem dL_law_666 : decode cL_law 666 = .ok (.iaload, 1) := by decide +kernel
theorem dL_law_667 : decode cL_law 667 = .ok (.aload_n 0, 1) := by decide +kernel
theorem dL_law_668 : decode cL_law 668 = .ok (.iload 4, 2) := by decide +kernel
theorem dL_law_670 : decode cL_law 670 = .ok (.iconst 2, 1) := by decide +kernel
theorem dL_law_671 : decode cL_law 671 = .ok (.iadd, 1) := by decide +kernel
theorem dL_law_672 : decode cL_law 672 = .ok (.iaload, 1) := by decide +kernel
theorem dL_law_673 : decode cL_law 673 = .ok (.invokevirtual 92, 3) := by decide +kernel
theorem dL_law_676 : decode cL_law 676 = .ok (.istore 6, 2) := by decide +kernel
theorem dL_law_678 : decode cL_law 678 = .ok (.aload_n 2, 1) := by decide +kernel
theorem dL_law_679 : decode cL_law 679 = .ok (.invokevirtual 55, 3) := by decide +kernel
theorem dL_law_682 : decode cL_law 682 = .ok (.iload 5, 2) := by decide +kernel
theorem dL_law_684 : decode cL_law 684 = .ok (.if_icmp .eq 5, 3) := by decide +kernel
theorem dL_law_687 : decode cL_law 687 = .ok (.iconst 0, 1) := by decide +kernel
theorem dL_law_688 : decode cL_law 688 = .ok (.ireturn, 1) := by decide +kernel
theorem dL_law_689 : decode cL_law 689 = .ok (.iload 5, 2) := by decide +kernel
theorem dL_law_691 : decode cL_law 691 = .ok (.ifCond .ne 15, 3) := by decide +kernel
theorem dL_law_694 : decode cL_law 694 = .ok (.aload_n 3, 1) := by decide +kernel
theorem dL_law_695 : decode cL_law 695 = .ok (.iconst 0, 1) := by decide +kernel
theorem dL_law_696 : decode cL_law 696 = .ok (.laload, 1) := by decide +kernel
theorem dL_law_697 : decode cL_law 697 = .ok (.iload 6, 2) := by decide +kernel
theorem dL_law_699 : decode cL_law 699 = .ok (.i2l, 1) := by decide +kernel
theorem dL_law_700 : decode cL_law 700 = .ok (.lcmp, 1) := by decide +kernel
theorem dL_law_701 : decode cL_law 701 = .ok (.ifCond .eq 5, 3) := by decide +kernel
theorem dL_law_704 : decode cL_law 704 = .ok (.iconst 0, 1) := by decide +kernel
theorem dL_law_705 : decode cL_law 705 = .ok (.ireturn, 1) := by decide +kernel
theorem dL_law_706 : decode cL_law 706 = .ok (.goto 3, 3) := by decide +kernel
theorem dL_law_709 : decode cL_law 709 = .ok (.iinc 4 4, 3) := by decide +kernel
theorem dL_law_712 : decode cL_law 712 = .ok (.goto (-689), 3) := by decide +kernel
theorem dL_law_715 : decode cL_law 715 = .ok (.iconst 1, 1) := by decide +kernel
theorem dL_law_716 : decode cL_law 716 = .ok (.ireturn, 1) := by decide +kernel
