theorem dL_refuses_0 : decode cL_refuses 0 = .ok (.iload_n 1, 1) := by decide +kernel
theorem dL_refuses_1 : decode cL_refuses 1 = .ok (.iconst 2, 1) := by decide +kernel
theorem dL_refuses_2 : decode cL_refuses 2 = .ok (.irem, 1) := by decide +kernel
theorem dL_refuses_3 : decode cL_refuses 3 = .ok (.ifCond .ne 7, 3) := by decide +kernel
theorem dL_refuses_6 : decode cL_refuses 6 = .ok (.iconst 1, 1) := by decide +kernel
theorem dL_refuses_7 : decode cL_refuses 7 = .ok (.goto 4, 3) := by decide +kernel
theorem dL_refuses_10 : decode cL_refuses 10 = .ok (.iconst 0, 1) := by decide +kernel
theorem dL_refuses_11 : decode cL_refuses 11 = .ok (.istore_n 2, 1) := by decide +kernel
theorem dL_refuses_12 : decode cL_refuses 12 = .ok (.iload_n 2, 1) := by decide +kernel
theorem dL_refuses_13 : decode cL_refuses 13 = .ok (.ifCond .eq 12, 3) := by decide +kernel
theorem dL_refuses_16 : decode cL_refuses 16 = .ok (.iconst (-1), 1) := by decide +kernel
theorem dL_refuses_17 : decode cL_refuses 17 = .ok (.iload_n 1, 1) := by decide +kernel
theorem dL_refuses_18 : decode cL_refuses 18 = .ok (.bipush 50, 2) := by decide +kernel
theorem dL_refuses_20 : decode cL_refuses 20 = .ok (.irem, 1) := by decide +kernel
theorem dL_refuses_21 : decode cL_refuses 21 = .ok (.isub, 1) := by decide +kernel
theorem dL_refuses_22 : decode cL_refuses 22 = .ok (.goto 9, 3) := by decide +kernel
theorem dL_refuses_25 : decode cL_refuses 25 = .ok (.iconst 5, 1) := by decide +kernel
theorem dL_refuses_26 : decode cL_refuses 26 = .ok (.iload_n 1, 1) := by decide +kernel
theorem dL_refuses_27 : decode cL_refuses 27 = .ok (.bipush 50, 2) := by decide +kernel
theorem dL_refuses_29 : decode cL_refuses 29 = .ok (.irem, 1) := by decide +kernel
theorem dL_refuses_30 : decode cL_refuses 30 = .ok (.iadd, 1) := by decide +kernel
theorem dL_refuses_31 : decode cL_refuses 31 = .ok (.istore_n 3, 1) := by decide +kernel
theorem dL_refuses_32 : decode cL_refuses 32 = .ok (.iload_n 2, 1) := by decide +kernel
theorem dL_refuses_33 : decode cL_refuses 33 = .ok (.ifCond .eq 12, 3) := by decide +kernel
theorem dL_refuses_36 : decode cL_refuses 36 = .ok (.iconst (-1), 1) := by decide +kernel
theorem dL_refuses_37 : decode cL_refuses 37 = .ok (.iload_n 1, 1) := by decide +kernel
theorem dL_refuses_38 : decode cL_refuses 38 = .ok (.bipush 50, 2) := by decide +kernel
theorem dL_refuses_40 : decode cL_refuses 40 = .ok (.irem, 1) := by decide +kernel
theorem dL_refuses_41 : decode cL_refuses 41 = .ok (.isub, 1) := by decide +kernel
theorem dL_refuses_42 : decode cL_refuses 42 = .ok (.goto 10, 3) := by decide +kernel
theorem dL_refuses_45 : decode cL_refuses 45 = .ok (.bipush 12, 2) := by decide +kernel
theorem dL_refuses_47 : decode cL_refuses 47 = .ok (.iload_n 1, 1) := by decide +kernel
theorem dL_refuses_48 : decode cL_refuses 48 = .ok (.bipush 50, 2) := by decide +kernel
theorem dL_refuses_50 : decode cL_refuses 50 = .ok (.irem, 1) := by decide +kernel
theorem dL_refuses_51 : decode cL_refuses 51 = .ok (.iadd, 1) := by decide +kernel
theorem dL_refuses_52 : decode cL_refuses 52 = .ok (.istore 4, 2) := by decide +kernel
theorem dL_refuses_54 : decode cL_refuses 54 = .ok (.iload_n 2, 1) := by decide +kernel
theorem dL_refuses_55 : decode cL_refuses 55 = .ok (.ifCond .eq 12, 3) := by decide +kernel
theorem dL_refuses_58 : decode cL_refuses 58 = .ok (.iconst (-1), 1) := by decide +kernel
theorem dL_refuses_59 : decode cL_refuses 59 = .ok (.iload_n 1, 1) := by decide +kernel
theorem dL_refuses_60 : decode cL_refuses 60 = .ok (.bipush 50, 2) := by decide +kernel
theorem dL_refuses_62 : decode cL_refuses 62 = .ok (.irem, 1) := by decide +kernel
theorem dL_refuses_63 : decode cL_refuses 63 = .ok (.isub, 1) := by decide +kernel
theorem dL_refuses_64 : decode cL_refuses 64 = .ok (.goto 10, 3) := by decide +kernel
theorem dL_refuses_67 : decode cL_refuses 67 = .ok (.bipush 6, 2) := by decide +kernel
theorem dL_refuses_69 : decode cL_refuses 69 = .ok (.iload_n 1, 1) := by decide +kernel
theorem dL_refuses_70 : decode cL_refuses 70 = .ok (.bipush 50, 2) := by decide +kernel
theorem dL_refuses_72 : decode cL_refuses 72 = .ok (.irem, 1) := by decide +kernel
theorem dL_refuses_73 : decode cL_refuses 73 = .ok (.iadd, 1) := by decide +kernel
theorem dL_refuses_74 : decode cL_refuses 74 = .ok (.istore 5, 2) := by decide +kernel
theorem dL_refuses_76 : decode cL_refuses 76 = .ok (.iload_n 2, 1) := by decide +kernel
theorem dL_refuses_77 : decode cL_refuses 77 = .ok (.ifCond .eq 12, 3) := by decide +kernel
theorem dL_refuses_80 : decode cL_refuses 80 = .ok (.iconst (-1), 1) := by decide +kernel
theorem dL_refuses_81 : decode cL_refuses 81 = .ok (.iload_n 1, 1) := by decide +kernel
theorem dL_refuses_82 : decode cL_refuses 82 = .ok (.bipush 50, 2) := by decide +kernel
theorem dL_refuses_84 : decode cL_refuses 84 = .ok (.irem, 1) := by decide +kernel
theorem dL_refuses_85 : decode cL_refuses 85 = .ok (.isub, 1) := by decide +kernel
theorem dL_refuses_86 : decode cL_refuses 86 = .ok (.goto 12, 3) := by decide +kernel
theorem dL_refuses_89 : decode cL_refuses 89 = .ok (.aload_n 0, 1) := by decide +kernel
theorem dL_refuses_90 : decode cL_refuses 90 = .ok (.invokevirtual 126, 3) := by decide +kernel
theorem dL_refuses_93 : decode cL_refuses 93 = .ok (.iload_n 1, 1) := by decide +kernel
theorem dL_refuses_94 : decode cL_refuses 94 = .ok (.bipush 50, 2) := by decide +kernel
theorem dL_refuses_96 : decode cL_refuses 96 = .ok (.irem, 1) := by decide +kernel
theorem dL_refuses_97 : decode cL_refuses 97 = .ok (.iadd, 1) := by decide +kernel
theorem dL_refuses_98 : decode cL_refuses 98 = .ok (.istore 6, 2) := by decide +kernel
theorem dL_refuses_100 : decode cL_refuses 100 = .ok (.iload_n 1, 1) := by decide +kernel
theorem dL_refuses_101 : decode cL_refuses 101 = .ok (.iconst 2, 1) := by decide +kernel
theorem dL_refuses_102 : decode cL_refuses 102 = .ok (.idiv, 1) := by decide +kernel
theorem dL_refuses_103 : decode cL_refuses 103 = .ok (.bipush 12, 2) := by decide +kernel
theorem dL_refuses_105 : decode cL_refuses 105 = .ok (.irem, 1) := by decide +kernel
theorem dL_refuses_106 : decode cL_refuses 106 = .ok (.istore 7, 2) := by decide +kernel
theorem dL_refuses_108 : decode cL_refuses 108 = .ok (.iload_n 1, 1) := by decide +kernel
theorem dL_refuses_109 : decode cL_refuses 109 = .ok (.iconst 2, 1) := by decide +kernel
theorem dL_refuses_110 : decode cL_refuses 110 = .ok (.idiv, 1) := by decide +kernel
theorem dL_refuses_111 : decode cL_refuses 111 = .ok (.iconst 5, 1) := by decide +kernel
theorem dL_refuses_112 : decode cL_refuses 112 = .ok (.irem, 1) := by decide +kernel
theorem dL_refuses_113 : decode cL_refuses 113 = .ok (.istore 8, 2) := by decide +kernel
theorem dL_refuses_115 : decode cL_refuses 115 = .ok (.aload_n 0, 1) := by decide +kernel
theorem dL_refuses_116 : decode cL_refuses 116 = .ok (.iload_n 3, 1) := by decide +kernel
theorem dL_refuses_117 : decode cL_refuses 117 = .ok (.bipush 99, 2) := by decide +kernel
theorem dL_refuses_119 : decode cL_refuses 119 = .ok (.iconst 0, 1) := by decide +kernel
theorem dL_refuses_120 : decode cL_refuses 120 = .ok (.invokestatic 130, 3) := by decide +kernel
theorem dL_refuses_123 : decode cL_refuses 123 = .ok (.ldc 15, 2) := by decide +kernel
theorem dL_refuses_125 : decode cL_refuses 125 = .ok (.if_icmp .ne 544, 3) := by decide +kernel
theorem dL_refuses_128 : decode cL_refuses 128 = .ok (.aload_n 0, 1) := by decide +kernel
theorem dL_refuses_129 : decode cL_refuses 129 = .ok (.iload 8, 2) := by decide +kernel
theorem dL_refuses_131 : decode cL_refuses 131 = .ok (.bipush 10, 2) := by decide +kernel
theorem dL_refuses_133 : decode cL_refuses 133 = .ok (.iload_n 1, 1) := by decide +kernel
theorem dL_refuses_134 : decode cL_refuses 134 = .ok (.iadd, 1) := by decide +kernel
theorem dL_refuses_135 : decode cL_refuses 135 = .ok (.iconst 0, 1) := by decide +kernel
theorem dL_refuses_136 : decode cL_refuses 136 = .ok (.invokestatic 130, 3) := by decide +kernel
theorem dL_refuses_139 : decode cL_refuses 139 = .ok (.ldc 18, 2) := by decide +kernel
theorem dL_refuses_141 : decode cL_refuses 141 = .ok (.if_icmp .ne 528, 3) := by decide +kernel
theorem dL_refuses_144 : decode cL_refuses 144 = .ok (.aload_n 0, 1) := by decide +kernel
theorem dL_refuses_145 : decode cL_refuses 145 = .ok (.iload 8, 2) := by decide +kernel
theorem dL_refuses_147 : decode cL_refuses 147 = .ok (.iconst 0, 1) := by decide +kernel
theorem dL_refuses_148 : decode cL_refuses 148 = .ok (.iconst (-1), 1) := by decide +kernel
theorem dL_refuses_149 : decode cL_refuses 149 = .ok (.iload_n 1, 1) := by decide +kernel
theorem dL_refuses_150 : decode cL_refuses 150 = .ok (.isub, 1) := by decide +kernel
theorem dL_refuses_151 : decode cL_refuses 151 = .ok (.invokestatic 130, 3) := by decide +kernel
theorem dL_refuses_154 : decode cL_refuses 154 = .ok (.ldc 18, 2) := by decide +kernel
theorem dL_refuses_156 : decode cL_refuses 156 = .ok (.if_icmp .ne 513, 3) := by decide +kernel
theorem dL_refuses_159 : decode cL_refuses 159 = .ok (.aload_n 0, 1) := by decide +kernel
theorem dL_refuses_160 : decode cL_refuses 160 = .ok (.iload_n 3, 1) := by decide +kernel
theorem dL_refuses_161 : decode cL_refuses 161 = .ok (.iconst (-1), 1) := by decide +kernel
theorem dL_refuses_162 : decode cL_refuses 162 = .ok (.invokestatic 136, 3) := by decide +kernel
theorem dL_refuses_165 : decode cL_refuses 165 = .ok (.ldc 15, 2) := by decide +kernel
theorem dL_refuses_167 : decode cL_refuses 167 = .ok (.if_icmp .ne 502, 3) := by decide +kernel
theorem dL_refuses_170 : decode cL_refuses 170 = .ok (.aload_n 0, 1) := by decide +kernel
theorem dL_refuses_171 : decode cL_refuses 171 = .ok (.iload 8, 2) := by decide +kernel
theorem dL_refuses_173 : decode cL_refuses 173 = .ok (.sipush 5001, 3) := by decide +kernel
theorem dL_refuses_176 : decode cL_refuses 176 = .ok (.iload_n 1, 1) := by decide +kernel
theorem dL_refuses_177 : decode cL_refuses 177 = .ok (.iadd, 1) := by decide +kernel
theorem dL_refuses_178 : decode cL_refuses 178 = .ok (.invokestatic 136, 3) := by decide +kernel
theorem dL_refuses_181 : decode cL_refuses 181 = .ok (.ldc 18, 2) := by decide +kernel
theorem dL_refuses_183 : decode cL_refuses 183 = .ok (.if_icmp .ne 486, 3) := by decide +kernel
theorem dL_refuses_186 : decode cL_refuses 186 = .ok (.aload_n 0, 1) := by decide +kernel
theorem dL_refuses_187 : decode cL_refuses 187 = .ok (.iload 8, 2) := by decide +kernel
theorem dL_refuses_189 : decode cL_refuses 189 = .ok (.iconst (-1), 1) := by decide +kernel
theorem dL_refuses_190 : decode cL_refuses 190 = .ok (.iload_n 1, 1) := by decide +kernel
theorem dL_refuses_191 : decode cL_refuses 191 = .ok (.isub, 1) := by decide +kernel
theorem dL_refuses_192 : decode cL_refuses 192 = .ok (.invokestatic 136, 3) := by decide +kernel
theorem dL_refuses_195 : decode cL_refuses 195 = .ok (.ldc 18, 2) := by decide +kernel
theorem dL_refuses_197 : decode cL_refuses 197 = .ok (.if_icmp .ne 472, 3) := by decide +kernel
theorem dL_refuses_200 : decode cL_refuses 200 = .ok (.aload_n 0, 1) := by decide +kernel
theorem dL_refuses_201 : decode cL_refuses 201 = .ok (.iload_n 3, 1) := by decide +kernel
theorem dL_refuses_202 : decode cL_refuses 202 = .ok (.iload 8, 2) := by decide +kernel
theorem dL_refuses_204 : decode cL_refuses 204 = .ok (.bipush 9, 2) := by decide +kernel
theorem dL_refuses_206 : decode cL_refuses 206 = .ok (.invokestatic 140, 3) := by decide +kernel
theorem dL_refuses_209 : decode cL_refuses 209 = .ok (.ldc 15, 2) := by decide +kernel
theorem dL_refuses_211 : decode cL_refuses 211 = .ok (.if_icmp .ne 458, 3) := by decide +kernel
theorem dL_refuses_214 : decode cL_refuses 214 = .ok (.aload_n 0, 1) := by decide +kernel
theorem dL_refuses_215 : decode cL_refuses 215 = .ok (.iload 8, 2) := by decide +kernel
theorem dL_refuses_217 : decode cL_refuses 217 = .ok (.iload_n 3, 1) := by decide +kernel
theorem dL_refuses_218 : decode cL_refuses 218 = .ok (.bipush 9, 2) := by decide +kernel
theorem dL_refuses_220 : decode cL_refuses 220 = .ok (.invokestatic 140, 3) := by decide +kernel
theorem dL_refuses_223 : decode cL_refuses 223 = .ok (.ldc 15, 2) := by decide +kernel
theorem dL_refuses_225 : decode cL_refuses 225 = .ok (.if_icmp .ne 444, 3) := by decide +kernel
theorem dL_refuses_228 : decode cL_refuses 228 = .ok (.aload_n 0, 1) := by decide +kernel
theorem dL_refuses_229 : decode cL_refuses 229 = .ok (.iload 8, 2) := by decide +kernel
theorem dL_refuses_231 : decode cL_refuses 231 = .ok (.iload 8, 2) := by decide +kernel
theorem dL_refuses_233 : decode cL_refuses 233 = .ok (.iconst 2, 1) := by decide +kernel
theorem dL_refuses_234 : decode cL_refuses 234 = .ok (.invokestatic 140, 3) := by decide +kernel
theorem dL_refuses_237 : decode cL_refuses 237 = .ok (.ldc 18, 2) := by decide +kernel
theorem dL_refuses_239 : decode cL_refuses 239 = .ok (.if_icmp .ne 430, 3) := by decide +kernel
theorem dL_refuses_242 : decode cL_refuses 242 = .ok (.aload_n 0, 1) := by decide +kernel
theorem dL_refuses_243 : decode cL_refuses 243 = .ok (.iload 8, 2) := by decide +kernel
theorem dL_refuses_245 : decode cL_refuses 245 = .ok (.iload 8, 2) := by decide +kernel
theorem dL_refuses_247 : decode cL_refuses 247 = .ok (.iconst 1, 1) := by decide +kernel
theorem dL_refuses_248 : decode cL_refuses 248 = .ok (.iadd, 1) := by decide +kernel
theorem dL_refuses_249 : decode cL_refuses 249 = .ok (.iconst 5, 1) := by decide +kernel
theorem dL_refuses_250 : decode cL_refuses 250 = .ok (.irem, 1) := by decide +kernel
theorem dL_refuses_251 : decode cL_refuses 251 = .ok (.bipush 6, 2) := by decide +kernel
theorem dL_refuses_253 : decode cL_refuses 253 = .ok (.iload_n 1, 1) := by decide +kernel
theorem dL_refuses_254 : decode cL_refuses 254 = .ok (.iadd, 1) := by decide +kernel
theorem dL_refuses_255 : decode cL_refuses 255 = .ok (.invokestatic 140, 3) := by decide +kernel
theorem dL_refuses_258 : decode cL_refuses 258 = .ok (.ldc 18, 2) := by decide +kernel
theorem dL_refuses_260 : decode cL_refuses 260 = .ok (.if_icmp .ne 409, 3) := by decide +kernel
theorem dL_refuses_263 : decode cL_refuses 263 = .ok (.aload_n 0, 1) := by decide +kernel
theorem dL_refuses_264 : decode cL_refuses 264 = .ok (.iload 8, 2) := by decide +kernel
theorem dL_refuses_266 : decode cL_refuses 266 = .ok (.iload 8, 2) := by decide +kernel
theorem dL_refuses_268 : decode cL_refuses 268 = .ok (.iconst 1, 1) := by decide +kernel
theorem dL_refuses_269 : decode cL_refuses 269 = .ok (.iadd, 1) := by decide +kernel
theorem dL_refuses_270 : decode cL_refuses 270 = .ok (.iconst 5, 1) := by decide +kernel
theorem dL_refuses_271 : decode cL_refuses 271 = .ok (.irem, 1) := by decide +kernel
theorem dL_refuses_272 : decode cL_refuses 272 = .ok (.iconst (-1), 1) := by decide +kernel
theorem dL_refuses_273 : decode cL_refuses 273 = .ok (.iload_n 1, 1) := by decide +kernel
theorem dL_refuses_274 : decode cL_refuses 274 = .ok (.isub, 1) := by decide +kernel
theorem dL_refuses_275 : decode cL_refuses 275 = .ok (.invokestatic 140, 3) := by decide +kernel
theorem dL_refuses_278 : decode cL_refuses 278 = .ok (.ldc 18, 2) := by decide +kernel
theorem dL_refuses_280 : decode cL_refuses 280 = .ok (.if_icmp .ne 389, 3) := by decide +kernel
theorem dL_refuses_283 : decode cL_refuses 283 = .ok (.aload_n 0, 1) := by decide +kernel
theorem dL_refuses_284 : decode cL_refuses 284 = .ok (.iload 4, 2) := by decide +kernel
theorem dL_refuses_286 : decode cL_refuses 286 = .ok (.iload 8, 2) := by decide +kernel
theorem dL_refuses_288 : decode cL_refuses 288 = .ok (.invokestatic 143, 3) := by decide +kernel
theorem dL_refuses_291 : decode cL_refuses 291 = .ok (.ldc 15, 2) := by decide +kernel
theorem dL_refuses_293 : decode cL_refuses 293 = .ok (.if_icmp .ne 376, 3) := by decide +kernel
theorem dL_refuses_296 : decode cL_refuses 296 = .ok (.aload_n 0, 1) := by decide +kernel
theorem dL_refuses_297 : decode cL_refuses 297 = .ok (.iload 7, 2) := by decide +kernel
theorem dL_refuses_299 : decode cL_refuses 299 = .ok (.iload_n 3, 1) := by decide +kernel
theorem dL_refuses_300 : decode cL_refuses 300 = .ok (.invokestatic 143, 3) := by decide +kernel
theorem dL_refuses_303 : decode cL_refuses 303 = .ok (.ldc 15, 2) := by decide +kernel
theorem dL_refuses_305 : decode cL_refuses 305 = .ok (.if_icmp .ne 364, 3) := by decide +kernel
theorem dL_refuses_308 : decode cL_refuses 308 = .ok (.aload_n 0, 1) := by decide +kernel
theorem dL_refuses_309 : decode cL_refuses 309 = .ok (.iload 7, 2) := by decide +kernel
theorem dL_refuses_311 : decode cL_refuses 311 = .ok (.aload_n 0, 1) := by decide +kernel
theorem dL_refuses_312 : decode cL_refuses 312 = .ok (.iload 7, 2) := by decide +kernel
theorem dL_refuses_314 : decode cL_refuses 314 = .ok (.invokestatic 146, 3) := by decide +kernel
theorem dL_refuses_317 : decode cL_refuses 317 = .ok (.invokestatic 143, 3) := by decide +kernel
theorem dL_refuses_320 : decode cL_refuses 320 = .ok (.ldc 21, 2) := by decide +kernel
theorem dL_refuses_322 : decode cL_refuses 322 = .ok (.if_icmp .ne 347, 3) := by decide +kernel
theorem dL_refuses_325 : decode cL_refuses 325 = .ok (.aload_n 0, 1) := by decide +kernel
theorem dL_refuses_326 : decode cL_refuses 326 = .ok (.iload 4, 2) := by decide +kernel
theorem dL_refuses_328 : decode cL_refuses 328 = .ok (.iconst 0, 1) := by decide +kernel
theorem dL_refuses_329 : decode cL_refuses 329 = .ok (.invokestatic 150, 3) := by decide +kernel
theorem dL_refuses_332 : decode cL_refuses 332 = .ok (.ldc 15, 2) := by decide +kernel
theorem dL_refuses_334 : decode cL_refuses 334 = .ok (.if_icmp .ne 335, 3) := by decide +kernel
theorem dL_refuses_337 : decode cL_refuses 337 = .ok (.aload_n 0, 1) := by decide +kernel
theorem dL_refuses_338 : decode cL_refuses 338 = .ok (.iload 7, 2) := by decide +kernel
theorem dL_refuses_340 : decode cL_refuses 340 = .ok (.iload 5, 2) := by decide +kernel
theorem dL_refuses_342 : decode cL_refuses 342 = .ok (.invokestatic 150, 3) := by decide +kernel
theorem dL_refuses_345 : decode cL_refuses 345 = .ok (.ldc 15, 2) := by decide +kernel
theorem dL_refuses_347 : decode cL_refuses 347 = .ok (.if_icmp .ne 322, 3) := by decide +kernel
theorem dL_refuses_350 : decode cL_refuses 350 = .ok (.aload_n 0, 1) := by decide +kernel
theorem dL_refuses_351 : decode cL_refuses 351 = .ok (.iload 7, 2) := by decide +kernel
theorem dL_refuses_353 : decode cL_refuses 353 = .ok (.aload_n 0, 1) := by decide +kernel
theorem dL_refuses_354 : decode cL_refuses 354 = .ok (.iload 7, 2) := by decide +kernel
theorem dL_refuses_356 : decode cL_refuses 356 = .ok (.invokestatic 153, 3) := by decide +kernel
theorem dL_refuses_359 : decode cL_refuses 359 = .ok (.invokestatic 150, 3) := by decide +kernel
theorem dL_refuses_362 : decode cL_refuses 362 = .ok (.ldc 21, 2) := by decide +kernel
theorem dL_refuses_364 : decode cL_refuses 364 = .ok (.if_icmp .ne 305, 3) := by decide +kernel
theorem dL_refuses_367 : decode cL_refuses 367 = .ok (.aload_n 0, 1) := by decide +kernel
theorem dL_refuses_368 : decode cL_refuses 368 = .ok (.iload 4, 2) := by decide +kernel
theorem dL_refuses_370 : decode cL_refuses 370 = .ok (.iconst 0, 1) := by decide +kernel
theorem dL_refuses_371 : decode cL_refuses 371 = .ok (.invokestatic 156, 3) := by decide +kernel
theorem dL_refuses_374 : decode cL_refuses 374 = .ok (.ldc 15, 2) := by decide +kernel
theorem dL_refuses_376 : decode cL_refuses 376 = .ok (.if_icmp .ne 293, 3) := by decide +kernel
theorem dL_refuses_379 : decode cL_refuses 379 = .ok (.aload_n 0, 1) := by decide +kernel
theorem dL_refuses_380 : decode cL_refuses 380 = .ok (.iload 7, 2) := by decide +kernel
theorem dL_refuses_382 : decode cL_refuses 382 = .ok (.iload_n 1, 1) := by decide +kernel
theorem dL_refuses_383 : decode cL_refuses 383 = .ok (.ineg, 1) := by decide +kernel
theorem dL_refuses_384 : decode cL_refuses 384 = .ok (.invokestatic 156, 3) := by decide +kernel
theorem dL_refuses_387 : decode cL_refuses 387 = .ok (.ldc 18, 2) := by decide +kernel
theorem dL_refuses_389 : decode cL_refuses 389 = .ok (.if_icmp .ne 280, 3) := by decide +kernel
theorem dL_refuses_392 : decode cL_refuses 392 = .ok (.aload_n 0, 1) := by decide +kernel
theorem dL_refuses_393 : decode cL_refuses 393 = .ok (.iload 7, 2) := by decide +kernel
theorem dL_refuses_395 : decode cL_refuses 395 = .ok (.sipush 5001, 3) := by decide +kernel
theorem dL_refuses_398 : decode cL_refuses 398 = .ok (.iload_n 1, 1) := by decide +kernel
theorem dL_refuses_399 : decode cL_refuses 399 = .ok (.iadd, 1) := by decide +kernel
theorem dL_refuses_400 : decode cL_refuses 400 = .ok (.invokestatic 156, 3) := by decide +kernel
theorem dL_refuses_403 : decode cL_refuses 403 = .ok (.ldc 18, 2) := by decide +kernel
theorem dL_refuses_405 : decode cL_refuses 405 = .ok (.if_icmp .ne 264, 3) := by decide +kernel
theorem dL_refuses_408 : decode cL_refuses 408 = .ok (.aload_n 0, 1) := by decide +kernel
theorem dL_refuses_409 : decode cL_refuses 409 = .ok (.iload 7, 2) := by decide +kernel
theorem dL_refuses_411 : decode cL_refuses 411 = .ok (.invokestatic 159, 3) := by decide +kernel
theorem dL_refuses_414 : decode cL_refuses 414 = .ok (.ifCond .eq 17, 3) := by decide +kernel
theorem dL_refuses_417 : decode cL_refuses 417 = .ok (.aload_n 0, 1) := by decide +kernel
theorem dL_refuses_418 : decode cL_refuses 418 = .ok (.iload 7, 2) := by decide +kernel
theorem dL_refuses_420 : decode cL_refuses 420 = .ok (.sipush 5000, 3) := by decide +kernel
theorem dL_refuses_423 : decode cL_refuses 423 = .ok (.invokestatic 156, 3) := by decide +kernel
theorem dL_refuses_426 : decode cL_refuses 426 = .ok (.ldc 21, 2) := by decide +kernel
theorem dL_refuses_428 : decode cL_refuses 428 = .ok (.if_icmp .ne 241, 3) := by decide +kernel
theorem dL_refuses_431 : decode cL_refuses 431 = .ok (.aload_n 0, 1) := by decide +kernel
theorem dL_refuses_432 : decode cL_refuses 432 = .ok (.iload 4, 2) := by decide +kernel
theorem dL_refuses_434 : decode cL_refuses 434 = .ok (.iconst 1, 1) := by decide +kernel
theorem dL_refuses_435 : decode cL_refuses 435 = .ok (.invokestatic 161, 3) := by decide +kernel
theorem dL_refuses_438 : decode cL_refuses 438 = .ok (.ldc 15, 2) := by decide +kernel
theorem dL_refuses_440 : decode cL_refuses 440 = .ok (.if_icmp .ne 229, 3) := by decide +kernel
theorem dL_refuses_443 : decode cL_refuses 443 = .ok (.aload_n 0, 1) := by decide +kernel
theorem dL_refuses_444 : decode cL_refuses 444 = .ok (.iload 7, 2) := by decide +kernel
theorem dL_refuses_446 : decode cL_refuses 446 = .ok (.iload_n 1, 1) := by decide +kernel
theorem dL_refuses_447 : decode cL_refuses 447 = .ok (.ineg, 1) := by decide +kernel
theorem dL_refuses_448 : decode cL_refuses 448 = .ok (.invokestatic 161, 3) := by decide +kernel
theorem dL_refuses_451 : decode cL_refuses 451 = .ok (.ldc 18, 2) := by decide +kernel
theorem dL_refuses_453 : decode cL_refuses 453 = .ok (.if_icmp .ne 216, 3) := by decide +kernel
theorem dL_refuses_456 : decode cL_refuses 456 = .ok (.aload_n 0, 1) := by decide +kernel
theorem dL_refuses_457 : decode cL_refuses 457 = .ok (.iload 7, 2) := by decide +kernel
theorem dL_refuses_459 : decode cL_refuses 459 = .ok (.aload_n 0, 1) := by decide +kernel
theorem dL_refuses_460 : decode cL_refuses 460 = .ok (.iload 7, 2) := by decide +kernel
theorem dL_refuses_462 : decode cL_refuses 462 = .ok (.invokestatic 164, 3) := by decide +kernel
theorem dL_refuses_465 : decode cL_refuses 465 = .ok (.iconst 1, 1) := by decide +kernel
theorem dL_refuses_466 : decode cL_refuses 466 = .ok (.iadd, 1) := by decide +kernel
theorem dL_refuses_467 : decode cL_refuses 467 = .ok (.iload_n 1, 1) := by decide +kernel
theorem dL_refuses_468 : decode cL_refuses 468 = .ok (.iadd, 1) := by decide +kernel
theorem dL_refuses_469 : decode cL_refuses 469 = .ok (.invokestatic 161, 3) := by decide +kernel
theorem dL_refuses_472 : decode cL_refuses 472 = .ok (.ldc 18, 2) := by decide +kernel
theorem dL_refuses_474 : decode cL_refuses 474 = .ok (.if_icmp .ne 195, 3) := by decide +kernel
theorem dL_refuses_477 : decode cL_refuses 477 = .ok (.aload_n 0, 1) := by decide +kernel
theorem dL_refuses_478 : decode cL_refuses 478 = .ok (.iload 4, 2) := by decide +kernel
theorem dL_refuses_480 : decode cL_refuses 480 = .ok (.invokestatic 166, 3) := by decide +kernel
theorem dL_refuses_483 : decode cL_refuses 483 = .ok (.ldc 15, 2) := by decide +kernel
theorem dL_refuses_485 : decode cL_refuses 485 = .ok (.if_icmp .ne 184, 3) := by decide +kernel
theorem dL_refuses_488 : decode cL_refuses 488 = .ok (.aload_n 0, 1) := by decide +kernel
theorem dL_refuses_489 : decode cL_refuses 489 = .ok (.iload 7, 2) := by decide +kernel
theorem dL_refuses_491 : decode cL_refuses 491 = .ok (.invokestatic 164, 3) := by decide +kernel
theorem dL_refuses_494 : decode cL_refuses 494 = .ok (.ifCond .gt 23, 3) := by decide +kernel
theorem dL_refuses_497 : decode cL_refuses 497 = .ok (.aload_n 0, 1) := by decide +kernel
theorem dL_refuses_498 : decode cL_refuses 498 = .ok (.iload 7, 2) := by decide +kernel
theorem dL_refuses_500 : decode cL_refuses 500 = .ok (.invokestatic 166, 3) := by decide +kernel
theorem dL_refuses_503 : decode cL_refuses 503 = .ok (.ldc 21, 2) := by decide +kernel
theorem dL_refuses_505 : decode cL_refuses 505 = .ok (.if_icmp .ne 164, 3) := by decide +kernel
theorem dL_refuses_508 : decode cL_refuses 508 = .ok (.aload_n 0, 1) := by decide +kernel
theorem dL_refuses_509 : decode cL_refuses 509 = .ok (.iload 7, 2) := by decide +kernel
theorem dL_refuses_511 : decode cL_refuses 511 = .ok (.invokestatic 169, 3) := by decide +kernel
theorem dL_refuses_514 : decode cL_refuses 514 = .ok (.ifCond .ne 155, 3) := by decide +kernel
theorem dL_refuses_517 : decode cL_refuses 517 = .ok (.aload_n 0, 1) := by decide +kernel
theorem dL_refuses_518 : decode cL_refuses 518 = .ok (.iload 4, 2) := by decide +kernel
theorem dL_refuses_520 : decode cL_refuses 520 = .ok (.iload 7, 2) := by decide +kernel
theorem dL_refuses_522 : decode cL_refuses 522 = .ok (.invokestatic 172, 3) := by decide +kernel
theorem dL_refuses_525 : decode cL_refuses 525 = .ok (.ldc 15, 2) := by decide +kernel
theorem dL_refuses_527 : decode cL_refuses 527 = .ok (.if_icmp .ne 142, 3) := by decide +kernel
theorem dL_refuses_530 : decode cL_refuses 530 = .ok (.aload_n 0, 1) := by decide +kernel
theorem dL_refuses_531 : decode cL_refuses 531 = .ok (.iload 7, 2) := by decide +kernel
theorem dL_refuses_533 : decode cL_refuses 533 = .ok (.iload 4, 2) := by decide +kernel
theorem dL_refuses_535 : decode cL_refuses 535 = .ok (.invokestatic 172, 3) := by decide +kernel
theorem dL_refuses_538 : decode cL_refuses 538 = .ok (.ldc 15, 2) := by decide +kernel
theorem dL_refuses_540 : decode cL_refuses 540 = .ok (.if_icmp .ne 129, 3) := by decide +kernel
theorem dL_refuses_543 : decode cL_refuses 543 = .ok (.aload_n 0, 1) := by decide +kernel
theorem dL_refuses_544 : decode cL_refuses 544 = .ok (.iload 7, 2) := by decide +kernel
theorem dL_refuses_546 : decode cL_refuses 546 = .ok (.iload 7, 2) := by decide +kernel
theorem dL_refuses_548 : decode cL_refuses 548 = .ok (.invokestatic 172, 3) := by decide +kernel
theorem dL_refuses_551 : decode cL_refuses 551 = .ok (.ldc 18, 2) := by decide +kernel
theorem dL_refuses_553 : decode cL_refuses 553 = .ok (.if_icmp .ne 116, 3) := by decide +kernel
theorem dL_refuses_556 : decode cL_refuses 556 = .ok (.aload_n 0, 1) := by decide +kernel
theorem dL_refuses_557 : decode cL_refuses 557 = .ok (.iload 7, 2) := by decide +kernel
theorem dL_refuses_559 : decode cL_refuses 559 = .ok (.invokestatic 175, 3) := by decide +kernel
theorem dL_refuses_562 : decode cL_refuses 562 = .ok (.iconst (-1), 1) := by decide +kernel
theorem dL_refuses_563 : decode cL_refuses 563 = .ok (.if_icmp .eq 39, 3) := by decide +kernel
theorem dL_refuses_566 : decode cL_refuses 566 = .ok (.aload_n 0, 1) := by decide +kernel
theorem dL_refuses_567 : decode cL_refuses 567 = .ok (.iload 7, 2) := by decide +kernel
theorem dL_refuses_569 : decode cL_refuses 569 = .ok (.iload 7, 2) := by decide +kernel
theorem dL_refuses_571 : decode cL_refuses 571 = .ok (.iconst 1, 1) := by decide +kernel
theorem dL_refuses_572 : decode cL_refuses 572 = .ok (.iadd, 1) := by decide +kernel
theorem dL_refuses_573 : decode cL_refuses 573 = .ok (.bipush 12, 2) := by decide +kernel
theorem dL_refuses_575 : decode cL_refuses 575 = .ok (.irem, 1) := by decide +kernel
theorem dL_refuses_576 : decode cL_refuses 576 = .ok (.invokestatic 172, 3) := by decide +kernel
theorem dL_refuses_579 : decode cL_refuses 579 = .ok (.ldc 21, 2) := by decide +kernel
theorem dL_refuses_581 : decode cL_refuses 581 = .ok (.if_icmp .ne 88, 3) := by decide +kernel
theorem dL_refuses_584 : decode cL_refuses 584 = .ok (.aload_n 0, 1) := by decide +kernel
theorem dL_refuses_585 : decode cL_refuses 585 = .ok (.iload 7, 2) := by decide +kernel
theorem dL_refuses_587 : decode cL_refuses 587 = .ok (.iconst 1, 1) := by decide +kernel
theorem dL_refuses_588 : decode cL_refuses 588 = .ok (.iadd, 1) := by decide +kernel
theorem dL_refuses_589 : decode cL_refuses 589 = .ok (.bipush 12, 2) := by decide +kernel
theorem dL_refuses_591 : decode cL_refuses 591 = .ok (.irem, 1) := by decide +kernel
theorem dL_refuses_592 : decode cL_refuses 592 = .ok (.iload 7, 2) := by decide +kernel
theorem dL_refuses_594 : decode cL_refuses 594 = .ok (.invokestatic 172, 3) := by decide +kernel
theorem dL_refuses_597 : decode cL_refuses 597 = .ok (.ldc 21, 2) := by decide +kernel
theorem dL_refuses_599 : decode cL_refuses 599 = .ok (.if_icmp .ne 70, 3) := by decide +kernel
theorem dL_refuses_602 : decode cL_refuses 602 = .ok (.aload_n 0, 1) := by decide +kernel
theorem dL_refuses_603 : decode cL_refuses 603 = .ok (.iload 7, 2) := by decide +kernel
theorem dL_refuses_605 : decode cL_refuses 605 = .ok (.invokestatic 169, 3) := by decide +kernel
theorem dL_refuses_608 : decode cL_refuses 608 = .ok (.ifCond .eq 21, 3) := by decide +kernel
theorem dL_refuses_611 : decode cL_refuses 611 = .ok (.aload_n 0, 1) := by decide +kernel
theorem dL_refuses_612 : decode cL_refuses 612 = .ok (.iload 7, 2) := by decide +kernel
theorem dL_refuses_614 : decode cL_refuses 614 = .ok (.iload 7, 2) := by decide +kernel
theorem dL_refuses_616 : decode cL_refuses 616 = .ok (.iconst 5, 1) := by decide +kernel
theorem dL_refuses_617 : decode cL_refuses 617 = .ok (.iadd, 1) := by decide +kernel
theorem dL_refuses_618 : decode cL_refuses 618 = .ok (.bipush 12, 2) := by decide +kernel
theorem dL_refuses_620 : decode cL_refuses 620 = .ok (.irem, 1) := by decide +kernel
theorem dL_refuses_621 : decode cL_refuses 621 = .ok (.invokestatic 172, 3) := by decide +kernel
theorem dL_refuses_624 : decode cL_refuses 624 = .ok (.ldc 21, 2) := by decide +kernel
theorem dL_refuses_626 : decode cL_refuses 626 = .ok (.if_icmp .ne 43, 3) := by decide +kernel
theorem dL_refuses_629 : decode cL_refuses 629 = .ok (.aload_n 0, 1) := by decide +kernel
theorem dL_refuses_630 : decode cL_refuses 630 = .ok (.iload 6, 2) := by decide +kernel
theorem dL_refuses_632 : decode cL_refuses 632 = .ok (.invokestatic 177, 3) := by decide +kernel
theorem dL_refuses_635 : decode cL_refuses 635 = .ok (.ldc 15, 2) := by decide +kernel
theorem dL_refuses_637 : decode cL_refuses 637 = .ok (.if_icmp .ne 32, 3) := by decide +kernel
theorem dL_refuses_640 : decode cL_refuses 640 = .ok (.aload_n 0, 1) := by decide +kernel
theorem dL_refuses_641 : decode cL_refuses 641 = .ok (.iload_n 1, 1) := by decide +kernel
theorem dL_refuses_642 : decode cL_refuses 642 = .ok (.ineg, 1) := by decide +kernel
theorem dL_refuses_643 : decode cL_refuses 643 = .ok (.invokestatic 180, 3) := by decide +kernel
theorem dL_refuses_646 : decode cL_refuses 646 = .ok (.ldc 18, 2) := by decide +kernel
theorem dL_refuses_648 : decode cL_refuses 648 = .ok (.if_icmp .ne 21, 3) := by decide +kernel
theorem dL_refuses_651 : decode cL_refuses 651 = .ok (.aload_n 0, 1) := by decide +kernel
theorem dL_refuses_652 : decode cL_refuses 652 = .ok (.sipush 2001, 3) := by decide +kernel
theorem dL_refuses_655 : decode cL_refuses 655 = .ok (.iload_n 1, 1) := by decide +kernel
theorem dL_refuses_656 : decode cL_refuses 656 = .ok (.iadd, 1) := by decide +kernel
theorem dL_refuses_657 : decode cL_refuses 657 = .ok (.invokestatic 180, 3) := by decide +kernel
theorem dL_refuses_660 : decode cL_refuses 660 = .ok (.ldc 18, 2) := by decide +kernel
theorem dL_refuses_662 : decode cL_refuses 662 = .ok (.if_icmp .ne 7, 3) := by decide +kernel
theorem dL_refuses_665 : decode cL_refuses 665 = .ok (.iconst 1, 1) := by decide +kernel
theorem dL_refuses_666 : decode cL_refuses 666 = .ok (.goto 4, 3) := by decide +kernel
theorem dL_refuses_669 : decode cL_refuses 669 = .ok (.iconst 0, 1) := by decide +kernel
theorem dL_refuses_670 : decode cL_refuses 670 = .ok (.istore 9, 2) := by decide +kernel
theorem dL_refuses_672 : decode cL_refuses 672 = .ok (.iload 9, 2) := by decide +kernel
theorem dL_refuses_674 : decode cL_refuses 674 = .ok (.ifCond .eq 332, 3) := by decide +kernel
theorem dL_refuses_677 : decode cL_refuses 677 = .ok (.aload_n 0, 1) := by decide +kernel
theorem dL_refuses_678 : decode cL_refuses 678 = .ok (.iload 4, 2) := by decide +kernel
theorem dL_refuses_680 : decode cL_refuses 680 = .ok (.invokestatic 146, 3) := by decide +kernel
theorem dL_refuses_683 : decode cL_refuses 683 = .ok (.ldc 15, 2) := by decide +kernel
theorem dL_refuses_685 : decode cL_refuses 685 = .ok (.if_icmp .ne 321, 3) := by decide +kernel
theorem dL_refuses_688 : decode cL_refuses 688 = .ok (.aload_n 0, 1) := by decide +kernel
theorem dL_refuses_689 : decode cL_refuses 689 = .ok (.iload 4, 2) := by decide +kernel
theorem dL_refuses_691 : decode cL_refuses 691 = .ok (.iconst 0, 1) := by decide +kernel
theorem dL_refuses_692 : decode cL_refuses 692 = .ok (.invokestatic 183, 3) := by decide +kernel
theorem dL_refuses_695 : decode cL_refuses 695 = .ok (.ldc 15, 2) := by decide +kernel
theorem dL_refuses_697 : decode cL_refuses 697 = .ok (.if_icmp .ne 309, 3) := by decide +kernel
theorem dL_refuses_700 : decode cL_refuses 700 = .ok (.aload_n 0, 1) := by decide +kernel
theorem dL_refuses_701 : decode cL_refuses 701 = .ok (.iload 7, 2) := by decide +kernel
theorem dL_refuses_703 : decode cL_refuses 703 = .ok (.aload_n 0, 1) := by decide +kernel
theorem dL_refuses_704 : decode cL_refuses 704 = .ok (.invokevirtual 186, 3) := by decide +kernel
theorem dL_refuses_707 : decode cL_refuses 707 = .ok (.iconst 1, 1) := by decide +kernel
theorem dL_refuses_708 : decode cL_refuses 708 = .ok (.iadd, 1) := by decide +kernel
theorem dL_refuses_709 : decode cL_refuses 709 = .ok (.iload_n 1, 1) := by decide +kernel
theorem dL_refuses_710 : decode cL_refuses 710 = .ok (.iadd, 1) := by decide +kernel
theorem dL_refuses_711 : decode cL_refuses 711 = .ok (.invokestatic 183, 3) := by decide +kernel
theorem dL_refuses_714 : decode cL_refuses 714 = .ok (.ldc 18, 2) := by decide +kernel
theorem dL_refuses_716 : decode cL_refuses 716 = .ok (.if_icmp .ne 290, 3) := by decide +kernel
theorem dL_refuses_719 : decode cL_refuses 719 = .ok (.aload_n 0, 1) := by decide +kernel
theorem dL_refuses_720 : decode cL_refuses 720 = .ok (.iload 7, 2) := by decide +kernel
theorem dL_refuses_722 : decode cL_refuses 722 = .ok (.iconst (-1), 1) := by decide +kernel
theorem dL_refuses_723 : decode cL_refuses 723 = .ok (.iload_n 1, 1) := by decide +kernel
theorem dL_refuses_724 : decode cL_refuses 724 = .ok (.isub, 1) := by decide +kernel
theorem dL_refuses_725 : decode cL_refuses 725 = .ok (.invokestatic 183, 3) := by decide +kernel
theorem dL_refuses_728 : decode cL_refuses 728 = .ok (.ldc 18, 2) := by decide +kernel
theorem dL_refuses_730 : decode cL_refuses 730 = .ok (.if_icmp .ne 276, 3) := by decide +kernel
theorem dL_refuses_733 : decode cL_refuses 733 = .ok (.aload_n 0, 1) := by decide +kernel
theorem dL_refuses_734 : decode cL_refuses 734 = .ok (.iload 4, 2) := by decide +kernel
theorem dL_refuses_736 : decode cL_refuses 736 = .ok (.invokestatic 153, 3) := by decide +kernel
theorem dL_refuses_739 : decode cL_refuses 739 = .ok (.ldc 15, 2) := by decide +kernel
theorem dL_refuses_741 : decode cL_refuses 741 = .ok (.if_icmp .ne 265, 3) := by decide +kernel
theorem dL_refuses_744 : decode cL_refuses 744 = .ok (.aload_n 0, 1) := by decide +kernel
theorem dL_refuses_745 : decode cL_refuses 745 = .ok (.iload_n 3, 1) := by decide +kernel
theorem dL_refuses_746 : decode cL_refuses 746 = .ok (.iload 7, 2) := by decide +kernel
theorem dL_refuses_748 : decode cL_refuses 748 = .ok (.invokestatic 189, 3) := by decide +kernel
theorem dL_refuses_751 : decode cL_refuses 751 = .ok (.ldc 15, 2) := by decide +kernel
theorem dL_refuses_753 : decode cL_refuses 753 = .ok (.if_icmp .ne 253, 3) := by decide +kernel
theorem dL_refuses_756 : decode cL_refuses 756 = .ok (.aload_n 0, 1) := by decide +kernel
theorem dL_refuses_757 : decode cL_refuses 757 = .ok (.iload 8, 2) := by decide +kernel
theorem dL_refuses_759 : decode cL_refuses 759 = .ok (.iload 4, 2) := by decide +kernel
theorem dL_refuses_761 : decode cL_refuses 761 = .ok (.invokestatic 189, 3) := by decide +kernel
theorem dL_refuses_764 : decode cL_refuses 764 = .ok (.ldc 15, 2) := by decide +kernel
theorem dL_refuses_766 : decode cL_refuses 766 = .ok (.if_icmp .ne 240, 3) := by decide +kernel
theorem dL_refuses_769 : decode cL_refuses 769 = .ok (.aload_n 0, 1) := by decide +kernel
theorem dL_refuses_770 : decode cL_refuses 770 = .ok (.iload 4, 2) := by decide +kernel
theorem dL_refuses_772 : decode cL_refuses 772 = .ok (.invokestatic 164, 3) := by decide +kernel
theorem dL_refuses_775 : decode cL_refuses 775 = .ok (.ldc 15, 2) := by decide +kernel
theorem dL_refuses_777 : decode cL_refuses 777 = .ok (.if_icmp .ne 229, 3) := by decide +kernel
theorem dL_refuses_780 : decode cL_refuses 780 = .ok (.aload_n 0, 1) := by decide +kernel
theorem dL_refuses_781 : decode cL_refuses 781 = .ok (.iload 4, 2) := by decide +kernel
theorem dL_refuses_783 : decode cL_refuses 783 = .ok (.invokestatic 191, 3) := by decide +kernel
theorem dL_refuses_786 : decode cL_refuses 786 = .ok (.ldc 15, 2) := by decide +kernel
theorem dL_refuses_788 : decode cL_refuses 788 = .ok (.if_icmp .ne 218, 3) := by decide +kernel
theorem dL_refuses_791 : decode cL_refuses 791 = .ok (.aload_n 0, 1) := by decide +kernel
theorem dL_refuses_792 : decode cL_refuses 792 = .ok (.iload 4, 2) := by decide +kernel
theorem dL_refuses_794 : decode cL_refuses 794 = .ok (.invokestatic 159, 3) := by decide +kernel
theorem dL_refuses_797 : decode cL_refuses 797 = .ok (.ldc 15, 2) := by decide +kernel
theorem dL_refuses_799 : decode cL_refuses 799 = .ok (.if_icmp .ne 207, 3) := by decide +kernel
theorem dL_refuses_802 : decode cL_refuses 802 = .ok (.aload_n 0, 1) := by decide +kernel
theorem dL_refuses_803 : decode cL_refuses 803 = .ok (.iload 4, 2) := by decide +kernel
theorem dL_refuses_805 : decode cL_refuses 805 = .ok (.invokestatic 169, 3) := by decide +kernel
theorem dL_refuses_808 : decode cL_refuses 808 = .ok (.ldc 15, 2) := by decide +kernel
theorem dL_refuses_810 : decode cL_refuses 810 = .ok (.if_icmp .ne 196, 3) := by decide +kernel
theorem dL_refuses_813 : decode cL_refuses 813 = .ok (.aload_n 0, 1) := by decide +kernel
theorem dL_refuses_814 : decode cL_refuses 814 = .ok (.iload 4, 2) := by decide +kernel
theorem dL_refuses_816 : decode cL_refuses 816 = .ok (.invokestatic 175, 3) := by decide +kernel
theorem dL_refuses_819 : decode cL_refuses 819 = .ok (.ldc 15, 2) := by decide +kernel
theorem dL_refuses_821 : decode cL_refuses 821 = .ok (.if_icmp .ne 185, 3) := by decide +kernel
theorem dL_refuses_824 : decode cL_refuses 824 = .ok (.aload_n 0, 1) := by decide +kernel
theorem dL_refuses_825 : decode cL_refuses 825 = .ok (.iload 8, 2) := by decide +kernel
theorem dL_refuses_827 : decode cL_refuses 827 = .ok (.iload_n 3, 1) := by decide +kernel
theorem dL_refuses_828 : decode cL_refuses 828 = .ok (.invokestatic 193, 3) := by decide +kernel
theorem dL_refuses_831 : decode cL_refuses 831 = .ok (.ldc 15, 2) := by decide +kernel
theorem dL_refuses_833 : decode cL_refuses 833 = .ok (.if_icmp .ne 173, 3) := by decide +kernel
theorem dL_refuses_836 : decode cL_refuses 836 = .ok (.aload_n 0, 1) := by decide +kernel
theorem dL_refuses_837 : decode cL_refuses 837 = .ok (.iload 8, 2) := by decide +kernel
theorem dL_refuses_839 : decode cL_refuses 839 = .ok (.iload 8, 2) := by decide +kernel
theorem dL_refuses_841 : decode cL_refuses 841 = .ok (.invokestatic 193, 3) := by decide +kernel
theorem dL_refuses_844 : decode cL_refuses 844 = .ok (.ifCond .ne 162, 3) := by decide +kernel
theorem dL_refuses_847 : decode cL_refuses 847 = .ok (.aload_n 0, 1) := by decide +kernel
theorem dL_refuses_848 : decode cL_refuses 848 = .ok (.iload 7, 2) := by decide +kernel
theorem dL_refuses_850 : decode cL_refuses 850 = .ok (.iload 4, 2) := by decide +kernel
theorem dL_refuses_852 : decode cL_refuses 852 = .ok (.invokestatic 195, 3) := by decide +kernel
theorem dL_refuses_855 : decode cL_refuses 855 = .ok (.ldc 15, 2) := by decide +kernel
theorem dL_refuses_857 : decode cL_refuses 857 = .ok (.if_icmp .ne 149, 3) := by decide +kernel
theorem dL_refuses_860 : decode cL_refuses 860 = .ok (.aload_n 0, 1) := by decide +kernel
theorem dL_refuses_861 : decode cL_refuses 861 = .ok (.iload 7, 2) := by decide +kernel
theorem dL_refuses_863 : decode cL_refuses 863 = .ok (.iload 7, 2) := by decide +kernel
theorem dL_refuses_865 : decode cL_refuses 865 = .ok (.invokestatic 195, 3) := by decide +kernel
theorem dL_refuses_868 : decode cL_refuses 868 = .ok (.ldc 18, 2) := by decide +kernel
theorem dL_refuses_870 : decode cL_refuses 870 = .ok (.if_icmp .ne 136, 3) := by decide +kernel
theorem dL_refuses_873 : decode cL_refuses 873 = .ok (.aload_n 0, 1) := by decide +kernel
theorem dL_refuses_874 : decode cL_refuses 874 = .ok (.iload 6, 2) := by decide +kernel
theorem dL_refuses_876 : decode cL_refuses 876 = .ok (.invokestatic 197, 3) := by decide +kernel
theorem dL_refuses_879 : decode cL_refuses 879 = .ok (.ldc 15, 2) := by decide +kernel
theorem dL_refuses_881 : decode cL_refuses 881 = .ok (.if_icmp .ne 125, 3) := by decide +kernel
theorem dL_refuses_884 : decode cL_refuses 884 = .ok (.aload_n 0, 1) := by decide +kernel
theorem dL_refuses_885 : decode cL_refuses 885 = .ok (.iload 6, 2) := by decide +kernel
theorem dL_refuses_887 : decode cL_refuses 887 = .ok (.invokestatic 199, 3) := by decide +kernel
theorem dL_refuses_890 : decode cL_refuses 890 = .ok (.ldc 15, 2) := by decide +kernel
theorem dL_refuses_892 : decode cL_refuses 892 = .ok (.if_icmp .ne 114, 3) := by decide +kernel
theorem dL_refuses_895 : decode cL_refuses 895 = .ok (.aload_n 0, 1) := by decide +kernel
theorem dL_refuses_896 : decode cL_refuses 896 = .ok (.iload 6, 2) := by decide +kernel
theorem dL_refuses_898 : decode cL_refuses 898 = .ok (.iconst 0, 1) := by decide +kernel
theorem dL_refuses_899 : decode cL_refuses 899 = .ok (.invokestatic 201, 3) := by decide +kernel
theorem dL_refuses_902 : decode cL_refuses 902 = .ok (.ldc 15, 2) := by decide +kernel
theorem dL_refuses_904 : decode cL_refuses 904 = .ok (.if_icmp .ne 102, 3) := by decide +kernel
theorem dL_refuses_907 : decode cL_refuses 907 = .ok (.aload_n 0, 1) := by decide +kernel
theorem dL_refuses_908 : decode cL_refuses 908 = .ok (.iload 6, 2) := by decide +kernel
theorem dL_refuses_910 : decode cL_refuses 910 = .ok (.invokestatic 204, 3) := by decide +kernel
theorem dL_refuses_913 : decode cL_refuses 913 = .ok (.ldc 15, 2) := by decide +kernel
theorem dL_refuses_915 : decode cL_refuses 915 = .ok (.if_icmp .ne 91, 3) := by decide +kernel
theorem dL_refuses_918 : decode cL_refuses 918 = .ok (.aload_n 0, 1) := by decide +kernel
theorem dL_refuses_919 : decode cL_refuses 919 = .ok (.iload 6, 2) := by decide +kernel
theorem dL_refuses_921 : decode cL_refuses 921 = .ok (.invokestatic 206, 3) := by decide +kernel
theorem dL_refuses_924 : decode cL_refuses 924 = .ok (.ldc 15, 2) := by decide +kernel
theorem dL_refuses_926 : decode cL_refuses 926 = .ok (.if_icmp .ne 80, 3) := by decide +kernel
theorem dL_refuses_929 : decode cL_refuses 929 = .ok (.aload_n 0, 1) := by decide +kernel
theorem dL_refuses_930 : decode cL_refuses 930 = .ok (.iload 6, 2) := by decide +kernel
theorem dL_refuses_932 : decode cL_refuses 932 = .ok (.invokestatic 208, 3) := by decide +kernel
theorem dL_refuses_935 : decode cL_refuses 935 = .ok (.ldc 15, 2) := by decide +kernel
theorem dL_refuses_937 : decode cL_refuses 937 = .ok (.if_icmp .ne 69, 3) := by decide +kernel
theorem dL_refuses_940 : decode cL_refuses 940 = .ok (.aload_n 0, 1) := by decide +kernel
theorem dL_refuses_941 : decode cL_refuses 941 = .ok (.iload_n 3, 1) := by decide +kernel
theorem dL_refuses_942 : decode cL_refuses 942 = .ok (.invokestatic 210, 3) := by decide +kernel
theorem dL_refuses_945 : decode cL_refuses 945 = .ok (.ldc 15, 2) := by decide +kernel
theorem dL_refuses_947 : decode cL_refuses 947 = .ok (.if_icmp .ne 59, 3) := by decide +kernel
theorem dL_refuses_950 : decode cL_refuses 950 = .ok (.aload_n 0, 1) := by decide +kernel
theorem dL_refuses_951 : decode cL_refuses 951 = .ok (.iload_n 3, 1) := by decide +kernel
theorem dL_refuses_952 : decode cL_refuses 952 = .ok (.invokestatic 212, 3) := by decide +kernel
theorem dL_refuses_955 : decode cL_refuses 955 = .ok (.ldc 15, 2) := by decide +kernel
theorem dL_refuses_957 : decode cL_refuses 957 = .ok (.if_icmp .ne 49, 3) := by decide +kernel
theorem dL_refuses_960 : decode cL_refuses 960 = .ok (.aload_n 0, 1) := by decide +kernel
theorem dL_refuses_961 : decode cL_refuses 961 = .ok (.iload_n 3, 1) := by decide +kernel
theorem dL_refuses_962 : decode cL_refuses 962 = .ok (.invokestatic 214, 3) := by decide +kernel
theorem dL_refuses_965 : decode cL_refuses 965 = .ok (.ldc 15, 2) := by decide +kernel
theorem dL_refuses_967 : decode cL_refuses 967 = .ok (.if_icmp .ne 39, 3) := by decide +kernel
theorem dL_refuses_970 : decode cL_refuses 970 = .ok (.aload_n 0, 1) := by decide +kernel
theorem dL_refuses_971 : decode cL_refuses 971 = .ok (.iload 5, 2) := by decide +kernel
theorem dL_refuses_973 : decode cL_refuses 973 = .ok (.invokestatic 216, 3) := by decide +kernel
theorem dL_refuses_976 : decode cL_refuses 976 = .ok (.ldc 15, 2) := by decide +kernel
theorem dL_refuses_978 : decode cL_refuses 978 = .ok (.if_icmp .ne 28, 3) := by decide +kernel
theorem dL_refuses_981 : decode cL_refuses 981 = .ok (.aload_n 0, 1) := by decide +kernel
theorem dL_refuses_982 : decode cL_refuses 982 = .ok (.iload 5, 2) := by decide +kernel
theorem dL_refuses_984 : decode cL_refuses 984 = .ok (.invokestatic 218, 3) := by decide +kernel
theorem dL_refuses_987 : decode cL_refuses 987 = .ok (.ldc 15, 2) := by decide +kernel
theorem dL_refuses_989 : decode cL_refuses 989 = .ok (.if_icmp .ne 17, 3) := by decide +kernel
theorem dL_refuses_992 : decode cL_refuses 992 = .ok (.aload_n 0, 1) := by decide +kernel
theorem dL_refuses_993 : decode cL_refuses 993 = .ok (.iload_n 3, 1) := by decide +kernel
theorem dL_refuses_994 : decode cL_refuses 994 = .ok (.invokestatic 220, 3) := by decide +kernel
theorem dL_refuses_997 : decode cL_refuses 997 = .ok (.ldc 15, 2) := by decide +kernel
theorem dL_refuses_999 : decode cL_refuses 999 = .ok (.if_icmp .ne 7, 3) := by decide +kernel
theorem dL_refuses_1002 : decode cL_refuses 1002 = .ok (.iconst 1, 1) := by decide +kernel
theorem dL_refuses_1003 : decode cL_refuses 1003 = .ok (.goto 4, 3) := by decide +kernel
theorem dL_refuses_1006 : decode cL_refuses 1006 = .ok (.iconst 0, 1) := by decide +kernel
theorem dL_refuses_1007 : decode cL_refuses 1007 = .ok (.istore 9, 2) := by decide +kernel
theorem dL_refuses_1009 : decode cL_refuses 1009 = .ok (.aload_n 0, 1) := by decide +kernel
theorem dL_refuses_1010 : decode cL_refuses 1010 = .ok (.invokevirtual 126, 3) := by decide +kernel
theorem dL_refuses_1013 : decode cL_refuses 1013 = .ok (.ifCond .ne 7, 3) := by decide +kernel
theorem dL_refuses_1016 : decode cL_refuses 1016 = .ok (.iconst (-1), 1) := by decide +kernel
theorem dL_refuses_1017 : decode cL_refuses 1017 = .ok (.goto 12, 3) := by decide +kernel
theorem dL_refuses_1020 : decode cL_refuses 1020 = .ok (.iload_n 1, 1) := by decide +kernel
theorem dL_refuses_1021 : decode cL_refuses 1021 = .ok (.bipush 24, 2) := by decide +kernel
theorem dL_refuses_1023 : decode cL_refuses 1023 = .ok (.idiv, 1) := by decide +kernel
theorem dL_refuses_1024 : decode cL_refuses 1024 = .ok (.aload_n 0, 1) := by decide +kernel
theorem dL_refuses_1025 : decode cL_refuses 1025 = .ok (.invokevirtual 126, 3) := by decide +kernel
theorem dL_refuses_1028 : decode cL_refuses 1028 = .ok (.irem, 1) := by decide +kernel
theorem dL_refuses_1029 : decode cL_refuses 1029 = .ok (.istore 10, 2) := by decide +kernel
theorem dL_refuses_1031 : decode cL_refuses 1031 = .ok (.aload_n 0, 1) := by decide +kernel
theorem dL_refuses_1032 : decode cL_refuses 1032 = .ok (.iload 7, 2) := by decide +kernel
theorem dL_refuses_1034 : decode cL_refuses 1034 = .ok (.invokestatic 146, 3) := by decide +kernel
theorem dL_refuses_1037 : decode cL_refuses 1037 = .ok (.iconst 1, 1) := by decide +kernel
theorem dL_refuses_1038 : decode cL_refuses 1038 = .ok (.iadd, 1) := by decide +kernel
theorem dL_refuses_1039 : decode cL_refuses 1039 = .ok (.iload_n 1, 1) := by decide +kernel
theorem dL_refuses_1040 : decode cL_refuses 1040 = .ok (.iconst 4, 1) := by decide +kernel
theorem dL_refuses_1041 : decode cL_refuses 1041 = .ok (.irem, 1) := by decide +kernel
theorem dL_refuses_1042 : decode cL_refuses 1042 = .ok (.iadd, 1) := by decide +kernel
theorem dL_refuses_1043 : decode cL_refuses 1043 = .ok (.iconst 5, 1) := by decide +kernel
theorem dL_refuses_1044 : decode cL_refuses 1044 = .ok (.irem, 1) := by decide +kernel
theorem dL_refuses_1045 : decode cL_refuses 1045 = .ok (.istore 11, 2) := by decide +kernel
theorem dL_refuses_1047 : decode cL_refuses 1047 = .ok (.iload 9, 2) := by decide +kernel
theorem dL_refuses_1049 : decode cL_refuses 1049 = .ok (.ifCond .eq 88, 3) := by decide +kernel
theorem dL_refuses_1052 : decode cL_refuses 1052 = .ok (.iload 10, 2) := by decide +kernel
theorem dL_refuses_1054 : decode cL_refuses 1054 = .ok (.ifCond .lt 51, 3) := by decide +kernel
theorem dL_refuses_1057 : decode cL_refuses 1057 = .ok (.aload_n 0, 1) := by decide +kernel
theorem dL_refuses_1058 : decode cL_refuses 1058 = .ok (.iload 10, 2) := by decide +kernel
theorem dL_refuses_1060 : decode cL_refuses 1060 = .ok (.iconst (-1), 1) := by decide +kernel
theorem dL_refuses_1061 : decode cL_refuses 1061 = .ok (.iload_n 1, 1) := by decide +kernel
theorem dL_refuses_1062 : decode cL_refuses 1062 = .ok (.isub, 1) := by decide +kernel
theorem dL_refuses_1063 : decode cL_refuses 1063 = .ok (.invokestatic 201, 3) := by decide +kernel
theorem dL_refuses_1066 : decode cL_refuses 1066 = .ok (.ldc 15, 2) := by decide +kernel
theorem dL_refuses_1068 : decode cL_refuses 1068 = .ok (.if_icmp .ne 69, 3) := by decide +kernel
theorem dL_refuses_1071 : decode cL_refuses 1071 = .ok (.aload_n 0, 1) := by decide +kernel
theorem dL_refuses_1072 : decode cL_refuses 1072 = .ok (.iload 10, 2) := by decide +kernel
theorem dL_refuses_1074 : decode cL_refuses 1074 = .ok (.iconst 5, 1) := by decide +kernel
theorem dL_refuses_1075 : decode cL_refuses 1075 = .ok (.iload_n 1, 1) := by decide +kernel
theorem dL_refuses_1076 : decode cL_refuses 1076 = .ok (.iadd, 1) := by decide +kernel
theorem dL_refuses_1077 : decode cL_refuses 1077 = .ok (.invokestatic 201, 3) := by decide +kernel
theorem dL_refuses_1080 : decode cL_refuses 1080 = .ok (.ldc 15, 2) := by decide +kernel
theorem dL_refuses_1082 : decode cL_refuses 1082 = .ok (.if_icmp .ne 55, 3) := by decide +kernel
theorem dL_refuses_1085 : decode cL_refuses 1085 = .ok (.aload_n 0, 1) := by decide +kernel
theorem dL_refuses_1086 : decode cL_refuses 1086 = .ok (.iload 10, 2) := by decide +kernel
theorem dL_refuses_1088 : decode cL_refuses 1088 = .ok (.invokestatic 197, 3) := by decide +kernel
theorem dL_refuses_1091 : decode cL_refuses 1091 = .ok (.ifCond .eq 14, 3) := by decide +kernel
theorem dL_refuses_1094 : decode cL_refuses 1094 = .ok (.aload_n 0, 1) := by decide +kernel
theorem dL_refuses_1095 : decode cL_refuses 1095 = .ok (.iload 10, 2) := by decide +kernel
theorem dL_refuses_1097 : decode cL_refuses 1097 = .ok (.invokestatic 177, 3) := by decide +kernel
theorem dL_refuses_1100 : decode cL_refuses 1100 = .ok (.ldc 21, 2) := by decide +kernel
theorem dL_refuses_1102 : decode cL_refuses 1102 = .ok (.if_icmp .ne 35, 3) := by decide +kernel
theorem dL_refuses_1105 : decode cL_refuses 1105 = .ok (.aload_n 0, 1) := by decide +kernel
theorem dL_refuses_1106 : decode cL_refuses 1106 = .ok (.iload 7, 2) := by decide +kernel
theorem dL_refuses_1108 : decode cL_refuses 1108 = .ok (.invokestatic 164, 3) := by decide +kernel
theorem dL_refuses_1111 : decode cL_refuses 1111 = .ok (.aload_n 0, 1) := by decide +kernel
theorem dL_refuses_1112 : decode cL_refuses 1112 = .ok (.iload 7, 2) := by decide +kernel
theorem dL_refuses_1114 : decode cL_refuses 1114 = .ok (.invokestatic 159, 3) := by decide +kernel
theorem dL_refuses_1117 : decode cL_refuses 1117 = .ok (.if_icmp .le 16, 3) := by decide +kernel
theorem dL_refuses_1120 : decode cL_refuses 1120 = .ok (.aload_n 0, 1) := by decide +kernel
theorem dL_refuses_1121 : decode cL_refuses 1121 = .ok (.iload 7, 2) := by decide +kernel
theorem dL_refuses_1123 : decode cL_refuses 1123 = .ok (.iload 11, 2) := by decide +kernel
theorem dL_refuses_1125 : decode cL_refuses 1125 = .ok (.invokestatic 143, 3) := by decide +kernel
theorem dL_refuses_1128 : decode cL_refuses 1128 = .ok (.ldc 21, 2) := by decide +kernel
theorem dL_refuses_1130 : decode cL_refuses 1130 = .ok (.if_icmp .ne 7, 3) := by decide +kernel
theorem dL_refuses_1133 : decode cL_refuses 1133 = .ok (.iconst 1, 1) := by decide +kernel
theorem dL_refuses_1134 : decode cL_refuses 1134 = .ok (.goto 4, 3) := by decide +kernel
theorem dL_refuses_1137 : decode cL_refuses 1137 = .ok (.iconst 0, 1) := by decide +kernel
theorem dL_refuses_1138 : decode cL_refuses 1138 = .ok (.ireturn, 1) := by decide +kernel
theorem dL_law_0 : decode cL_law 0 = .ok (.new 8, 3) := by decide +kernel
theorem dL_law_3 : decode cL_law 3 = .ok (.dup, 1) := by decide +kernel
theorem dL_law_4 : decode cL_law 4 = .ok (.invokespecial 229, 3) := by decide +kernel
theorem dL_law_7 : decode cL_law 7 = .ok (.astore_n 1, 1) := by decide +kernel
theorem dL_law_8 : decode cL_law 8 = .ok (.new 8, 3) := by decide +kernel
theorem dL_law_11 : decode cL_law 11 = .ok (.dup, 1) := by decide +kernel
theorem dL_law_12 : decode cL_law 12 = .ok (.invokespecial 229, 3) := by decide +kernel
theorem dL_law_15 : decode cL_law 15 = .ok (.astore_n 2, 1) := by decide +kernel
theorem dL_law_16 : decode cL_law 16 = .ok (.iconst 1, 1) := by decide +kernel
theorem dL_law_17 : decode cL_law 17 = .ok (.newarray .int, 2) := by decide +kernel
theorem dL_law_19 : decode cL_law 19 = .ok (.astore_n 3, 1) := by decide +kernel
theorem dL_law_20 : decode cL_law 20 = .ok (.bipush 20, 2) := by decide +kernel
theorem dL_law_22 : decode cL_law 22 = .ok (.aload_n 0, 1) := by decide +kernel
theorem dL_law_23 : decode cL_law 23 = .ok (.iconst 0, 1) := by decide +kernel
theorem dL_law_24 : decode cL_law 24 = .ok (.invokestatic 230, 3) := by decide +kernel
theorem dL_law_27 : decode cL_law 27 = .ok (.bipush 27, 2) := by decide +kernel
theorem dL_law_29 : decode cL_law 29 = .ok (.irem, 1) := by decide +kernel
theorem dL_law_30 : decode cL_law 30 = .ok (.iadd, 1) := by decide +kernel
theorem dL_law_31 : decode cL_law 31 = .ok (.istore 4, 2) := by decide +kernel
theorem dL_law_33 : decode cL_law 33 = .ok (.iconst 1, 1) := by decide +kernel
theorem dL_law_34 : decode cL_law 34 = .ok (.istore 5, 2) := by decide +kernel
theorem dL_law_36 : decode cL_law 36 = .ok (.iconst 0, 1) := by decide +kernel
theorem dL_law_37 : decode cL_law 37 = .ok (.istore 6, 2) := by decide +kernel
theorem dL_law_39 : decode cL_law 39 = .ok (.iload 6, 2) := by decide +kernel
theorem dL_law_41 : decode cL_law 41 = .ok (.iload 4, 2) := by decide +kernel
theorem dL_law_43 : decode cL_law 43 = .ok (.if_icmp .ge 238, 3) := by decide +kernel
theorem dL_law_46 : decode cL_law 46 = .ok (.iload 5, 2) := by decide +kernel
theorem dL_law_48 : decode cL_law 48 = .ok (.ifCond .eq 233, 3) := by decide +kernel
theorem dL_law_51 : decode cL_law 51 = .ok (.aload_n 0, 1) := by decide +kernel
theorem dL_law_52 : decode cL_law 52 = .ok (.iconst 1, 1) := by decide +kernel
theorem dL_law_53 : decode cL_law 53 = .ok (.iload 6, 2) := by decide +kernel
theorem dL_law_55 : decode cL_law 55 = .ok (.iadd, 1) := by decide +kernel
theorem dL_law_56 : decode cL_law 56 = .ok (.invokestatic 230, 3) := by decide +kernel
theorem dL_law_59 : decode cL_law 59 = .ok (.istore 7, 2) := by decide +kernel
theorem dL_law_61 : decode cL_law 61 = .ok (.iload 7, 2) := by decide +kernel
theorem dL_law_63 : decode cL_law 63 = .ok (.bipush 32, 2) := by decide +kernel
theorem dL_law_65 : decode cL_law 65 = .ok (.irem, 1) := by decide +kernel
theorem dL_law_66 : decode cL_law 66 = .ok (.istore 8, 2) := by decide +kernel
theorem dL_law_68 : decode cL_law 68 = .ok (.iload 7, 2) := by decide +kernel
theorem dL_law_70 : decode cL_law 70 = .ok (.bipush 32, 2) := by decide +kernel
theorem dL_law_72 : decode cL_law 72 = .ok (.idiv, 1) := by decide +kernel
theorem dL_law_73 : decode cL_law 73 = .ok (.iload 7, 2) := by decide +kernel
theorem dL_law_75 : decode cL_law 75 = .ok (.iconst 3, 1) := by decide +kernel
theorem dL_law_76 : decode cL_law 76 = .ok (.irem, 1) := by decide +kernel
theorem dL_law_77 : decode cL_law 77 = .ok (.ifCond .ne 8, 3) := by decide +kernel
theorem dL_law_80 : decode cL_law 80 = .ok (.bipush 12, 2) := by decide +kernel
theorem dL_law_82 : decode cL_law 82 = .ok (.goto 4, 3) := by decide +kernel
theorem dL_law_85 : decode cL_law 85 = .ok (.iconst 5, 1) := by decide +kernel
theorem dL_law_86 : decode cL_law 86 = .ok (.irem, 1) := by decide +kernel
theorem dL_law_87 : decode cL_law 87 = .ok (.istore 9, 2) := by decide +kernel
theorem dL_law_89 : decode cL_law 89 = .ok (.aload_n 1, 1) := by decide +kernel
theorem dL_law_90 : decode cL_law 90 = .ok (.iload 9, 2) := by decide +kernel
theorem dL_law_92 : decode cL_law 92 = .ok (.invokestatic 164, 3) := by decide +kernel
theorem dL_law_95 : decode cL_law 95 = .ok (.istore 10, 2) := by decide +kernel
theorem dL_law_97 : decode cL_law 97 = .ok (.aload_n 1, 1) := by decide +kernel
theorem dL_law_98 : decode cL_law 98 = .ok (.iload 9, 2) := by decide +kernel
theorem dL_law_100 : decode cL_law 100 = .ok (.invokestatic 159, 3) := by decide +kernel
theorem dL_law_103 : decode cL_law 103 = .ok (.istore 11, 2) := by decide +kernel
theorem dL_law_105 : decode cL_law 105 = .ok (.aload_n 1, 1) := by decide +kernel
theorem dL_law_106 : decode cL_law 106 = .ok (.iload 7, 2) := by decide +kernel
theorem dL_law_108 : decode cL_law 108 = .ok (.iconst 0, 1) := by decide +kernel
theorem dL_law_109 : decode cL_law 109 = .ok (.invokestatic 234, 3) := by decide +kernel
theorem dL_law_112 : decode cL_law 112 = .ok (.istore 12, 2) := by decide +kernel
theorem dL_law_114 : decode cL_law 114 = .ok (.aload_n 2, 1) := by decide +kernel
theorem dL_law_115 : decode cL_law 115 = .ok (.iload 7, 2) := by decide +kernel
theorem dL_law_117 : decode cL_law 117 = .ok (.sipush 9973, 3) := by decide +kernel
theorem dL_law_120 : decode cL_law 120 = .ok (.irem, 1) := by decide +kernel
theorem dL_law_121 : decode cL_law 121 = .ok (.invokestatic 238, 3) := by decide +kernel
theorem dL_law_124 : decode cL_law 124 = .ok (.ifCond .eq 19, 3) := by decide +kernel
theorem dL_law_127 : decode cL_law 127 = .ok (.aload_n 2, 1) := by decide +kernel
theorem dL_law_128 : decode cL_law 128 = .ok (.iload 7, 2) := by decide +kernel
theorem dL_law_130 : decode cL_law 130 = .ok (.iconst 1, 1) := by decide +kernel
theorem dL_law_131 : decode cL_law 131 = .ok (.invokestatic 234, 3) := by decide +kernel
theorem dL_law_134 : decode cL_law 134 = .ok (.iload 12, 2) := by decide +kernel
theorem dL_law_136 : decode cL_law 136 = .ok (.if_icmp .ne 7, 3) := by decide +kernel
theorem dL_law_139 : decode cL_law 139 = .ok (.iconst 1, 1) := by decide +kernel
theorem dL_law_140 : decode cL_law 140 = .ok (.goto 4, 3) := by decide +kernel
theorem dL_law_143 : decode cL_law 143 = .ok (.iconst 0, 1) := by decide +kernel
theorem dL_law_144 : decode cL_law 144 = .ok (.istore 5, 2) := by decide +kernel
theorem dL_law_146 : decode cL_law 146 = .ok (.aload_n 3, 1) := by decide +kernel
theorem dL_law_147 : decode cL_law 147 = .ok (.iconst 0, 1) := by decide +kernel
theorem dL_law_148 : decode cL_law 148 = .ok (.dup2, 1) := by decide +kernel
theorem dL_law_149 : decode cL_law 149 = .ok (.iaload, 1) := by decide +kernel
theorem dL_law_150 : decode cL_law 150 = .ok (.iload 8, 2) := by decide +kernel
theorem dL_law_152 : decode cL_law 152 = .ok (.bipush 13, 2) := by decide +kernel
theorem dL_law_154 : decode cL_law 154 = .ok (.if_icmp .ne 16, 3) := by decide +kernel
theorem dL_law_157 : decode cL_law 157 = .ok (.iload 12, 2) := by decide +kernel
theorem dL_law_159 : decode cL_law 159 = .ok (.ifCond .lt 11, 3) := by decide +kernel
theorem dL_law_162 : decode cL_law 162 = .ok (.iload 10, 2) := by decide +kernel
theorem dL_law_164 : decode cL_law 164 = .ok (.iload 12, 2) := by decide +kernel
theorem dL_law_166 : decode cL_law 166 = .ok (.isub, 1) := by decide +kernel
theorem dL_law_167 : decode cL_law 167 = .ok (.goto 35, 3) := by decide +kernel
theorem dL_law_170 : decode cL_law 170 = .ok (.iload 8, 2) := by decide +kernel
theorem dL_law_172 : decode cL_law 172 = .ok (.bipush 14, 2) := by decide +kernel
theorem dL_law_174 : decode cL_law 174 = .ok (.if_icmp .eq 10, 3) := by decide +kernel
theorem dL_law_177 : decode cL_law 177 = .ok (.iload 8, 2) := by decide +kernel
theorem dL_law_179 : decode cL_law 179 = .ok (.bipush 15, 2) := by decide +kernel
theorem dL_law_181 : decode cL_law 181 = .ok (.if_icmp .ne 20, 3) := by decide +kernel
theorem dL_law_184 : decode cL_law 184 = .ok (.iload 12, 2) := by decide +kernel
theorem dL_law_186 : decode cL_law 186 = .ok (.ifCond .lt 15, 3) := by decide +kernel
theorem dL_law_189 : decode cL_law 189 = .ok (.iload 11, 2) := by decide +kernel
theorem dL_law_191 : decode cL_law 191 = .ok (.aload_n 1, 1) := by decide +kernel
theorem dL_law_192 : decode cL_law 192 = .ok (.iload 9, 2) := by decide +kernel
theorem dL_law_194 : decode cL_law 194 = .ok (.invokestatic 159, 3) := by decide +kernel
theorem dL_law_197 : decode cL_law 197 = .ok (.isub, 1) := by decide +kernel
theorem dL_law_198 : decode cL_law 198 = .ok (.goto 4, 3) := by decide +kernel
theorem dL_law_201 : decode cL_law 201 = .ok (.iconst 0, 1) := by decide +kernel
theorem dL_law_202 : decode cL_law 202 = .ok (.iadd, 1) := by decide +kernel
theorem dL_law_203 : decode cL_law 203 = .ok (.iastore, 1) := by decide +kernel
theorem dL_law_204 : decode cL_law 204 = .ok (.iload 5, 2) := by decide +kernel
theorem dL_law_206 : decode cL_law 206 = .ok (.ifCond .eq 66, 3) := by decide +kernel
theorem dL_law_209 : decode cL_law 209 = .ok (.iload 6, 2) := by decide +kernel
theorem dL_law_211 : decode cL_law 211 = .ok (.iconst 3, 1) := by decide +kernel
theorem dL_law_212 : decode cL_law 212 = .ok (.irem, 1) := by decide +kernel
theorem dL_law_213 : decode cL_law 213 = .ok (.ifCond .gt 16, 3) := by decide +kernel
theorem dL_law_216 : decode cL_law 216 = .ok (.aload_n 2, 1) := by decide +kernel
theorem dL_law_217 : decode cL_law 217 = .ok (.iload 7, 2) := by decide +kernel
theorem dL_law_219 : decode cL_law 219 = .ok (.sipush 499, 3) := by decide +kernel
theorem dL_law_222 : decode cL_law 222 = .ok (.irem, 1) := by decide +kernel
theorem dL_law_223 : decode cL_law 223 = .ok (.invokestatic 238, 3) := by decide +kernel
theorem dL_law_226 : decode cL_law 226 = .ok (.ifCond .eq 46, 3) := by decide +kernel
theorem dL_law_229 : decode cL_law 229 = .ok (.iload 6, 2) := by decide +kernel
theorem dL_law_231 : decode cL_law 231 = .ok (.iconst 2, 1) := by decide +kernel
theorem dL_law_232 : decode cL_law 232 = .ok (.irem, 1) := by decide +kernel
theorem dL_law_233 : decode cL_law 233 = .ok (.ifCond .gt 15, 3) := by decide +kernel
theorem dL_law_236 : decode cL_law 236 = .ok (.aload_n 1, 1) := by decide +kernel
theorem dL_law_237 : decode cL_law 237 = .ok (.aload_n 2, 1) := by decide +kernel
theorem dL_law_238 : decode cL_law 238 = .ok (.iload 7, 2) := by decide +kernel
theorem dL_law_240 : decode cL_law 240 = .ok (.iconst 3, 1) := by decide +kernel
theorem dL_law_241 : decode cL_law 241 = .ok (.idiv, 1) := by decide +kernel
theorem dL_law_242 : decode cL_law 242 = .ok (.invokestatic 242, 3) := by decide +kernel
theorem dL_law_245 : decode cL_law 245 = .ok (.ifCond .eq 27, 3) := by decide +kernel
theorem dL_law_248 : decode cL_law 248 = .ok (.iload 6, 2) := by decide +kernel
theorem dL_law_250 : decode cL_law 250 = .ok (.iconst 5, 1) := by decide +kernel
theorem dL_law_251 : decode cL_law 251 = .ok (.irem, 1) := by decide +kernel
theorem dL_law_252 : decode cL_law 252 = .ok (.ifCond .gt 16, 3) := by decide +kernel
theorem dL_law_255 : decode cL_law 255 = .ok (.aload_n 2, 1) := by decide +kernel
theorem dL_law_256 : decode cL_law 256 = .ok (.aload_n 3, 1) := by decide +kernel
theorem dL_law_257 : decode cL_law 257 = .ok (.iload 7, 2) := by decide +kernel
theorem dL_law_259 : decode cL_law 259 = .ok (.bipush 7, 2) := by decide +kernel
theorem dL_law_261 : decode cL_law 261 = .ok (.idiv, 1) := by decide +kernel
theorem dL_law_262 : decode cL_law 262 = .ok (.invokestatic 246, 3) := by decide +kernel
theorem dL_law_265 : decode cL_law 265 = .ok (.ifCond .eq 7, 3) := by decide +kernel
theorem dL_law_268 : decode cL_law 268 = .ok (.iconst 1, 1) := by decide +kernel
theorem dL_law_269 : decode cL_law 269 = .ok (.goto 4, 3) := by decide +kernel
theorem dL_law_272 : decode cL_law 272 = .ok (.iconst 0, 1) := by decide +kernel
theorem dL_law_273 : decode cL_law 273 = .ok (.istore 5, 2) := by decide +kernel
theorem dL_law_275 : decode cL_law 275 = .ok (.iinc 6 1, 3) := by decide +kernel
theorem dL_law_278 : decode cL_law 278 = .ok (.goto (-239), 3) := by decide +kernel
theorem dL_law_281 : decode cL_law 281 = .ok (.iload 5, 2) := by decide +kernel
theorem dL_law_283 : decode cL_law 283 = .ok (.ifCond .eq 47, 3) := by decide +kernel
theorem dL_law_286 : decode cL_law 286 = .ok (.aload_n 1, 1) := by decide +kernel
theorem dL_law_287 : decode cL_law 287 = .ok (.aload_n 3, 1) := by decide +kernel
theorem dL_law_288 : decode cL_law 288 = .ok (.aload_n 0, 1) := by decide +kernel
theorem dL_law_289 : decode cL_law 289 = .ok (.iconst 0, 1) := by decide +kernel
theorem dL_law_290 : decode cL_law 290 = .ok (.invokestatic 230, 3) := by decide +kernel
theorem dL_law_293 : decode cL_law 293 = .ok (.bipush 27, 2) := by decide +kernel
theorem dL_law_295 : decode cL_law 295 = .ok (.idiv, 1) := by decide +kernel
theorem dL_law_296 : decode cL_law 296 = .ok (.invokestatic 246, 3) := by decide +kernel
theorem dL_law_299 : decode cL_law 299 = .ok (.ifCond .eq 31, 3) := by decide +kernel
theorem dL_law_302 : decode cL_law 302 = .ok (.aload_n 1, 1) := by decide +kernel
theorem dL_law_303 : decode cL_law 303 = .ok (.aload_n 3, 1) := by decide +kernel
theorem dL_law_304 : decode cL_law 304 = .ok (.invokestatic 250, 3) := by decide +kernel
theorem dL_law_307 : decode cL_law 307 = .ok (.ifCond .eq 23, 3) := by decide +kernel
theorem dL_law_310 : decode cL_law 310 = .ok (.aload_n 1, 1) := by decide +kernel
theorem dL_law_311 : decode cL_law 311 = .ok (.aload_n 3, 1) := by decide +kernel
theorem dL_law_312 : decode cL_law 312 = .ok (.aload_n 0, 1) := by decide +kernel
theorem dL_law_313 : decode cL_law 313 = .ok (.iconst 0, 1) := by decide +kernel
theorem dL_law_314 : decode cL_law 314 = .ok (.invokestatic 230, 3) := by decide +kernel
theorem dL_law_317 : decode cL_law 317 = .ok (.bipush 29, 2) := by decide +kernel
theorem dL_law_319 : decode cL_law 319 = .ok (.idiv, 1) := by decide +kernel
theorem dL_law_320 : decode cL_law 320 = .ok (.invokestatic 246, 3) := by decide +kernel
theorem dL_law_323 : decode cL_law 323 = .ok (.ifCond .eq 7, 3) := by decide +kernel
theorem dL_law_326 : decode cL_law 326 = .ok (.iconst 1, 1) := by decide +kernel
theorem dL_law_327 : decode cL_law 327 = .ok (.goto 4, 3) := by decide +kernel
theorem dL_law_330 : decode cL_law 330 = .ok (.iconst 0, 1) := by decide +kernel
theorem dL_law_331 : decode cL_law 331 = .ok (.ireturn, 1) := by decide +kernel
