/-! decode rows (printed by TURN) -/
theorem dL_isThere_145 : decode cL_isThere 145 = .ok (.iconst 4, 1) := by decide +kernel
theorem dL_isThere_146 : decode cL_isThere 146 = .ok (.invokevirtual 8, 3) := by decide +kernel
theorem dL_isThere_149 : decode cL_isThere 149 = .ok (.iload 4, 2) := by decide +kernel
theorem dL_isThere_151 : decode cL_isThere 151 = .ok (.if_icmp .ne 17, 3) := by decide +kernel
theorem dL_isThere_154 : decode cL_isThere 154 = .ok (.aload_n 0, 1) := by decide +kernel
theorem dL_isThere_155 : decode cL_isThere 155 = .ok (.iconst 5, 1) := by decide +kernel
theorem dL_isThere_156 : decode cL_isThere 156 = .ok (.invokevirtual 8, 3) := by decide +kernel
theorem dL_isThere_159 : decode cL_isThere 159 = .ok (.iload 5, 2) := by decide +kernel
theorem dL_isThere_161 : decode cL_isThere 161 = .ok (.if_icmp .ne 7, 3) := by decide +kernel
theorem dL_isThere_164 : decode cL_isThere 164 = .ok (.iconst 1, 1) := by decide +kernel
theorem dL_isThere_165 : decode cL_isThere 165 = .ok (.goto 4, 3) := by decide +kernel
theorem dL_isThere_168 : decode cL_isThere 168 = .ok (.iconst 0, 1) := by decide +kernel
theorem dL_isThere_169 : decode cL_isThere 169 = .ok (.ireturn, 1) := by decide +kernel
theorem dL_law_0 : decode cL_law 0 = .ok (.new 9, 3) := by decide +kernel
theorem dL_law_3 : decode cL_law 3 = .ok (.dup, 1) := by decide +kernel
theorem dL_law_4 : decode cL_law 4 = .ok (.invokespecial 18, 3) := by decide +kernel
theorem dL_law_7 : decode cL_law 7 = .ok (.astore_n 1, 1) := by decide +kernel
theorem dL_law_8 : decode cL_law 8 = .ok (.bipush 64, 2) := by decide +kernel
theorem dL_law_10 : decode cL_law 10 = .ok (.newarray .int, 2) := by decide +kernel
theorem dL_law_12 : decode cL_law 12 = .ok (.astore_n 2, 1) := by decide +kernel
theorem dL_law_13 : decode cL_law 13 = .ok (.bipush 64, 2) := by decide +kernel
theorem dL_law_15 : decode cL_law 15 = .ok (.istore_n 3, 1) := by decide +kernel
theorem dL_law_16 : decode cL_law 16 = .ok (.bipush 100, 2) := by decide +kernel
theorem dL_law_18 : decode cL_law 18 = .ok (.aload_n 0, 1) := by decide +kernel
theorem dL_law_19 : decode cL_law 19 = .ok (.iconst 0, 1) := by decide +kernel
theorem dL_law_20 : decode cL_law 20 = .ok (.invokestatic 19, 3) := by decide +kernel
theorem dL_law_23 : decode cL_law 23 = .ok (.sipush 20000, 3) := by decide +kernel
theorem dL_law_26 : decode cL_law 26 = .ok (.irem, 1) := by decide +kernel
theorem dL_law_27 : decode cL_law 27 = .ok (.iadd, 1) := by decide +kernel
theorem dL_law_28 : decode cL_law 28 = .ok (.istore 4, 2) := by decide +kernel
theorem dL_law_30 : decode cL_law 30 = .ok (.aload_n 0, 1) := by decide +kernel
theorem dL_law_31 : decode cL_law 31 = .ok (.iconst 1, 1) := by decide +kernel
theorem dL_law_32 : decode cL_law 32 = .ok (.invokestatic 19, 3) := by decide +kernel
theorem dL_law_35 : decode cL_law 35 = .ok (.sipush 951, 3) := by decide +kernel
theorem dL_law_38 : decode cL_law 38 = .ok (.irem, 1) := by decide +kernel
theorem dL_law_39 : decode cL_law 39 = .ok (.istore 5, 2) := by decide +kernel
theorem dL_law_41 : decode cL_law 41 = .ok (.iconst 1, 1) := by decide +kernel
theorem dL_law_42 : decode cL_law 42 = .ok (.aload_n 0, 1) := by decide +kernel
theorem dL_law_43 : decode cL_law 43 = .ok (.iconst 2, 1) := by decide +kernel
theorem dL_law_44 : decode cL_law 44 = .ok (.invokestatic 19, 3) := by decide +kernel
theorem dL_law_47 : decode cL_law 47 = .ok (.bipush 64, 2) := by decide +kernel
theorem dL_law_49 : decode cL_law 49 = .ok (.irem, 1) := by decide +kernel
theorem dL_law_50 : decode cL_law 50 = .ok (.iadd, 1) := by decide +kernel
theorem dL_law_51 : decode cL_law 51 = .ok (.istore 6, 2) := by decide +kernel
theorem dL_law_53 : decode cL_law 53 = .ok (.aload_n 1, 1) := by decide +kernel
theorem dL_law_54 : decode cL_law 54 = .ok (.iconst 0, 1) := by decide +kernel
theorem dL_law_55 : decode cL_law 55 = .ok (.iload 4, 2) := by decide +kernel
theorem dL_law_57 : decode cL_law 57 = .ok (.invokevirtual 25, 3) := by decide +kernel
theorem dL_law_60 : decode cL_law 60 = .ok (.sipush 16000, 3) := by decide +kernel
theorem dL_law_63 : decode cL_law 63 = .ok (.if_icmp .ne 25, 3) := by decide +kernel
theorem dL_law_66 : decode cL_law 66 = .ok (.aload_n 1, 1) := by decide +kernel
theorem dL_law_67 : decode cL_law 67 = .ok (.iload 6, 2) := by decide +kernel
theorem dL_law_69 : decode cL_law 69 = .ok (.iload 5, 2) := by decide +kernel
theorem dL_law_71 : decode cL_law 71 = .ok (.invokevirtual 29, 3) := by decide +kernel
theorem dL_law_74 : decode cL_law 74 = .ok (.ifCond .ne 14, 3) := by decide +kernel
theorem dL_law_77 : decode cL_law 77 = .ok (.aload_n 1, 1) := by decide +kernel
theorem dL_law_78 : decode cL_law 78 = .ok (.invokevirtual 32, 3) := by decide +kernel
theorem dL_law_81 : decode cL_law 81 = .ok (.ifCond .ne 7, 3) := by decide +kernel
theorem dL_law_84 : decode cL_law 84 = .ok (.iconst 1, 1) := by decide +kernel
theorem dL_law_85 : decode cL_law 85 = .ok (.goto 4, 3) := by decide +kernel
theorem dL_law_88 : decode cL_law 88 = .ok (.iconst 0, 1) := by decide +kernel
theorem dL_law_89 : decode cL_law 89 = .ok (.istore 7, 2) := by decide +kernel
theorem dL_law_91 : decode cL_law 91 = .ok (.iconst 0, 1) := by decide +kernel
theorem dL_law_92 : decode cL_law 92 = .ok (.istore 8, 2) := by decide +kernel
theorem dL_law_94 : decode cL_law 94 = .ok (.iload 8, 2) := by decide +kernel
theorem dL_law_96 : decode cL_law 96 = .ok (.iconst 3, 1) := by decide +kernel
theorem dL_law_97 : decode cL_law 97 = .ok (.if_icmp .ge 60, 3) := by decide +kernel
theorem dL_law_100 : decode cL_law 100 = .ok (.iload 7, 2) := by decide +kernel
theorem dL_law_102 : decode cL_law 102 = .ok (.ifCond .eq 55, 3) := by decide +kernel
theorem dL_law_105 : decode cL_law 105 = .ok (.aload_n 0, 1) := by decide +kernel
theorem dL_law_106 : decode cL_law 106 = .ok (.iconst 3, 1) := by decide +kernel
theorem dL_law_107 : decode cL_law 107 = .ok (.iload 8, 2) := by decide +kernel
theorem dL_law_109 : decode cL_law 109 = .ok (.iadd, 1) := by decide +kernel
theorem dL_law_110 : decode cL_law 110 = .ok (.invokestatic 19, 3) := by decide +kernel
theorem dL_law_113 : decode cL_law 113 = .ok (.istore 9, 2) := by decide +kernel
theorem dL_law_115 : decode cL_law 115 = .ok (.aload_n 1, 1) := by decide +kernel
theorem dL_law_116 : decode cL_law 116 = .ok (.iload 8, 2) := by decide +kernel
theorem dL_law_118 : decode cL_law 118 = .ok (.iconst 1, 1) := by decide +kernel
theorem dL_law_119 : decode cL_law 119 = .ok (.iload 9, 2) := by decide +kernel
theorem dL_law_121 : decode cL_law 121 = .ok (.bipush 64, 2) := by decide +kernel
theorem dL_law_123 : decode cL_law 123 = .ok (.irem, 1) := by decide +kernel
theorem dL_law_124 : decode cL_law 124 = .ok (.iadd, 1) := by decide +kernel
theorem dL_law_125 : decode cL_law 125 = .ok (.iload 9, 2) := by decide +kernel
theorem dL_law_127 : decode cL_law 127 = .ok (.bipush 64, 2) := by decide +kernel
theorem dL_law_129 : decode cL_law 129 = .ok (.idiv, 1) := by decide +kernel
theorem dL_law_130 : decode cL_law 130 = .ok (.sipush 1801, 3) := by decide +kernel
theorem dL_law_133 : decode cL_law 133 = .ok (.irem, 1) := by decide +kernel
theorem dL_law_134 : decode cL_law 134 = .ok (.sipush 900, 3) := by decide +kernel
theorem dL_law_137 : decode cL_law 137 = .ok (.isub, 1) := by decide +kernel
theorem dL_law_138 : decode cL_law 138 = .ok (.invokevirtual 36, 3) := by decide +kernel
theorem dL_law_141 : decode cL_law 141 = .ok (.ifCond .ne 7, 3) := by decide +kernel
theorem dL_law_144 : decode cL_law 144 = .ok (.iconst 1, 1) := by decide +kernel
theorem dL_law_145 : decode cL_law 145 = .ok (.goto 4, 3) := by decide +kernel
theorem dL_law_148 : decode cL_law 148 = .ok (.iconst 0, 1) := by decide +kernel
theorem dL_law_149 : decode cL_law 149 = .ok (.istore 7, 2) := by decide +kernel
theorem dL_law_151 : decode cL_law 151 = .ok (.iinc 8 1, 3) := by decide +kernel
theorem dL_law_154 : decode cL_law 154 = .ok (.goto (-60), 3) := by decide +kernel
theorem dL_law_157 : decode cL_law 157 = .ok (.iconst 5, 1) := by decide +kernel
theorem dL_law_158 : decode cL_law 158 = .ok (.istore 8, 2) := by decide +kernel
theorem dL_law_160 : decode cL_law 160 = .ok (.iconst 0, 1) := by decide +kernel
theorem dL_law_161 : decode cL_law 161 = .ok (.istore 9, 2) := by decide +kernel
theorem dL_law_163 : decode cL_law 163 = .ok (.iconst 0, 1) := by decide +kernel
theorem dL_law_164 : decode cL_law 164 = .ok (.istore 10, 2) := by decide +kernel
theorem dL_law_166 : decode cL_law 166 = .ok (.iload 10, 2) := by decide +kernel
theorem dL_law_168 : decode cL_law 168 = .ok (.bipush 26, 2) := by decide +kernel
theorem dL_law_170 : decode cL_law 170 = .ok (.if_icmp .ge 620, 3) := by decide +kernel
theorem dL_law_173 : decode cL_law 173 = .ok (.iload 7, 2) := by decide +kernel
theorem dL_law_175 : decode cL_law 175 = .ok (.ifCond .eq 615, 3) := by decide +kernel
theorem dL_law_178 : decode cL_law 178 = .ok (.aload_n 0, 1) := by decide +kernel
theorem dL_law_179 : decode cL_law 179 = .ok (.bipush 6, 2) := by decide +kernel
theorem dL_law_181 : decode cL_law 181 = .ok (.iload 10, 2) := by decide +kernel
theorem dL_law_183 : decode cL_law 183 = .ok (.iadd, 1) := by decide +kernel
theorem dL_law_184 : decode cL_law 184 = .ok (.invokestatic 19, 3) := by decide +kernel
theorem dL_law_187 : decode cL_law 187 = .ok (.istore 11, 2) := by decide +kernel
theorem dL_law_189 : decode cL_law 189 = .ok (.iload 11, 2) := by decide +kernel
theorem dL_law_191 : decode cL_law 191 = .ok (.bipush 8, 2) := by decide +kernel
theorem dL_law_193 : decode cL_law 193 = .ok (.idiv, 1) := by decide +kernel
theorem dL_law_194 : decode cL_law 194 = .ok (.istore 12, 2) := by decide +kernel
theorem dL_law_196 : decode cL_law 196 = .ok (.iload 11, 2) := by decide +kernel
theorem dL_law_198 : decode cL_law 198 = .ok (.bipush 8, 2) := by decide +kernel
theorem dL_law_200 : decode cL_law 200 = .ok (.irem, 1) := by decide +kernel
theorem dL_law_201 : decode cL_law 201 = .ok (.ifCond .ne 130, 3) := by decide +kernel
theorem dL_law_204 : decode cL_law 204 = .ok (.iconst 1, 1) := by decide +kernel
theorem dL_law_205 : decode cL_law 205 = .ok (.iload 12, 2) := by decide +kernel
theorem dL_law_207 : decode cL_law 207 = .ok (.bipush 20, 2) := by decide +kernel
theorem dL_law_209 : decode cL_law 209 = .ok (.irem, 1) := by decide +kernel
theorem dL_law_210 : decode cL_law 210 = .ok (.iadd, 1) := by decide +kernel
theorem dL_law_211 : decode cL_law 211 = .ok (.istore 13, 2) := by decide +kernel
theorem dL_law_213 : decode cL_law 213 = .ok (.bipush 64, 2) := by decide +kernel
theorem dL_law_215 : decode cL_law 215 = .ok (.iload_n 3, 1) := by decide +kernel
theorem dL_law_216 : decode cL_law 216 = .ok (.isub, 1) := by decide +kernel
theorem dL_law_217 : decode cL_law 217 = .ok (.iload 13, 2) := by decide +kernel
theorem dL_law_219 : decode cL_law 219 = .ok (.iadd, 1) := by decide +kernel
theorem dL_law_220 : decode cL_law 220 = .ok (.bipush 48, 2) := by decide +kernel
theorem dL_law_222 : decode cL_law 222 = .ok (.if_icmp .le 22, 3) := by decide +kernel
theorem dL_law_225 : decode cL_law 225 = .ok (.aload_n 1, 1) := by decide +kernel
theorem dL_law_226 : decode cL_law 226 = .ok (.iload 13, 2) := by decide +kernel
theorem dL_law_228 : decode cL_law 228 = .ok (.invokevirtual 40, 3) := by decide +kernel
theorem dL_law_231 : decode cL_law 231 = .ok (.ldc 43, 2) := by decide +kernel
theorem dL_law_233 : decode cL_law 233 = .ok (.if_icmp .ne 7, 3) := by decide +kernel
theorem dL_law_236 : decode cL_law 236 = .ok (.iconst 1, 1) := by decide +kernel
theorem dL_law_237 : decode cL_law 237 = .ok (.goto 25, 3) := by decide +kernel
theorem dL_law_240 : decode cL_law 240 = .ok (.iconst 0, 1) := by decide +kernel
theorem dL_law_241 : decode cL_law 241 = .ok (.goto 21, 3) := by decide +kernel
theorem dL_law_244 : decode cL_law 244 = .ok (.aload_n 1, 1) := by decide +kernel
theorem dL_law_245 : decode cL_law 245 = .ok (.iload 13, 2) := by decide +kernel
theorem dL_law_247 : decode cL_law 247 = .ok (.invokevirtual 40, 3) := by decide +kernel
theorem dL_law_250 : decode cL_law 250 = .ok (.iload_n 3, 1) := by decide +kernel
theorem dL_law_251 : decode cL_law 251 = .ok (.iload 13, 2) := by decide +kernel
theorem dL_law_253 : decode cL_law 253 = .ok (.isub, 1) := by decide +kernel
theorem dL_law_254 : decode cL_law 254 = .ok (.if_icmp .ne 7, 3) := by decide +kernel
theorem dL_law_257 : decode cL_law 257 = .ok (.iconst 1, 1) := by decide +kernel
theorem dL_law_258 : decode cL_law 258 = .ok (.goto 4, 3) := by decide +kernel
theorem dL_law_261 : decode cL_law 261 = .ok (.iconst 0, 1) := by decide +kernel
theorem dL_law_262 : decode cL_law 262 = .ok (.istore 7, 2) := by decide +kernel
theorem dL_law_264 : decode cL_law 264 = .ok (.iload 8, 2) := by decide +kernel
theorem dL_law_266 : decode cL_law 266 = .ok (.bipush 64, 2) := by decide +kernel
theorem dL_law_268 : decode cL_law 268 = .ok (.iload_n 3, 1) := by decide +kernel
theorem dL_law_269 : decode cL_law 269 = .ok (.isub, 1) := by decide +kernel
theorem dL_law_270 : decode cL_law 270 = .ok (.iload 13, 2) := by decide +kernel
theorem dL_law_272 : decode cL_law 272 = .ok (.iadd, 1) := by decide +kernel
theorem dL_law_273 : decode cL_law 273 = .ok (.bipush 48, 2) := by decide +kernel
theorem dL_law_275 : decode cL_law 275 = .ok (.if_icmp .le 7, 3) := by decide +kernel
theorem dL_law_278 : decode cL_law 278 = .ok (.iconst 0, 1) := by decide +kernel
theorem dL_law_279 : decode cL_law 279 = .ok (.goto 4, 3) := by decide +kernel
theorem dL_law_282 : decode cL_law 282 = .ok (.iconst 1, 1) := by decide +kernel
theorem dL_law_283 : decode cL_law 283 = .ok (.iadd, 1) := by decide +kernel
theorem dL_law_284 : decode cL_law 284 = .ok (.istore 8, 2) := by decide +kernel
theorem dL_law_286 : decode cL_law 286 = .ok (.iload_n 3, 1) := by decide +kernel
theorem dL_law_287 : decode cL_law 287 = .ok (.bipush 64, 2) := by decide +kernel
theorem dL_law_289 : decode cL_law 289 = .ok (.iload_n 3, 1) := by decide +kernel
theorem dL_law_290 : decode cL_law 290 = .ok (.isub, 1) := by decide +kernel
theorem dL_law_291 : decode cL_law 291 = .ok (.iload 13, 2) := by decide +kernel
theorem dL_law_293 : decode cL_law 293 = .ok (.iadd, 1) := by decide +kernel
theorem dL_law_294 : decode cL_law 294 = .ok (.bipush 48, 2) := by decide +kernel
theorem dL_law_296 : decode cL_law 296 = .ok (.if_icmp .le 7, 3) := by decide +kernel
theorem dL_law_299 : decode cL_law 299 = .ok (.iconst 0, 1) := by decide +kernel
theorem dL_law_300 : decode cL_law 300 = .ok (.goto 5, 3) := by decide +kernel
theorem dL_law_303 : decode cL_law 303 = .ok (.iload 13, 2) := by decide +kernel
theorem dL_law_305 : decode cL_law 305 = .ok (.isub, 1) := by decide +kernel
theorem dL_law_306 : decode cL_law 306 = .ok (.istore_n 3, 1) := by decide +kernel
theorem dL_law_307 : decode cL_law 307 = .ok (.iload_n 3, 1) := by decide +kernel
theorem dL_law_308 : decode cL_law 308 = .ok (.istore 14, 2) := by decide +kernel
theorem dL_law_310 : decode cL_law 310 = .ok (.iload 14, 2) := by decide +kernel
theorem dL_law_312 : decode cL_law 312 = .ok (.bipush 64, 2) := by decide +kernel
theorem dL_law_314 : decode cL_law 314 = .ok (.if_icmp .ge 14, 3) := by decide +kernel
theorem dL_law_317 : decode cL_law 317 = .ok (.aload_n 2, 1) := by decide +kernel
theorem dL_law_318 : decode cL_law 318 = .ok (.iload 14, 2) := by decide +kernel
theorem dL_law_320 : decode cL_law 320 = .ok (.iconst 0, 1) := by decide +kernel
theorem dL_law_321 : decode cL_law 321 = .ok (.iastore, 1) := by decide +kernel
theorem dL_law_322 : decode cL_law 322 = .ok (.iinc 14 1, 3) := by decide +kernel
theorem dL_law_325 : decode cL_law 325 = .ok (.goto (-15), 3) := by decide +kernel
theorem dL_law_328 : decode cL_law 328 = .ok (.goto 404, 3) := by decide +kernel
theorem dL_law_331 : decode cL_law 331 = .ok (.iload 11, 2) := by decide +kernel
theorem dL_law_333 : decode cL_law 333 = .ok (.bipush 8, 2) := by decide +kernel
theorem dL_law_335 : decode cL_law 335 = .ok (.irem, 1) := by decide +kernel
theorem dL_law_336 : decode cL_law 336 = .ok (.iconst 1, 1) := by decide +kernel
theorem dL_law_337 : decode cL_law 337 = .ok (.if_icmp .ne 100, 3) := by decide +kernel
theorem dL_law_340 : decode cL_law 340 = .ok (.iconst 1, 1) := by decide +kernel
theorem dL_law_341 : decode cL_law 341 = .ok (.iload 12, 2) := by decide +kernel
theorem dL_law_343 : decode cL_law 343 = .ok (.bipush 20, 2) := by decide +kernel
theorem dL_law_345 : decode cL_law 345 = .ok (.irem, 1) := by decide +kernel
theorem dL_law_346 : decode cL_law 346 = .ok (.iadd, 1) := by decide +kernel
theorem dL_law_347 : decode cL_law 347 = .ok (.istore 13, 2) := by decide +kernel
theorem dL_law_349 : decode cL_law 349 = .ok (.bipush 64, 2) := by decide +kernel
theorem dL_law_351 : decode cL_law 351 = .ok (.iload_n 3, 1) := by decide +kernel
theorem dL_law_352 : decode cL_law 352 = .ok (.isub, 1) := by decide +kernel
theorem dL_law_353 : decode cL_law 353 = .ok (.iload 13, 2) := by decide +kernel
theorem dL_law_355 : decode cL_law 355 = .ok (.if_icmp .ge 22, 3) := by decide +kernel
theorem dL_law_358 : decode cL_law 358 = .ok (.aload_n 1, 1) := by decide +kernel
theorem dL_law_359 : decode cL_law 359 = .ok (.iload 13, 2) := by decide +kernel
theorem dL_law_361 : decode cL_law 361 = .ok (.invokevirtual 44, 3) := by decide +kernel
theorem dL_law_364 : decode cL_law 364 = .ok (.ldc 47, 2) := by decide +kernel
theorem dL_law_366 : decode cL_law 366 = .ok (.if_icmp .ne 7, 3) := by decide +kernel
theorem dL_law_369 : decode cL_law 369 = .ok (.iconst 1, 1) := by decide +kernel
theorem dL_law_370 : decode cL_law 370 = .ok (.goto 25, 3) := by decide +kernel
theorem dL_law_373 : decode cL_law 373 = .ok (.iconst 0, 1) := by decide +kernel
theorem dL_law_374 : decode cL_law 374 = .ok (.goto 21, 3) := by decide +kernel
theorem dL_law_377 : decode cL_law 377 = .ok (.aload_n 1, 1) := by decide +kernel
theorem dL_law_378 : decode cL_law 378 = .ok (.iload 13, 2) := by decide +kernel
theorem dL_law_380 : decode cL_law 380 = .ok (.invokevirtual 44, 3) := by decide +kernel
theorem dL_law_383 : decode cL_law 383 = .ok (.iload_n 3, 1) := by decide +kernel
theorem dL_law_384 : decode cL_law 384 = .ok (.iload 13, 2) := by decide +kernel
theorem dL_law_386 : decode cL_law 386 = .ok (.iadd, 1) := by decide +kernel
theorem dL_law_387 : decode cL_law 387 = .ok (.if_icmp .ne 7, 3) := by decide +kernel
theorem dL_law_390 : decode cL_law 390 = .ok (.iconst 1, 1) := by decide +kernel
theorem dL_law_391 : decode cL_law 391 = .ok (.goto 4, 3) := by decide +kernel
theorem dL_law_394 : decode cL_law 394 = .ok (.iconst 0, 1) := by decide +kernel
theorem dL_law_395 : decode cL_law 395 = .ok (.istore 7, 2) := by decide +kernel
theorem dL_law_397 : decode cL_law 397 = .ok (.iload 8, 2) := by decide +kernel
theorem dL_law_399 : decode cL_law 399 = .ok (.bipush 64, 2) := by decide +kernel
theorem dL_law_401 : decode cL_law 401 = .ok (.iload_n 3, 1) := by decide +kernel
theorem dL_law_402 : decode cL_law 402 = .ok (.isub, 1) := by decide +kernel
theorem dL_law_403 : decode cL_law 403 = .ok (.iload 13, 2) := by decide +kernel
theorem dL_law_405 : decode cL_law 405 = .ok (.if_icmp .ge 7, 3) := by decide +kernel
theorem dL_law_408 : decode cL_law 408 = .ok (.iconst 0, 1) := by decide +kernel
theorem dL_law_409 : decode cL_law 409 = .ok (.goto 4, 3) := by decide +kernel
theorem dL_law_412 : decode cL_law 412 = .ok (.iconst 1, 1) := by decide +kernel
theorem dL_law_413 : decode cL_law 413 = .ok (.iadd, 1) := by decide +kernel
theorem dL_law_414 : decode cL_law 414 = .ok (.istore 8, 2) := by decide +kernel
theorem dL_law_416 : decode cL_law 416 = .ok (.iload_n 3, 1) := by decide +kernel
theorem dL_law_417 : decode cL_law 417 = .ok (.bipush 64, 2) := by decide +kernel
theorem dL_law_419 : decode cL_law 419 = .ok (.iload_n 3, 1) := by decide +kernel
theorem dL_law_420 : decode cL_law 420 = .ok (.isub, 1) := by decide +kernel
theorem dL_law_421 : decode cL_law 421 = .ok (.iload 13, 2) := by decide +kernel
theorem dL_law_423 : decode cL_law 423 = .ok (.if_icmp .ge 7, 3) := by decide +kernel
theorem dL_law_426 : decode cL_law 426 = .ok (.iconst 0, 1) := by decide +kernel
theorem dL_law_427 : decode cL_law 427 = .ok (.goto 5, 3) := by decide +kernel
theorem dL_law_430 : decode cL_law 430 = .ok (.iload 13, 2) := by decide +kernel
theorem dL_law_432 : decode cL_law 432 = .ok (.iadd, 1) := by decide +kernel
theorem dL_law_433 : decode cL_law 433 = .ok (.istore_n 3, 1) := by decide +kernel
theorem dL_law_434 : decode cL_law 434 = .ok (.goto 298, 3) := by decide +kernel
theorem dL_law_437 : decode cL_law 437 = .ok (.iload 12, 2) := by decide +kernel
theorem dL_law_439 : decode cL_law 439 = .ok (.ldc 48, 2) := by decide +kernel
theorem dL_law_441 : decode cL_law 441 = .ok (.irem, 1) := by decide +kernel
theorem dL_law_442 : decode cL_law 442 = .ok (.sipush 20000, 3) := by decide +kernel
theorem dL_law_445 : decode cL_law 445 = .ok (.isub, 1) := by decide +kernel
theorem dL_law_446 : decode cL_law 446 = .ok (.istore 13, 2) := by decide +kernel
theorem dL_law_448 : decode cL_law 448 = .ok (.iload 13, 2) := by decide +kernel
theorem dL_law_450 : decode cL_law 450 = .ok (.istore 14, 2) := by decide +kernel
theorem dL_law_452 : decode cL_law 452 = .ok (.iconst 0, 1) := by decide +kernel
theorem dL_law_453 : decode cL_law 453 = .ok (.istore 15, 2) := by decide +kernel
theorem dL_law_455 : decode cL_law 455 = .ok (.iload 15, 2) := by decide +kernel
theorem dL_law_457 : decode cL_law 457 = .ok (.iconst 3, 1) := by decide +kernel
theorem dL_law_458 : decode cL_law 458 = .ok (.if_icmp .ge 116, 3) := by decide +kernel
theorem dL_law_461 : decode cL_law 461 = .ok (.iload 7, 2) := by decide +kernel
theorem dL_law_463 : decode cL_law 463 = .ok (.ifCond .eq 111, 3) := by decide +kernel
theorem dL_law_466 : decode cL_law 466 = .ok (.aload_n 1, 1) := by decide +kernel
theorem dL_law_467 : decode cL_law 467 = .ok (.iload 15, 2) := by decide +kernel
theorem dL_law_469 : decode cL_law 469 = .ok (.iconst 0, 1) := by decide +kernel
theorem dL_law_470 : decode cL_law 470 = .ok (.invokevirtual 49, 3) := by decide +kernel
theorem dL_law_473 : decode cL_law 473 = .ok (.istore 16, 2) := by decide +kernel
theorem dL_law_475 : decode cL_law 475 = .ok (.iload 16, 2) := by decide +kernel
theorem dL_law_477 : decode cL_law 477 = .ok (.iload_n 3, 1) := by decide +kernel
theorem dL_law_478 : decode cL_law 478 = .ok (.if_icmp .le 7, 3) := by decide +kernel
theorem dL_law_481 : decode cL_law 481 = .ok (.iconst 0, 1) := by decide +kernel
theorem dL_law_482 : decode cL_law 482 = .ok (.goto 9, 3) := by decide +kernel
theorem dL_law_485 : decode cL_law 485 = .ok (.aload_n 2, 1) := by decide +kernel
theorem dL_law_486 : decode cL_law 486 = .ok (.iload 16, 2) := by decide +kernel
theorem dL_law_488 : decode cL_law 488 = .ok (.iconst 1, 1) := by decide +kernel
theorem dL_law_489 : decode cL_law 489 = .ok (.isub, 1) := by decide +kernel
theorem dL_law_490 : decode cL_law 490 = .ok (.iaload, 1) := by decide +kernel
theorem dL_law_491 : decode cL_law 491 = .ok (.istore 17, 2) := by decide +kernel
theorem dL_law_493 : decode cL_law 493 = .ok (.aload_n 1, 1) := by decide +kernel
theorem dL_law_494 : decode cL_law 494 = .ok (.iload 15, 2) := by decide +kernel
theorem dL_law_496 : decode cL_law 496 = .ok (.iconst 1, 1) := by decide +kernel
theorem dL_law_497 : decode cL_law 497 = .ok (.invokevirtual 49, 3) := by decide +kernel
theorem dL_law_500 : decode cL_law 500 = .ok (.iload 17, 2) := by decide +kernel
theorem dL_law_502 : decode cL_law 502 = .ok (.imul, 1) := by decide +kernel
theorem dL_law_503 : decode cL_law 503 = .ok (.sipush 1000, 3) := by decide +kernel
theorem dL_law_506 : decode cL_law 506 = .ok (.idiv, 1) := by decide +kernel
theorem dL_law_507 : decode cL_law 507 = .ok (.istore 18, 2) := by decide +kernel
theorem dL_law_509 : decode cL_law 509 = .ok (.iload 14, 2) := by decide +kernel
theorem dL_law_511 : decode cL_law 511 = .ok (.iload 18, 2) := by decide +kernel
theorem dL_law_513 : decode cL_law 513 = .ok (.iadd, 1) := by decide +kernel
theorem dL_law_514 : decode cL_law 514 = .ok (.istore 14, 2) := by decide +kernel
theorem dL_law_516 : decode cL_law 516 = .ok (.aload_n 1, 1) := by decide +kernel
theorem dL_law_517 : decode cL_law 517 = .ok (.iload 15, 2) := by decide +kernel
theorem dL_law_519 : decode cL_law 519 = .ok (.iconst 2, 1) := by decide +kernel
theorem dL_law_520 : decode cL_law 520 = .ok (.invokevirtual 49, 3) := by decide +kernel
theorem dL_law_523 : decode cL_law 523 = .ok (.iload 16, 2) := by decide +kernel
theorem dL_law_525 : decode cL_law 525 = .ok (.iload_n 3, 1) := by decide +kernel
theorem dL_law_526 : decode cL_law 526 = .ok (.if_icmp .le 7, 3) := by decide +kernel
theorem dL_law_529 : decode cL_law 529 = .ok (.iconst 1, 1) := by decide +kernel
theorem dL_law_530 : decode cL_law 530 = .ok (.goto 4, 3) := by decide +kernel
theorem dL_law_533 : decode cL_law 533 = .ok (.iconst 0, 1) := by decide +kernel
theorem dL_law_534 : decode cL_law 534 = .ok (.if_icmp .ne 31, 3) := by decide +kernel
theorem dL_law_537 : decode cL_law 537 = .ok (.aload_n 1, 1) := by decide +kernel
theorem dL_law_538 : decode cL_law 538 = .ok (.iload 15, 2) := by decide +kernel
theorem dL_law_540 : decode cL_law 540 = .ok (.iconst 3, 1) := by decide +kernel
theorem dL_law_541 : decode cL_law 541 = .ok (.invokevirtual 49, 3) := by decide +kernel
theorem dL_law_544 : decode cL_law 544 = .ok (.iload 17, 2) := by decide +kernel
theorem dL_law_546 : decode cL_law 546 = .ok (.if_icmp .ne 19, 3) := by decide +kernel
theorem dL_law_549 : decode cL_law 549 = .ok (.aload_n 1, 1) := by decide +kernel
theorem dL_law_550 : decode cL_law 550 = .ok (.iload 15, 2) := by decide +kernel
theorem dL_law_552 : decode cL_law 552 = .ok (.iconst 4, 1) := by decide +kernel
theorem dL_law_553 : decode cL_law 553 = .ok (.invokevirtual 49, 3) := by decide +kernel
theorem dL_law_556 : decode cL_law 556 = .ok (.iload 18, 2) := by decide +kernel
theorem dL_law_558 : decode cL_law 558 = .ok (.if_icmp .ne 7, 3) := by decide +kernel
theorem dL_law_561 : decode cL_law 561 = .ok (.iconst 1, 1) := by decide +kernel
theorem dL_law_562 : decode cL_law 562 = .ok (.goto 4, 3) := by decide +kernel
theorem dL_law_565 : decode cL_law 565 = .ok (.iconst 0, 1) := by decide +kernel
theorem dL_law_566 : decode cL_law 566 = .ok (.istore 7, 2) := by decide +kernel
theorem dL_law_568 : decode cL_law 568 = .ok (.iinc 15 1, 3) := by decide +kernel
theorem dL_law_571 : decode cL_law 571 = .ok (.goto (-116), 3) := by decide +kernel
theorem dL_law_574 : decode cL_law 574 = .ok (.iload 13, 2) := by decide +kernel
theorem dL_law_576 : decode cL_law 576 = .ok (.iload 6, 2) := by decide +kernel
theorem dL_law_578 : decode cL_law 578 = .ok (.iload_n 3, 1) := by decide +kernel
theorem dL_law_579 : decode cL_law 579 = .ok (.if_icmp .le 7, 3) := by decide +kernel
theorem dL_law_582 : decode cL_law 582 = .ok (.iconst 0, 1) := by decide +kernel
theorem dL_law_583 : decode cL_law 583 = .ok (.goto 16, 3) := by decide +kernel
theorem dL_law_586 : decode cL_law 586 = .ok (.iload 5, 2) := by decide +kernel
theorem dL_law_588 : decode cL_law 588 = .ok (.aload_n 2, 1) := by decide +kernel
theorem dL_law_589 : decode cL_law 589 = .ok (.iload 6, 2) := by decide +kernel
theorem dL_law_591 : decode cL_law 591 = .ok (.iconst 1, 1) := by decide +kernel
theorem dL_law_592 : decode cL_law 592 = .ok (.isub, 1) := by decide +kernel
theorem dL_law_593 : decode cL_law 593 = .ok (.iaload, 1) := by decide +kernel
theorem dL_law_594 : decode cL_law 594 = .ok (.imul, 1) := by decide +kernel
theorem dL_law_595 : decode cL_law 595 = .ok (.sipush 1000, 3) := by decide +kernel
theorem dL_law_598 : decode cL_law 598 = .ok (.idiv, 1) := by decide +kernel
theorem dL_law_599 : decode cL_law 599 = .ok (.iadd, 1) := by decide +kernel
theorem dL_law_600 : decode cL_law 600 = .ok (.istore 15, 2) := by decide +kernel
theorem dL_law_602 : decode cL_law 602 = .ok (.iload 14, 2) := by decide +kernel
theorem dL_law_604 : decode cL_law 604 = .ok (.iload 4, 2) := by decide +kernel
theorem dL_law_606 : decode cL_law 606 = .ok (.if_icmp .le 8, 3) := by decide +kernel
theorem dL_law_609 : decode cL_law 609 = .ok (.iload 4, 2) := by decide +kernel
theorem dL_law_611 : decode cL_law 611 = .ok (.goto 19, 3) := by decide +kernel
theorem dL_law_614 : decode cL_law 614 = .ok (.iload 14, 2) := by decide +kernel
theorem dL_law_616 : decode cL_law 616 = .ok (.iload 4, 2) := by decide +kernel
theorem dL_law_618 : decode cL_law 618 = .ok (.ineg, 1) := by decide +kernel
theorem dL_law_619 : decode cL_law 619 = .ok (.if_icmp .ge 9, 3) := by decide +kernel
theorem dL_law_622 : decode cL_law 622 = .ok (.iload 4, 2) := by decide +kernel
theorem dL_law_624 : decode cL_law 624 = .ok (.ineg, 1) := by decide +kernel
theorem dL_law_625 : decode cL_law 625 = .ok (.goto 5, 3) := by decide +kernel
theorem dL_law_628 : decode cL_law 628 = .ok (.iload 14, 2) := by decide +kernel
theorem dL_law_630 : decode cL_law 630 = .ok (.istore 14, 2) := by decide +kernel
theorem dL_law_632 : decode cL_law 632 = .ok (.iload 15, 2) := by decide +kernel
theorem dL_law_634 : decode cL_law 634 = .ok (.iload 4, 2) := by decide +kernel
theorem dL_law_636 : decode cL_law 636 = .ok (.if_icmp .le 8, 3) := by decide +kernel
theorem dL_law_639 : decode cL_law 639 = .ok (.iload 4, 2) := by decide +kernel
theorem dL_law_641 : decode cL_law 641 = .ok (.goto 19, 3) := by decide +kernel
theorem dL_law_644 : decode cL_law 644 = .ok (.iload 15, 2) := by decide +kernel
theorem dL_law_646 : decode cL_law 646 = .ok (.iload 4, 2) := by decide +kernel
theorem dL_law_648 : decode cL_law 648 = .ok (.ineg, 1) := by decide +kernel
theorem dL_law_649 : decode cL_law 649 = .ok (.if_icmp .ge 9, 3) := by decide +kernel
theorem dL_law_652 : decode cL_law 652 = .ok (.iload 4, 2) := by decide +kernel
theorem dL_law_654 : decode cL_law 654 = .ok (.ineg, 1) := by decide +kernel
theorem dL_law_655 : decode cL_law 655 = .ok (.goto 5, 3) := by decide +kernel
theorem dL_law_658 : decode cL_law 658 = .ok (.iload 15, 2) := by decide +kernel
theorem dL_law_660 : decode cL_law 660 = .ok (.istore 15, 2) := by decide +kernel
theorem dL_law_662 : decode cL_law 662 = .ok (.iload 7, 2) := by decide +kernel
theorem dL_law_664 : decode cL_law 664 = .ok (.ifCond .eq 28, 3) := by decide +kernel
theorem dL_law_667 : decode cL_law 667 = .ok (.aload_n 1, 1) := by decide +kernel
theorem dL_law_668 : decode cL_law 668 = .ok (.iload 13, 2) := by decide +kernel
theorem dL_law_670 : decode cL_law 670 = .ok (.invokevirtual 52, 3) := by decide +kernel
theorem dL_law_673 : decode cL_law 673 = .ok (.iload 14, 2) := by decide +kernel
theorem dL_law_675 : decode cL_law 675 = .ok (.if_icmp .ne 17, 3) := by decide +kernel
theorem dL_law_678 : decode cL_law 678 = .ok (.aload_n 1, 1) := by decide +kernel
theorem dL_law_679 : decode cL_law 679 = .ok (.iconst 0, 1) := by decide +kernel
theorem dL_law_680 : decode cL_law 680 = .ok (.invokevirtual 55, 3) := by decide +kernel
theorem dL_law_683 : decode cL_law 683 = .ok (.iload 14, 2) := by decide +kernel
theorem dL_law_685 : decode cL_law 685 = .ok (.if_icmp .ne 7, 3) := by decide +kernel
theorem dL_law_688 : decode cL_law 688 = .ok (.iconst 1, 1) := by decide +kernel
theorem dL_law_689 : decode cL_law 689 = .ok (.goto 4, 3) := by decide +kernel
theorem dL_law_692 : decode cL_law 692 = .ok (.iconst 0, 1) := by decide +kernel
theorem dL_law_693 : decode cL_law 693 = .ok (.istore 7, 2) := by decide +kernel
theorem dL_law_695 : decode cL_law 695 = .ok (.iload_n 3, 1) := by decide +kernel
theorem dL_law_696 : decode cL_law 696 = .ok (.iconst 1, 1) := by decide +kernel
theorem dL_law_697 : decode cL_law 697 = .ok (.isub, 1) := by decide +kernel
theorem dL_law_698 : decode cL_law 698 = .ok (.istore 16, 2) := by decide +kernel
theorem dL_law_700 : decode cL_law 700 = .ok (.iload 16, 2) := by decide +kernel
theorem dL_law_702 : decode cL_law 702 = .ok (.ifCond .le 19, 3) := by decide +kernel
theorem dL_law_705 : decode cL_law 705 = .ok (.aload_n 2, 1) := by decide +kernel
theorem dL_law_706 : decode cL_law 706 = .ok (.iload 16, 2) := by decide +kernel
theorem dL_law_708 : decode cL_law 708 = .ok (.aload_n 2, 1) := by decide +kernel
theorem dL_law_709 : decode cL_law 709 = .ok (.iload 16, 2) := by decide +kernel
theorem dL_law_711 : decode cL_law 711 = .ok (.iconst 1, 1) := by decide +kernel
theorem dL_law_712 : decode cL_law 712 = .ok (.isub, 1) := by decide +kernel
theorem dL_law_713 : decode cL_law 713 = .ok (.iaload, 1) := by decide +kernel
theorem dL_law_714 : decode cL_law 714 = .ok (.iastore, 1) := by decide +kernel
theorem dL_law_715 : decode cL_law 715 = .ok (.iinc 16 (-1), 3) := by decide +kernel
theorem dL_law_718 : decode cL_law 718 = .ok (.goto (-18), 3) := by decide +kernel
theorem dL_law_721 : decode cL_law 721 = .ok (.aload_n 2, 1) := by decide +kernel
theorem dL_law_722 : decode cL_law 722 = .ok (.iconst 0, 1) := by decide +kernel
theorem dL_law_723 : decode cL_law 723 = .ok (.iload 15, 2) := by decide +kernel
theorem dL_law_725 : decode cL_law 725 = .ok (.iastore, 1) := by decide +kernel
theorem dL_law_726 : decode cL_law 726 = .ok (.iinc 9 1, 3) := by decide +kernel
theorem dL_law_729 : decode cL_law 729 = .ok (.iinc 8 1, 3) := by decide +kernel
theorem dL_law_732 : decode cL_law 732 = .ok (.iload 7, 2) := by decide +kernel
theorem dL_law_734 : decode cL_law 734 = .ok (.ifCond .eq 47, 3) := by decide +kernel
theorem dL_law_737 : decode cL_law 737 = .ok (.aload_n 1, 1) := by decide +kernel
theorem dL_law_738 : decode cL_law 738 = .ok (.aload_n 2, 1) := by decide +kernel
theorem dL_law_739 : decode cL_law 739 = .ok (.iload_n 3, 1) := by decide +kernel
theorem dL_law_740 : decode cL_law 740 = .ok (.invokestatic 58, 3) := by decide +kernel
theorem dL_law_743 : decode cL_law 743 = .ok (.ifCond .eq 38, 3) := by decide +kernel
theorem dL_law_746 : decode cL_law 746 = .ok (.aload_n 1, 1) := by decide +kernel
theorem dL_law_747 : decode cL_law 747 = .ok (.iconst 0, 1) := by decide +kernel
theorem dL_law_748 : decode cL_law 748 = .ok (.invokevirtual 62, 3) := by decide +kernel
theorem dL_law_751 : decode cL_law 751 = .ok (.iload 9, 2) := by decide +kernel
theorem dL_law_753 : decode cL_law 753 = .ok (.if_icmp .ne 28, 3) := by decide +kernel
theorem dL_law_756 : decode cL_law 756 = .ok (.aload_n 1, 1) := by decide +kernel
theorem dL_law_757 : decode cL_law 757 = .ok (.bipush 7, 2) := by decide +kernel
theorem dL_law_759 : decode cL_law 759 = .ok (.invokevirtual 8, 3) := by decide +kernel
theorem dL_law_762 : decode cL_law 762 = .ok (.iload 8, 2) := by decide +kernel
theorem dL_law_764 : decode cL_law 764 = .ok (.iconst 4, 1) := by decide +kernel
theorem dL_law_765 : decode cL_law 765 = .ok (.if_icmp .le 7, 3) := by decide +kernel
theorem dL_law_768 : decode cL_law 768 = .ok (.iconst 4, 1) := by decide +kernel
theorem dL_law_769 : decode cL_law 769 = .ok (.goto 5, 3) := by decide +kernel
theorem dL_law_772 : decode cL_law 772 = .ok (.iload 8, 2) := by decide +kernel
theorem dL_law_774 : decode cL_law 774 = .ok (.if_icmp .ne 7, 3) := by decide +kernel
theorem dL_law_777 : decode cL_law 777 = .ok (.iconst 1, 1) := by decide +kernel
theorem dL_law_778 : decode cL_law 778 = .ok (.goto 4, 3) := by decide +kernel
theorem dL_law_781 : decode cL_law 781 = .ok (.iconst 0, 1) := by decide +kernel
theorem dL_law_782 : decode cL_law 782 = .ok (.istore 7, 2) := by decide +kernel
theorem dL_law_784 : decode cL_law 784 = .ok (.iinc 10 1, 3) := by decide +kernel
theorem dL_law_787 : decode cL_law 787 = .ok (.goto (-621), 3) := by decide +kernel
theorem dL_law_790 : decode cL_law 790 = .ok (.aload_n 2, 1) := by decide +kernel
theorem dL_law_791 : decode cL_law 791 = .ok (.iconst 0, 1) := by decide +kernel
theorem dL_law_792 : decode cL_law 792 = .ok (.iaload, 1) := by decide +kernel
theorem dL_law_793 : decode cL_law 793 = .ok (.istore 10, 2) := by decide +kernel
theorem dL_law_795 : decode cL_law 795 = .ok (.iload 7, 2) := by decide +kernel
theorem dL_law_797 : decode cL_law 797 = .ok (.ifCond .eq 12, 3) := by decide +kernel
theorem dL_law_800 : decode cL_law 800 = .ok (.aload_n 1, 1) := by decide +kernel
theorem dL_law_801 : decode cL_law 801 = .ok (.iconst 0, 1) := by decide +kernel
theorem dL_law_802 : decode cL_law 802 = .ok (.iconst 0, 1) := by decide +kernel
theorem dL_law_803 : decode cL_law 803 = .ok (.invokevirtual 49, 3) := by decide +kernel
theorem dL_law_806 : decode cL_law 806 = .ok (.goto 4, 3) := by decide +kernel
theorem dL_law_809 : decode cL_law 809 = .ok (.iconst 0, 1) := by decide +kernel
theorem dL_law_810 : decode cL_law 810 = .ok (.istore 11, 2) := by decide +kernel
theorem dL_law_812 : decode cL_law 812 = .ok (.iload 7, 2) := by decide +kernel
theorem dL_law_814 : decode cL_law 814 = .ok (.ifCond .eq 70, 3) := by decide +kernel
theorem dL_law_817 : decode cL_law 817 = .ok (.aload_n 1, 1) := by decide +kernel
theorem dL_law_818 : decode cL_law 818 = .ok (.bipush 7, 2) := by decide +kernel
theorem dL_law_820 : decode cL_law 820 = .ok (.invokevirtual 52, 3) := by decide +kernel
theorem dL_law_823 : decode cL_law 823 = .ok (.ldc 65, 2) := by decide +kernel
theorem dL_law_825 : decode cL_law 825 = .ok (.if_icmp .le 59, 3) := by decide +kernel
theorem dL_law_828 : decode cL_law 828 = .ok (.aload_n 1, 1) := by decide +kernel
theorem dL_law_829 : decode cL_law 829 = .ok (.invokevirtual 66, 3) := by decide +kernel
theorem dL_law_832 : decode cL_law 832 = .ok (.iconst 3, 1) := by decide +kernel
theorem dL_law_833 : decode cL_law 833 = .ok (.if_icmp .ne 51, 3) := by decide +kernel
theorem dL_law_836 : decode cL_law 836 = .ok (.aload_n 1, 1) := by decide +kernel
theorem dL_law_837 : decode cL_law 837 = .ok (.iconst 0, 1) := by decide +kernel
theorem dL_law_838 : decode cL_law 838 = .ok (.invokevirtual 14, 3) := by decide +kernel
theorem dL_law_841 : decode cL_law 841 = .ok (.iload 10, 2) := by decide +kernel
theorem dL_law_843 : decode cL_law 843 = .ok (.if_icmp .ne 41, 3) := by decide +kernel
theorem dL_law_846 : decode cL_law 846 = .ok (.aload_n 1, 1) := by decide +kernel
theorem dL_law_847 : decode cL_law 847 = .ok (.sipush 20001, 3) := by decide +kernel
theorem dL_law_850 : decode cL_law 850 = .ok (.invokevirtual 52, 3) := by decide +kernel
theorem dL_law_853 : decode cL_law 853 = .ok (.ldc 65, 2) := by decide +kernel
theorem dL_law_855 : decode cL_law 855 = .ok (.if_icmp .ne 29, 3) := by decide +kernel
theorem dL_law_858 : decode cL_law 858 = .ok (.aload_n 1, 1) := by decide +kernel
theorem dL_law_859 : decode cL_law 859 = .ok (.iconst 0, 1) := by decide +kernel
theorem dL_law_860 : decode cL_law 860 = .ok (.invokevirtual 40, 3) := by decide +kernel
theorem dL_law_863 : decode cL_law 863 = .ok (.ldc 65, 2) := by decide +kernel
theorem dL_law_865 : decode cL_law 865 = .ok (.if_icmp .ne 19, 3) := by decide +kernel
theorem dL_law_868 : decode cL_law 868 = .ok (.aload_n 1, 1) := by decide +kernel
theorem dL_law_869 : decode cL_law 869 = .ok (.iconst 4, 1) := by decide +kernel
theorem dL_law_870 : decode cL_law 870 = .ok (.iconst 1, 1) := by decide +kernel
theorem dL_law_871 : decode cL_law 871 = .ok (.iconst 1, 1) := by decide +kernel
theorem dL_law_872 : decode cL_law 872 = .ok (.invokevirtual 36, 3) := by decide +kernel
theorem dL_law_875 : decode cL_law 875 = .ok (.ldc 65, 2) := by decide +kernel
theorem dL_law_877 : decode cL_law 877 = .ok (.if_icmp .ne 7, 3) := by decide +kernel
theorem dL_law_880 : decode cL_law 880 = .ok (.iconst 1, 1) := by decide +kernel
theorem dL_law_881 : decode cL_law 881 = .ok (.goto 4, 3) := by decide +kernel
theorem dL_law_884 : decode cL_law 884 = .ok (.iconst 0, 1) := by decide +kernel
theorem dL_law_885 : decode cL_law 885 = .ok (.istore 7, 2) := by decide +kernel
theorem dL_law_887 : decode cL_law 887 = .ok (.iload 7, 2) := by decide +kernel
theorem dL_law_889 : decode cL_law 889 = .ok (.ifCond .eq 60, 3) := by decide +kernel
theorem dL_law_892 : decode cL_law 892 = .ok (.aload_n 1, 1) := by decide +kernel
theorem dL_law_893 : decode cL_law 893 = .ok (.iconst 3, 1) := by decide +kernel
theorem dL_law_894 : decode cL_law 894 = .ok (.invokevirtual 69, 3) := by decide +kernel
theorem dL_law_897 : decode cL_law 897 = .ok (.ldc 47, 2) := by decide +kernel
theorem dL_law_899 : decode cL_law 899 = .ok (.if_icmp .ne 50, 3) := by decide +kernel
theorem dL_law_902 : decode cL_law 902 = .ok (.aload_n 1, 1) := by decide +kernel
theorem dL_law_903 : decode cL_law 903 = .ok (.iconst 0, 1) := by decide +kernel
theorem dL_law_904 : decode cL_law 904 = .ok (.invokevirtual 69, 3) := by decide +kernel
theorem dL_law_907 : decode cL_law 907 = .ok (.iload 11, 2) := by decide +kernel
theorem dL_law_909 : decode cL_law 909 = .ok (.if_icmp .ne 40, 3) := by decide +kernel
theorem dL_law_912 : decode cL_law 912 = .ok (.aload_n 1, 1) := by decide +kernel
theorem dL_law_913 : decode cL_law 913 = .ok (.iconst 0, 1) := by decide +kernel
theorem dL_law_914 : decode cL_law 914 = .ok (.iconst 0, 1) := by decide +kernel
theorem dL_law_915 : decode cL_law 915 = .ok (.invokevirtual 49, 3) := by decide +kernel
theorem dL_law_918 : decode cL_law 918 = .ok (.ldc 17, 2) := by decide +kernel
theorem dL_law_920 : decode cL_law 920 = .ok (.if_icmp .ne 29, 3) := by decide +kernel
theorem dL_law_923 : decode cL_law 923 = .ok (.aload_n 1, 1) := by decide +kernel
theorem dL_law_924 : decode cL_law 924 = .ok (.iconst 3, 1) := by decide +kernel
theorem dL_law_925 : decode cL_law 925 = .ok (.iconst 1, 1) := by decide +kernel
theorem dL_law_926 : decode cL_law 926 = .ok (.invokevirtual 49, 3) := by decide +kernel
theorem dL_law_929 : decode cL_law 929 = .ok (.ldc 17, 2) := by decide +kernel
theorem dL_law_931 : decode cL_law 931 = .ok (.if_icmp .ne 18, 3) := by decide +kernel
theorem dL_law_934 : decode cL_law 934 = .ok (.aload_n 1, 1) := by decide +kernel
theorem dL_law_935 : decode cL_law 935 = .ok (.iconst 5, 1) := by decide +kernel
theorem dL_law_936 : decode cL_law 936 = .ok (.iconst 0, 1) := by decide +kernel
theorem dL_law_937 : decode cL_law 937 = .ok (.invokevirtual 49, 3) := by decide +kernel
theorem dL_law_940 : decode cL_law 940 = .ok (.ldc 65, 2) := by decide +kernel
theorem dL_law_942 : decode cL_law 942 = .ok (.if_icmp .ne 7, 3) := by decide +kernel
theorem dL_law_945 : decode cL_law 945 = .ok (.iconst 1, 1) := by decide +kernel
theorem dL_law_946 : decode cL_law 946 = .ok (.goto 4, 3) := by decide +kernel
theorem dL_law_949 : decode cL_law 949 = .ok (.iconst 0, 1) := by decide +kernel
theorem dL_law_950 : decode cL_law 950 = .ok (.ireturn, 1) := by decide +kernel
