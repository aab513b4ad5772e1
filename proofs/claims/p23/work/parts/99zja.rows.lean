/-! THE LAW: its rows -/
theorem dL_law_0 : decode cL_law 0 = .ok (.new 33, 3) := by decide +kernel
theorem dL_law_3 : decode cL_law 3 = .ok (.dup, 1) := by decide +kernel
theorem dL_law_4 : decode cL_law 4 = .ok (.invokespecial 118, 3) := by decide +kernel
theorem dL_law_7 : decode cL_law 7 = .ok (.astore_n 1, 1) := by decide +kernel
theorem dL_law_8 : decode cL_law 8 = .ok (.aload_n 1, 1) := by decide +kernel
theorem dL_law_9 : decode cL_law 9 = .ok (.aload_n 0, 1) := by decide +kernel
theorem dL_law_10 : decode cL_law 10 = .ok (.invokestatic 119, 3) := by decide +kernel
theorem dL_law_13 : decode cL_law 13 = .ok (.astore_n 2, 1) := by decide +kernel
theorem dL_law_14 : decode cL_law 14 = .ok (.aload_n 2, 1) := by decide +kernel
theorem dL_law_15 : decode cL_law 15 = .ok (.ifnonnull 5, 3) := by decide +kernel
theorem dL_law_18 : decode cL_law 18 = .ok (.iconst 0, 1) := by decide +kernel
theorem dL_law_19 : decode cL_law 19 = .ok (.ireturn, 1) := by decide +kernel
theorem dL_law_20 : decode cL_law 20 = .ok (.iconst 0, 1) := by decide +kernel
theorem dL_law_21 : decode cL_law 21 = .ok (.istore_n 3, 1) := by decide +kernel
theorem dL_law_22 : decode cL_law 22 = .ok (.iconst 0, 1) := by decide +kernel
theorem dL_law_23 : decode cL_law 23 = .ok (.istore 4, 2) := by decide +kernel
theorem dL_law_25 : decode cL_law 25 = .ok (.iconst 0, 1) := by decide +kernel
theorem dL_law_26 : decode cL_law 26 = .ok (.istore 5, 2) := by decide +kernel
theorem dL_law_28 : decode cL_law 28 = .ok (.iload 5, 2) := by decide +kernel
theorem dL_law_30 : decode cL_law 30 = .ok (.bipush 16, 2) := by decide +kernel
theorem dL_law_32 : decode cL_law 32 = .ok (.if_icmp .ge 960, 3) := by decide +kernel
theorem dL_law_35 : decode cL_law 35 = .ok (.aload_n 0, 1) := by decide +kernel
theorem dL_law_36 : decode cL_law 36 = .ok (.iload 5, 2) := by decide +kernel
theorem dL_law_38 : decode cL_law 38 = .ok (.invokestatic 109, 3) := by decide +kernel
theorem dL_law_41 : decode cL_law 41 = .ok (.iconst 2, 1) := by decide +kernel
theorem dL_law_42 : decode cL_law 42 = .ok (.ishr, 1) := by decide +kernel
theorem dL_law_43 : decode cL_law 43 = .ok (.bipush 53, 2) := by decide +kernel
theorem dL_law_45 : decode cL_law 45 = .ok (.iload 5, 2) := by decide +kernel
theorem dL_law_47 : decode cL_law 47 = .ok (.imul, 1) := by decide +kernel
theorem dL_law_48 : decode cL_law 48 = .ok (.iadd, 1) := by decide +kernel
theorem dL_law_49 : decode cL_law 49 = .ok (.istore 6, 2) := by decide +kernel
theorem dL_law_51 : decode cL_law 51 = .ok (.iconst 0, 1) := by decide +kernel
theorem dL_law_52 : decode cL_law 52 = .ok (.istore 7, 2) := by decide +kernel
theorem dL_law_54 : decode cL_law 54 = .ok (.iload 7, 2) := by decide +kernel
theorem dL_law_56 : decode cL_law 56 = .ok (.iconst 2, 1) := by decide +kernel
theorem dL_law_57 : decode cL_law 57 = .ok (.if_icmp .ge 32, 3) := by decide +kernel
theorem dL_law_60 : decode cL_law 60 = .ok (.aload_n 1, 1) := by decide +kernel
theorem dL_law_61 : decode cL_law 61 = .ok (.aload_n 2, 1) := by decide +kernel
theorem dL_law_62 : decode cL_law 62 = .ok (.iload 6, 2) := by decide +kernel
theorem dL_law_64 : decode cL_law 64 = .ok (.iconst 3, 1) := by decide +kernel
theorem dL_law_65 : decode cL_law 65 = .ok (.iload 7, 2) := by decide +kernel
theorem dL_law_67 : decode cL_law 67 = .ok (.imul, 1) := by decide +kernel
theorem dL_law_68 : decode cL_law 68 = .ok (.ishr, 1) := by decide +kernel
theorem dL_law_69 : decode cL_law 69 = .ok (.bipush 29, 2) := by decide +kernel
theorem dL_law_71 : decode cL_law 71 = .ok (.iload 7, 2) := by decide +kernel
theorem dL_law_73 : decode cL_law 73 = .ok (.imul, 1) := by decide +kernel
theorem dL_law_74 : decode cL_law 74 = .ok (.iadd, 1) := by decide +kernel
theorem dL_law_75 : decode cL_law 75 = .ok (.invokestatic 123, 3) := by decide +kernel
theorem dL_law_78 : decode cL_law 78 = .ok (.ifCond .ne 5, 3) := by decide +kernel
theorem dL_law_81 : decode cL_law 81 = .ok (.iconst 0, 1) := by decide +kernel
theorem dL_law_82 : decode cL_law 82 = .ok (.ireturn, 1) := by decide +kernel
theorem dL_law_83 : decode cL_law 83 = .ok (.iinc 7 1, 3) := by decide +kernel
theorem dL_law_86 : decode cL_law 86 = .ok (.goto (-32), 3) := by decide +kernel
theorem dL_law_89 : decode cL_law 89 = .ok (.aload_n 1, 1) := by decide +kernel
theorem dL_law_90 : decode cL_law 90 = .ok (.iconst 3, 1) := by decide +kernel
theorem dL_law_91 : decode cL_law 91 = .ok (.invokevirtual 127, 3) := by decide +kernel
theorem dL_law_94 : decode cL_law 94 = .ok (.iload_n 3, 1) := by decide +kernel
theorem dL_law_95 : decode cL_law 95 = .ok (.if_icmp .lt 13, 3) := by decide +kernel
theorem dL_law_98 : decode cL_law 98 = .ok (.aload_n 1, 1) := by decide +kernel
theorem dL_law_99 : decode cL_law 99 = .ok (.iconst 4, 1) := by decide +kernel
theorem dL_law_100 : decode cL_law 100 = .ok (.invokevirtual 127, 3) := by decide +kernel
theorem dL_law_103 : decode cL_law 103 = .ok (.iload 4, 2) := by decide +kernel
theorem dL_law_105 : decode cL_law 105 = .ok (.if_icmp .ge 5, 3) := by decide +kernel
theorem dL_law_108 : decode cL_law 108 = .ok (.iconst 0, 1) := by decide +kernel
theorem dL_law_109 : decode cL_law 109 = .ok (.ireturn, 1) := by decide +kernel
theorem dL_law_110 : decode cL_law 110 = .ok (.aload_n 1, 1) := by decide +kernel
theorem dL_law_111 : decode cL_law 111 = .ok (.iconst 3, 1) := by decide +kernel
theorem dL_law_112 : decode cL_law 112 = .ok (.invokevirtual 127, 3) := by decide +kernel
theorem dL_law_115 : decode cL_law 115 = .ok (.istore_n 3, 1) := by decide +kernel
theorem dL_law_116 : decode cL_law 116 = .ok (.aload_n 1, 1) := by decide +kernel
theorem dL_law_117 : decode cL_law 117 = .ok (.iconst 4, 1) := by decide +kernel
theorem dL_law_118 : decode cL_law 118 = .ok (.invokevirtual 127, 3) := by decide +kernel
theorem dL_law_121 : decode cL_law 121 = .ok (.istore 4, 2) := by decide +kernel
theorem dL_law_123 : decode cL_law 123 = .ok (.aload_n 1, 1) := by decide +kernel
theorem dL_law_124 : decode cL_law 124 = .ok (.invokevirtual 130, 3) := by decide +kernel
theorem dL_law_127 : decode cL_law 127 = .ok (.lstore 7, 2) := by decide +kernel
theorem dL_law_129 : decode cL_law 129 = .ok (.aload_n 1, 1) := by decide +kernel
theorem dL_law_130 : decode cL_law 130 = .ok (.iconst 0, 1) := by decide +kernel
theorem dL_law_131 : decode cL_law 131 = .ok (.invokevirtual 127, 3) := by decide +kernel
theorem dL_law_134 : decode cL_law 134 = .ok (.istore 9, 2) := by decide +kernel
theorem dL_law_136 : decode cL_law 136 = .ok (.iload 9, 2) := by decide +kernel
theorem dL_law_138 : decode cL_law 138 = .ok (.bipush 10, 2) := by decide +kernel
theorem dL_law_140 : decode cL_law 140 = .ok (.multianewarray 134 2, 4) := by decide +kernel
theorem dL_law_144 : decode cL_law 144 = .ok (.astore 10, 2) := by decide +kernel
theorem dL_law_146 : decode cL_law 146 = .ok (.iconst 0, 1) := by decide +kernel
theorem dL_law_147 : decode cL_law 147 = .ok (.istore 11, 2) := by decide +kernel
theorem dL_law_149 : decode cL_law 149 = .ok (.iconst 0, 1) := by decide +kernel
theorem dL_law_150 : decode cL_law 150 = .ok (.istore 12, 2) := by decide +kernel
theorem dL_law_152 : decode cL_law 152 = .ok (.iconst 0, 1) := by decide +kernel
theorem dL_law_153 : decode cL_law 153 = .ok (.istore 13, 2) := by decide +kernel
theorem dL_law_155 : decode cL_law 155 = .ok (.iload 13, 2) := by decide +kernel
theorem dL_law_157 : decode cL_law 157 = .ok (.aload_n 1, 1) := by decide +kernel
theorem dL_law_158 : decode cL_law 158 = .ok (.iconst 1, 1) := by decide +kernel
theorem dL_law_159 : decode cL_law 159 = .ok (.invokevirtual 127, 3) := by decide +kernel
theorem dL_law_162 : decode cL_law 162 = .ok (.if_icmp .ge 422, 3) := by decide +kernel
theorem dL_law_165 : decode cL_law 165 = .ok (.aload_n 1, 1) := by decide +kernel
theorem dL_law_166 : decode cL_law 166 = .ok (.iload 13, 2) := by decide +kernel
theorem dL_law_168 : decode cL_law 168 = .ok (.iconst 4, 1) := by decide +kernel
theorem dL_law_169 : decode cL_law 169 = .ok (.invokevirtual 135, 3) := by decide +kernel
theorem dL_law_172 : decode cL_law 172 = .ok (.iconst 1, 1) := by decide +kernel
theorem dL_law_173 : decode cL_law 173 = .ok (.if_icmp .ne 7, 3) := by decide +kernel
theorem dL_law_176 : decode cL_law 176 = .ok (.iconst 1, 1) := by decide +kernel
theorem dL_law_177 : decode cL_law 177 = .ok (.goto 4, 3) := by decide +kernel
theorem dL_law_180 : decode cL_law 180 = .ok (.iconst 0, 1) := by decide +kernel
theorem dL_law_181 : decode cL_law 181 = .ok (.istore 14, 2) := by decide +kernel
theorem dL_law_183 : decode cL_law 183 = .ok (.iconst 0, 1) := by decide +kernel
theorem dL_law_184 : decode cL_law 184 = .ok (.istore 15, 2) := by decide +kernel
theorem dL_law_186 : decode cL_law 186 = .ok (.iconst 0, 1) := by decide +kernel
theorem dL_law_187 : decode cL_law 187 = .ok (.istore 16, 2) := by decide +kernel
theorem dL_law_189 : decode cL_law 189 = .ok (.iconst 0, 1) := by decide +kernel
theorem dL_law_190 : decode cL_law 190 = .ok (.istore 17, 2) := by decide +kernel
theorem dL_law_192 : decode cL_law 192 = .ok (.iconst 0, 1) := by decide +kernel
theorem dL_law_193 : decode cL_law 193 = .ok (.istore 18, 2) := by decide +kernel
theorem dL_law_195 : decode cL_law 195 = .ok (.iload 18, 2) := by decide +kernel
theorem dL_law_197 : decode cL_law 197 = .ok (.aload_n 1, 1) := by decide +kernel
theorem dL_law_198 : decode cL_law 198 = .ok (.iload 13, 2) := by decide +kernel
theorem dL_law_200 : decode cL_law 200 = .ok (.iconst 2, 1) := by decide +kernel
theorem dL_law_201 : decode cL_law 201 = .ok (.invokevirtual 135, 3) := by decide +kernel
theorem dL_law_204 : decode cL_law 204 = .ok (.if_icmp .ge 231, 3) := by decide +kernel
theorem dL_law_207 : decode cL_law 207 = .ok (.aload_n 1, 1) := by decide +kernel
theorem dL_law_208 : decode cL_law 208 = .ok (.iload 13, 2) := by decide +kernel
theorem dL_law_210 : decode cL_law 210 = .ok (.iload 18, 2) := by decide +kernel
theorem dL_law_212 : decode cL_law 212 = .ok (.iconst 0, 1) := by decide +kernel
theorem dL_law_213 : decode cL_law 213 = .ok (.invokevirtual 138, 3) := by decide +kernel
theorem dL_law_216 : decode cL_law 216 = .ok (.istore 19, 2) := by decide +kernel
theorem dL_law_218 : decode cL_law 218 = .ok (.iload 17, 2) := by decide +kernel
theorem dL_law_220 : decode cL_law 220 = .ok (.iload 19, 2) := by decide +kernel
theorem dL_law_222 : decode cL_law 222 = .ok (.iadd, 1) := by decide +kernel
theorem dL_law_223 : decode cL_law 223 = .ok (.istore 17, 2) := by decide +kernel
theorem dL_law_225 : decode cL_law 225 = .ok (.iload 14, 2) := by decide +kernel
theorem dL_law_227 : decode cL_law 227 = .ok (.ifCond .ne 44, 3) := by decide +kernel
theorem dL_law_230 : decode cL_law 230 = .ok (.aload_n 1, 1) := by decide +kernel
theorem dL_law_231 : decode cL_law 231 = .ok (.iload 13, 2) := by decide +kernel
theorem dL_law_233 : decode cL_law 233 = .ok (.iload 18, 2) := by decide +kernel
theorem dL_law_235 : decode cL_law 235 = .ok (.iconst 1, 1) := by decide +kernel
theorem dL_law_236 : decode cL_law 236 = .ok (.invokevirtual 138, 3) := by decide +kernel
theorem dL_law_239 : decode cL_law 239 = .ok (.iconst (-1), 1) := by decide +kernel
theorem dL_law_240 : decode cL_law 240 = .ok (.if_icmp .ne 29, 3) := by decide +kernel
theorem dL_law_243 : decode cL_law 243 = .ok (.aload_n 1, 1) := by decide +kernel
theorem dL_law_244 : decode cL_law 244 = .ok (.iload 13, 2) := by decide +kernel
theorem dL_law_246 : decode cL_law 246 = .ok (.iload 18, 2) := by decide +kernel
theorem dL_law_248 : decode cL_law 248 = .ok (.iconst 2, 1) := by decide +kernel
theorem dL_law_249 : decode cL_law 249 = .ok (.invokevirtual 138, 3) := by decide +kernel
theorem dL_law_252 : decode cL_law 252 = .ok (.iconst (-1), 1) := by decide +kernel
theorem dL_law_253 : decode cL_law 253 = .ok (.if_icmp .ne 16, 3) := by decide +kernel
theorem dL_law_256 : decode cL_law 256 = .ok (.aload_n 1, 1) := by decide +kernel
theorem dL_law_257 : decode cL_law 257 = .ok (.iload 13, 2) := by decide +kernel
theorem dL_law_259 : decode cL_law 259 = .ok (.iload 18, 2) := by decide +kernel
theorem dL_law_261 : decode cL_law 261 = .ok (.iconst 3, 1) := by decide +kernel
theorem dL_law_262 : decode cL_law 262 = .ok (.invokevirtual 138, 3) := by decide +kernel
theorem dL_law_265 : decode cL_law 265 = .ok (.iconst (-1), 1) := by decide +kernel
theorem dL_law_266 : decode cL_law 266 = .ok (.if_icmp .eq 163, 3) := by decide +kernel
theorem dL_law_269 : decode cL_law 269 = .ok (.iconst 0, 1) := by decide +kernel
theorem dL_law_270 : decode cL_law 270 = .ok (.ireturn, 1) := by decide +kernel
theorem dL_law_271 : decode cL_law 271 = .ok (.aload_n 1, 1) := by decide +kernel
theorem dL_law_272 : decode cL_law 272 = .ok (.iload 13, 2) := by decide +kernel
theorem dL_law_274 : decode cL_law 274 = .ok (.iload 18, 2) := by decide +kernel
theorem dL_law_276 : decode cL_law 276 = .ok (.iconst 1, 1) := by decide +kernel
theorem dL_law_277 : decode cL_law 277 = .ok (.invokevirtual 138, 3) := by decide +kernel
theorem dL_law_280 : decode cL_law 280 = .ok (.istore 20, 2) := by decide +kernel
theorem dL_law_282 : decode cL_law 282 = .ok (.aload_n 1, 1) := by decide +kernel
theorem dL_law_283 : decode cL_law 283 = .ok (.iload 13, 2) := by decide +kernel
theorem dL_law_285 : decode cL_law 285 = .ok (.iload 18, 2) := by decide +kernel
theorem dL_law_287 : decode cL_law 287 = .ok (.iconst 3, 1) := by decide +kernel
theorem dL_law_288 : decode cL_law 288 = .ok (.invokevirtual 138, 3) := by decide +kernel
theorem dL_law_291 : decode cL_law 291 = .ok (.istore 21, 2) := by decide +kernel
theorem dL_law_293 : decode cL_law 293 = .ok (.iconst 0, 1) := by decide +kernel
theorem dL_law_294 : decode cL_law 294 = .ok (.istore 22, 2) := by decide +kernel
theorem dL_law_296 : decode cL_law 296 = .ok (.iload 19, 2) := by decide +kernel
theorem dL_law_298 : decode cL_law 298 = .ok (.iconst 1, 1) := by decide +kernel
theorem dL_law_299 : decode cL_law 299 = .ok (.isub, 1) := by decide +kernel
theorem dL_law_300 : decode cL_law 300 = .ok (.istore 23, 2) := by decide +kernel
theorem dL_law_302 : decode cL_law 302 = .ok (.iload 23, 2) := by decide +kernel
theorem dL_law_304 : decode cL_law 304 = .ok (.ifCond .lt 65, 3) := by decide +kernel
theorem dL_law_307 : decode cL_law 307 = .ok (.aload 10, 2) := by decide +kernel
theorem dL_law_309 : decode cL_law 309 = .ok (.iload 20, 2) := by decide +kernel
theorem dL_law_311 : decode cL_law 311 = .ok (.aaload, 1) := by decide +kernel
theorem dL_law_312 : decode cL_law 312 = .ok (.iload 21, 2) := by decide +kernel
theorem dL_law_314 : decode cL_law 314 = .ok (.bipush 10, 2) := by decide +kernel
theorem dL_law_316 : decode cL_law 316 = .ok (.irem, 1) := by decide +kernel
theorem dL_law_317 : decode cL_law 317 = .ok (.dup2, 1) := by decide +kernel
theorem dL_law_318 : decode cL_law 318 = .ok (.iaload, 1) := by decide +kernel
theorem dL_law_319 : decode cL_law 319 = .ok (.iconst 1, 1) := by decide +kernel
theorem dL_law_320 : decode cL_law 320 = .ok (.iadd, 1) := by decide +kernel
theorem dL_law_321 : decode cL_law 321 = .ok (.iastore, 1) := by decide +kernel
theorem dL_law_322 : decode cL_law 322 = .ok (.iload 22, 2) := by decide +kernel
theorem dL_law_324 : decode cL_law 324 = .ok (.iload 21, 2) := by decide +kernel
theorem dL_law_326 : decode cL_law 326 = .ok (.bipush 10, 2) := by decide +kernel
theorem dL_law_328 : decode cL_law 328 = .ok (.irem, 1) := by decide +kernel
theorem dL_law_329 : decode cL_law 329 = .ok (.aload_n 2, 1) := by decide +kernel
theorem dL_law_330 : decode cL_law 330 = .ok (.getfield 21, 3) := by decide +kernel
theorem dL_law_333 : decode cL_law 333 = .ok (.iload 13, 2) := by decide +kernel
theorem dL_law_335 : decode cL_law 335 = .ok (.aaload, 1) := by decide +kernel
theorem dL_law_336 : decode cL_law 336 = .ok (.getfield 75, 3) := by decide +kernel
theorem dL_law_339 : decode cL_law 339 = .ok (.iload 18, 2) := by decide +kernel
theorem dL_law_341 : decode cL_law 341 = .ok (.aaload, 1) := by decide +kernel
theorem dL_law_342 : decode cL_law 342 = .ok (.iload 23, 2) := by decide +kernel
theorem dL_law_344 : decode cL_law 344 = .ok (.iaload, 1) := by decide +kernel
theorem dL_law_345 : decode cL_law 345 = .ok (.if_icmp .ne 7, 3) := by decide +kernel
theorem dL_law_348 : decode cL_law 348 = .ok (.iconst 0, 1) := by decide +kernel
theorem dL_law_349 : decode cL_law 349 = .ok (.goto 4, 3) := by decide +kernel
theorem dL_law_352 : decode cL_law 352 = .ok (.iconst 1, 1) := by decide +kernel
theorem dL_law_353 : decode cL_law 353 = .ok (.iadd, 1) := by decide +kernel
theorem dL_law_354 : decode cL_law 354 = .ok (.istore 22, 2) := by decide +kernel
theorem dL_law_356 : decode cL_law 356 = .ok (.iload 21, 2) := by decide +kernel
theorem dL_law_358 : decode cL_law 358 = .ok (.bipush 10, 2) := by decide +kernel
theorem dL_law_360 : decode cL_law 360 = .ok (.idiv, 1) := by decide +kernel
theorem dL_law_361 : decode cL_law 361 = .ok (.istore 21, 2) := by decide +kernel
theorem dL_law_363 : decode cL_law 363 = .ok (.iinc 23 (-1), 3) := by decide +kernel
theorem dL_law_366 : decode cL_law 366 = .ok (.goto (-64), 3) := by decide +kernel
theorem dL_law_369 : decode cL_law 369 = .ok (.iload 21, 2) := by decide +kernel
theorem dL_law_371 : decode cL_law 371 = .ok (.ifCond .ne 34, 3) := by decide +kernel
theorem dL_law_374 : decode cL_law 374 = .ok (.iload 22, 2) := by decide +kernel
theorem dL_law_376 : decode cL_law 376 = .ok (.aload_n 1, 1) := by decide +kernel
theorem dL_law_377 : decode cL_law 377 = .ok (.iload 13, 2) := by decide +kernel
theorem dL_law_379 : decode cL_law 379 = .ok (.iload 18, 2) := by decide +kernel
theorem dL_law_381 : decode cL_law 381 = .ok (.iconst 2, 1) := by decide +kernel
theorem dL_law_382 : decode cL_law 382 = .ok (.invokevirtual 138, 3) := by decide +kernel
theorem dL_law_385 : decode cL_law 385 = .ok (.if_icmp .ne 20, 3) := by decide +kernel
theorem dL_law_388 : decode cL_law 388 = .ok (.aload_n 2, 1) := by decide +kernel
theorem dL_law_389 : decode cL_law 389 = .ok (.getfield 15, 3) := by decide +kernel
theorem dL_law_392 : decode cL_law 392 = .ok (.iload 20, 2) := by decide +kernel
theorem dL_law_394 : decode cL_law 394 = .ok (.iaload, 1) := by decide +kernel
theorem dL_law_395 : decode cL_law 395 = .ok (.aload_n 1, 1) := by decide +kernel
theorem dL_law_396 : decode cL_law 396 = .ok (.iload 13, 2) := by decide +kernel
theorem dL_law_398 : decode cL_law 398 = .ok (.iconst 1, 1) := by decide +kernel
theorem dL_law_399 : decode cL_law 399 = .ok (.invokevirtual 135, 3) := by decide +kernel
theorem dL_law_402 : decode cL_law 402 = .ok (.if_icmp .ge 5, 3) := by decide +kernel
theorem dL_law_405 : decode cL_law 405 = .ok (.iconst 0, 1) := by decide +kernel
theorem dL_law_406 : decode cL_law 406 = .ok (.ireturn, 1) := by decide +kernel
theorem dL_law_407 : decode cL_law 407 = .ok (.iload 16, 2) := by decide +kernel
theorem dL_law_409 : decode cL_law 409 = .ok (.iload 22, 2) := by decide +kernel
theorem dL_law_411 : decode cL_law 411 = .ok (.iadd, 1) := by decide +kernel
theorem dL_law_412 : decode cL_law 412 = .ok (.istore 16, 2) := by decide +kernel
theorem dL_law_414 : decode cL_law 414 = .ok (.iload 15, 2) := by decide +kernel
theorem dL_law_416 : decode cL_law 416 = .ok (.aload_n 2, 1) := by decide +kernel
theorem dL_law_417 : decode cL_law 417 = .ok (.getfield 15, 3) := by decide +kernel
theorem dL_law_420 : decode cL_law 420 = .ok (.iload 20, 2) := by decide +kernel
theorem dL_law_422 : decode cL_law 422 = .ok (.iaload, 1) := by decide +kernel
theorem dL_law_423 : decode cL_law 423 = .ok (.iload 19, 2) := by decide +kernel
theorem dL_law_425 : decode cL_law 425 = .ok (.imul, 1) := by decide +kernel
theorem dL_law_426 : decode cL_law 426 = .ok (.iadd, 1) := by decide +kernel
theorem dL_law_427 : decode cL_law 427 = .ok (.istore 15, 2) := by decide +kernel
theorem dL_law_429 : decode cL_law 429 = .ok (.iinc 18 1, 3) := by decide +kernel
theorem dL_law_432 : decode cL_law 432 = .ok (.goto (-237), 3) := by decide +kernel
theorem dL_law_435 : decode cL_law 435 = .ok (.aload_n 2, 1) := by decide +kernel
theorem dL_law_436 : decode cL_law 436 = .ok (.getfield 46, 3) := by decide +kernel
theorem dL_law_439 : decode cL_law 439 = .ok (.aload_n 1, 1) := by decide +kernel
theorem dL_law_440 : decode cL_law 440 = .ok (.iload 13, 2) := by decide +kernel
theorem dL_law_442 : decode cL_law 442 = .ok (.iconst 0, 1) := by decide +kernel
theorem dL_law_443 : decode cL_law 443 = .ok (.invokevirtual 135, 3) := by decide +kernel
theorem dL_law_446 : decode cL_law 446 = .ok (.aaload, 1) := by decide +kernel
theorem dL_law_447 : decode cL_law 447 = .ok (.astore 18, 2) := by decide +kernel
theorem dL_law_449 : decode cL_law 449 = .ok (.iload 17, 2) := by decide +kernel
theorem dL_law_451 : decode cL_law 451 = .ok (.aload_n 1, 1) := by decide +kernel
theorem dL_law_452 : decode cL_law 452 = .ok (.iload 13, 2) := by decide +kernel
theorem dL_law_454 : decode cL_law 454 = .ok (.iconst 3, 1) := by decide +kernel
theorem dL_law_455 : decode cL_law 455 = .ok (.invokevirtual 135, 3) := by decide +kernel
theorem dL_law_458 : decode cL_law 458 = .ok (.if_icmp .ne 54, 3) := by decide +kernel
theorem dL_law_461 : decode cL_law 461 = .ok (.iload 16, 2) := by decide +kernel
theorem dL_law_463 : decode cL_law 463 = .ok (.aload_n 1, 1) := by decide +kernel
theorem dL_law_464 : decode cL_law 464 = .ok (.iload 13, 2) := by decide +kernel
theorem dL_law_466 : decode cL_law 466 = .ok (.iconst 5, 1) := by decide +kernel
theorem dL_law_467 : decode cL_law 467 = .ok (.invokevirtual 135, 3) := by decide +kernel
theorem dL_law_470 : decode cL_law 470 = .ok (.if_icmp .ne 42, 3) := by decide +kernel
theorem dL_law_473 : decode cL_law 473 = .ok (.aload_n 1, 1) := by decide +kernel
theorem dL_law_474 : decode cL_law 474 = .ok (.iload 13, 2) := by decide +kernel
theorem dL_law_476 : decode cL_law 476 = .ok (.bipush 7, 2) := by decide +kernel
theorem dL_law_478 : decode cL_law 478 = .ok (.invokevirtual 135, 3) := by decide +kernel
theorem dL_law_481 : decode cL_law 481 = .ok (.iload 14, 2) := by decide +kernel
theorem dL_law_483 : decode cL_law 483 = .ok (.ifCond .eq 25, 3) := by decide +kernel
theorem dL_law_486 : decode cL_law 486 = .ok (.iconst 0, 1) := by decide +kernel
theorem dL_law_487 : decode cL_law 487 = .ok (.iload 15, 2) := by decide +kernel
theorem dL_law_489 : decode cL_law 489 = .ok (.aload 18, 2) := by decide +kernel
theorem dL_law_491 : decode cL_law 491 = .ok (.iconst 0, 1) := by decide +kernel
theorem dL_law_492 : decode cL_law 492 = .ok (.iaload, 1) := by decide +kernel
theorem dL_law_493 : decode cL_law 493 = .ok (.imul, 1) := by decide +kernel
theorem dL_law_494 : decode cL_law 494 = .ok (.iload 16, 2) := by decide +kernel
theorem dL_law_496 : decode cL_law 496 = .ok (.aload 18, 2) := by decide +kernel
theorem dL_law_498 : decode cL_law 498 = .ok (.iconst 1, 1) := by decide +kernel
theorem dL_law_499 : decode cL_law 499 = .ok (.iaload, 1) := by decide +kernel
theorem dL_law_500 : decode cL_law 500 = .ok (.imul, 1) := by decide +kernel
theorem dL_law_501 : decode cL_law 501 = .ok (.isub, 1) := by decide +kernel
theorem dL_law_502 : decode cL_law 502 = .ok (.invokestatic 141, 3) := by decide +kernel
theorem dL_law_505 : decode cL_law 505 = .ok (.goto 4, 3) := by decide +kernel
theorem dL_law_508 : decode cL_law 508 = .ok (.iconst 0, 1) := by decide +kernel
theorem dL_law_509 : decode cL_law 509 = .ok (.if_icmp .eq 5, 3) := by decide +kernel
theorem dL_law_512 : decode cL_law 512 = .ok (.iconst 0, 1) := by decide +kernel
theorem dL_law_513 : decode cL_law 513 = .ok (.ireturn, 1) := by decide +kernel
theorem dL_law_514 : decode cL_law 514 = .ok (.iload 14, 2) := by decide +kernel
theorem dL_law_516 : decode cL_law 516 = .ok (.ifCond .eq 39, 3) := by decide +kernel
theorem dL_law_519 : decode cL_law 519 = .ok (.aload_n 1, 1) := by decide +kernel
theorem dL_law_520 : decode cL_law 520 = .ok (.iload 13, 2) := by decide +kernel
theorem dL_law_522 : decode cL_law 522 = .ok (.iconst 0, 1) := by decide +kernel
theorem dL_law_523 : decode cL_law 523 = .ok (.invokevirtual 144, 3) := by decide +kernel
theorem dL_law_526 : decode cL_law 526 = .ok (.iconst (-1), 1) := by decide +kernel
theorem dL_law_527 : decode cL_law 527 = .ok (.if_icmp .ne 26, 3) := by decide +kernel
theorem dL_law_530 : decode cL_law 530 = .ok (.aload_n 1, 1) := by decide +kernel
theorem dL_law_531 : decode cL_law 531 = .ok (.iload 13, 2) := by decide +kernel
theorem dL_law_533 : decode cL_law 533 = .ok (.iconst 1, 1) := by decide +kernel
theorem dL_law_534 : decode cL_law 534 = .ok (.invokevirtual 144, 3) := by decide +kernel
theorem dL_law_537 : decode cL_law 537 = .ok (.iconst (-1), 1) := by decide +kernel
theorem dL_law_538 : decode cL_law 538 = .ok (.if_icmp .ne 15, 3) := by decide +kernel
theorem dL_law_541 : decode cL_law 541 = .ok (.aload_n 1, 1) := by decide +kernel
theorem dL_law_542 : decode cL_law 542 = .ok (.iload 13, 2) := by decide +kernel
theorem dL_law_544 : decode cL_law 544 = .ok (.invokevirtual 147, 3) := by decide +kernel
theorem dL_law_547 : decode cL_law 547 = .ok (.sipush 400, 3) := by decide +kernel
theorem dL_law_550 : decode cL_law 550 = .ok (.if_icmp .le 5, 3) := by decide +kernel
theorem dL_law_553 : decode cL_law 553 = .ok (.iconst 0, 1) := by decide +kernel
theorem dL_law_554 : decode cL_law 554 = .ok (.ireturn, 1) := by decide +kernel
theorem dL_law_555 : decode cL_law 555 = .ok (.iload 11, 2) := by decide +kernel
theorem dL_law_557 : decode cL_law 557 = .ok (.iload 16, 2) := by decide +kernel
theorem dL_law_559 : decode cL_law 559 = .ok (.iadd, 1) := by decide +kernel
theorem dL_law_560 : decode cL_law 560 = .ok (.istore 11, 2) := by decide +kernel
theorem dL_law_562 : decode cL_law 562 = .ok (.iload 12, 2) := by decide +kernel
theorem dL_law_564 : decode cL_law 564 = .ok (.iload 14, 2) := by decide +kernel
theorem dL_law_566 : decode cL_law 566 = .ok (.ifCond .eq 8, 3) := by decide +kernel
theorem dL_law_569 : decode cL_law 569 = .ok (.iload 17, 2) := by decide +kernel
theorem dL_law_571 : decode cL_law 571 = .ok (.goto 4, 3) := by decide +kernel
theorem dL_law_574 : decode cL_law 574 = .ok (.iconst 0, 1) := by decide +kernel
theorem dL_law_575 : decode cL_law 575 = .ok (.iadd, 1) := by decide +kernel
theorem dL_law_576 : decode cL_law 576 = .ok (.istore 12, 2) := by decide +kernel
theorem dL_law_578 : decode cL_law 578 = .ok (.iinc 13 1, 3) := by decide +kernel
theorem dL_law_581 : decode cL_law 581 = .ok (.goto (-426), 3) := by decide +kernel
theorem dL_law_584 : decode cL_law 584 = .ok (.iconst 0, 1) := by decide +kernel
theorem dL_law_585 : decode cL_law 585 = .ok (.istore 13, 2) := by decide +kernel
theorem dL_law_587 : decode cL_law 587 = .ok (.iconst 0, 1) := by decide +kernel
theorem dL_law_588 : decode cL_law 588 = .ok (.istore 14, 2) := by decide +kernel
theorem dL_law_590 : decode cL_law 590 = .ok (.iconst 0, 1) := by decide +kernel
theorem dL_law_591 : decode cL_law 591 = .ok (.istore 15, 2) := by decide +kernel
theorem dL_law_593 : decode cL_law 593 = .ok (.iload 15, 2) := by decide +kernel
theorem dL_law_595 : decode cL_law 595 = .ok (.iload 9, 2) := by decide +kernel
theorem dL_law_597 : decode cL_law 597 = .ok (.if_icmp .ge 117, 3) := by decide +kernel
theorem dL_law_600 : decode cL_law 600 = .ok (.iconst 0, 1) := by decide +kernel
theorem dL_law_601 : decode cL_law 601 = .ok (.istore 16, 2) := by decide +kernel
theorem dL_law_603 : decode cL_law 603 = .ok (.iload 16, 2) := by decide +kernel
theorem dL_law_605 : decode cL_law 605 = .ok (.bipush 10, 2) := by decide +kernel
theorem dL_law_607 : decode cL_law 607 = .ok (.if_icmp .ge 101, 3) := by decide +kernel
theorem dL_law_610 : decode cL_law 610 = .ok (.aload_n 1, 1) := by decide +kernel
theorem dL_law_611 : decode cL_law 611 = .ok (.iload 15, 2) := by decide +kernel
theorem dL_law_613 : decode cL_law 613 = .ok (.iload 16, 2) := by decide +kernel
theorem dL_law_615 : decode cL_law 615 = .ok (.iconst 0, 1) := by decide +kernel
theorem dL_law_616 : decode cL_law 616 = .ok (.invokevirtual 150, 3) := by decide +kernel
theorem dL_law_619 : decode cL_law 619 = .ok (.istore 17, 2) := by decide +kernel
theorem dL_law_621 : decode cL_law 621 = .ok (.iload 13, 2) := by decide +kernel
theorem dL_law_623 : decode cL_law 623 = .ok (.iload 17, 2) := by decide +kernel
theorem dL_law_625 : decode cL_law 625 = .ok (.iadd, 1) := by decide +kernel
theorem dL_law_626 : decode cL_law 626 = .ok (.istore 13, 2) := by decide +kernel
theorem dL_law_628 : decode cL_law 628 = .ok (.iload 14, 2) := by decide +kernel
theorem dL_law_630 : decode cL_law 630 = .ok (.aload 10, 2) := by decide +kernel
theorem dL_law_632 : decode cL_law 632 = .ok (.iload 15, 2) := by decide +kernel
theorem dL_law_634 : decode cL_law 634 = .ok (.aaload, 1) := by decide +kernel
theorem dL_law_635 : decode cL_law 635 = .ok (.iload 16, 2) := by decide +kernel
theorem dL_law_637 : decode cL_law 637 = .ok (.iaload, 1) := by decide +kernel
theorem dL_law_638 : decode cL_law 638 = .ok (.iadd, 1) := by decide +kernel
theorem dL_law_639 : decode cL_law 639 = .ok (.istore 14, 2) := by decide +kernel
theorem dL_law_641 : decode cL_law 641 = .ok (.iload 17, 2) := by decide +kernel
theorem dL_law_643 : decode cL_law 643 = .ok (.ifCond .lt 57, 3) := by decide +kernel
theorem dL_law_646 : decode cL_law 646 = .ok (.iload 17, 2) := by decide +kernel
theorem dL_law_648 : decode cL_law 648 = .ok (.bipush 9, 2) := by decide +kernel
theorem dL_law_650 : decode cL_law 650 = .ok (.if_icmp .gt 50, 3) := by decide +kernel
theorem dL_law_653 : decode cL_law 653 = .ok (.aload_n 1, 1) := by decide +kernel
theorem dL_law_654 : decode cL_law 654 = .ok (.iload 15, 2) := by decide +kernel
theorem dL_law_656 : decode cL_law 656 = .ok (.iload 16, 2) := by decide +kernel
theorem dL_law_658 : decode cL_law 658 = .ok (.iconst 1, 1) := by decide +kernel
theorem dL_law_659 : decode cL_law 659 = .ok (.invokevirtual 150, 3) := by decide +kernel
theorem dL_law_662 : decode cL_law 662 = .ok (.iload 17, 2) := by decide +kernel
theorem dL_law_664 : decode cL_law 664 = .ok (.aload 10, 2) := by decide +kernel
theorem dL_law_666 : decode cL_law 666 = .ok (.iload 15, 2) := by decide +kernel
theorem dL_law_668 : decode cL_law 668 = .ok (.aaload, 1) := by decide +kernel
theorem dL_law_669 : decode cL_law 669 = .ok (.iload 16, 2) := by decide +kernel
theorem dL_law_671 : decode cL_law 671 = .ok (.iaload, 1) := by decide +kernel
theorem dL_law_672 : decode cL_law 672 = .ok (.isub, 1) := by decide +kernel
theorem dL_law_673 : decode cL_law 673 = .ok (.if_icmp .ne 27, 3) := by decide +kernel
theorem dL_law_676 : decode cL_law 676 = .ok (.aload_n 1, 1) := by decide +kernel
theorem dL_law_677 : decode cL_law 677 = .ok (.iload 15, 2) := by decide +kernel
theorem dL_law_679 : decode cL_law 679 = .ok (.iload 16, 2) := by decide +kernel
theorem dL_law_681 : decode cL_law 681 = .ok (.iconst 1, 1) := by decide +kernel
theorem dL_law_682 : decode cL_law 682 = .ok (.invokevirtual 150, 3) := by decide +kernel
theorem dL_law_685 : decode cL_law 685 = .ok (.ifCond .lt 15, 3) := by decide +kernel
theorem dL_law_688 : decode cL_law 688 = .ok (.aload_n 1, 1) := by decide +kernel
theorem dL_law_689 : decode cL_law 689 = .ok (.iload 15, 2) := by decide +kernel
theorem dL_law_691 : decode cL_law 691 = .ok (.iload 16, 2) := by decide +kernel
theorem dL_law_693 : decode cL_law 693 = .ok (.iconst 2, 1) := by decide +kernel
theorem dL_law_694 : decode cL_law 694 = .ok (.invokevirtual 150, 3) := by decide +kernel
theorem dL_law_697 : decode cL_law 697 = .ok (.ifCond .ge 5, 3) := by decide +kernel
theorem dL_law_700 : decode cL_law 700 = .ok (.iconst 0, 1) := by decide +kernel
theorem dL_law_701 : decode cL_law 701 = .ok (.ireturn, 1) := by decide +kernel
theorem dL_law_702 : decode cL_law 702 = .ok (.iinc 16 1, 3) := by decide +kernel
theorem dL_law_705 : decode cL_law 705 = .ok (.goto (-102), 3) := by decide +kernel
theorem dL_law_708 : decode cL_law 708 = .ok (.iinc 15 1, 3) := by decide +kernel
theorem dL_law_711 : decode cL_law 711 = .ok (.goto (-118), 3) := by decide +kernel
theorem dL_law_714 : decode cL_law 714 = .ok (.iload 13, 2) := by decide +kernel
theorem dL_law_716 : decode cL_law 716 = .ok (.aload_n 1, 1) := by decide +kernel
theorem dL_law_717 : decode cL_law 717 = .ok (.iconst 5, 1) := by decide +kernel
theorem dL_law_718 : decode cL_law 718 = .ok (.invokevirtual 127, 3) := by decide +kernel
theorem dL_law_721 : decode cL_law 721 = .ok (.if_icmp .ne 38, 3) := by decide +kernel
theorem dL_law_724 : decode cL_law 724 = .ok (.iload 14, 2) := by decide +kernel
theorem dL_law_726 : decode cL_law 726 = .ok (.aload_n 1, 1) := by decide +kernel
theorem dL_law_727 : decode cL_law 727 = .ok (.bipush 6, 2) := by decide +kernel
theorem dL_law_729 : decode cL_law 729 = .ok (.invokevirtual 127, 3) := by decide +kernel
theorem dL_law_732 : decode cL_law 732 = .ok (.if_icmp .ne 27, 3) := by decide +kernel
theorem dL_law_735 : decode cL_law 735 = .ok (.aload_n 1, 1) := by decide +kernel
theorem dL_law_736 : decode cL_law 736 = .ok (.invokevirtual 153, 3) := by decide +kernel
theorem dL_law_739 : decode cL_law 739 = .ok (.iload 12, 2) := by decide +kernel
theorem dL_law_741 : decode cL_law 741 = .ok (.ifCond .ne 7, 3) := by decide +kernel
theorem dL_law_744 : decode cL_law 744 = .ok (.dconst 0, 1) := by decide +kernel
theorem dL_law_745 : decode cL_law 745 = .ok (.goto 10, 3) := by decide +kernel
theorem dL_law_748 : decode cL_law 748 = .ok (.iload 11, 2) := by decide +kernel
theorem dL_law_750 : decode cL_law 750 = .ok (.i2d, 1) := by decide +kernel
theorem dL_law_751 : decode cL_law 751 = .ok (.iload 12, 2) := by decide +kernel
theorem dL_law_753 : decode cL_law 753 = .ok (.i2d, 1) := by decide +kernel
theorem dL_law_754 : decode cL_law 754 = .ok (.ddiv, 1) := by decide +kernel
theorem dL_law_755 : decode cL_law 755 = .ok (.dcmp .l, 1) := by decide +kernel
theorem dL_law_756 : decode cL_law 756 = .ok (.ifCond .eq 5, 3) := by decide +kernel
theorem dL_law_759 : decode cL_law 759 = .ok (.iconst 0, 1) := by decide +kernel
theorem dL_law_760 : decode cL_law 760 = .ok (.ireturn, 1) := by decide +kernel
theorem dL_law_761 : decode cL_law 761 = .ok (.aload_n 1, 1) := by decide +kernel
theorem dL_law_762 : decode cL_law 762 = .ok (.invokevirtual 157, 3) := by decide +kernel
theorem dL_law_765 : decode cL_law 765 = .ok (.istore 15, 2) := by decide +kernel
theorem dL_law_767 : decode cL_law 767 = .ok (.aload_n 1, 1) := by decide +kernel
theorem dL_law_768 : decode cL_law 768 = .ok (.invokevirtual 130, 3) := by decide +kernel
theorem dL_law_771 : decode cL_law 771 = .ok (.lload 7, 2) := by decide +kernel
theorem dL_law_773 : decode cL_law 773 = .ok (.lcmp, 1) := by decide +kernel
theorem dL_law_774 : decode cL_law 774 = .ok (.ifCond .eq 5, 3) := by decide +kernel
theorem dL_law_777 : decode cL_law 777 = .ok (.iconst 0, 1) := by decide +kernel
theorem dL_law_778 : decode cL_law 778 = .ok (.ireturn, 1) := by decide +kernel
theorem dL_law_779 : decode cL_law 779 = .ok (.iload 15, 2) := by decide +kernel
theorem dL_law_781 : decode cL_law 781 = .ok (.ifCond .ge 6, 3) := by decide +kernel
theorem dL_law_784 : decode cL_law 784 = .ok (.goto 202, 3) := by decide +kernel
theorem dL_law_787 : decode cL_law 787 = .ok (.aload_n 1, 1) := by decide +kernel
theorem dL_law_788 : decode cL_law 788 = .ok (.iload 15, 2) := by decide +kernel
theorem dL_law_790 : decode cL_law 790 = .ok (.iconst 0, 1) := by decide +kernel
theorem dL_law_791 : decode cL_law 791 = .ok (.invokevirtual 144, 3) := by decide +kernel
theorem dL_law_794 : decode cL_law 794 = .ok (.istore 16, 2) := by decide +kernel
theorem dL_law_796 : decode cL_law 796 = .ok (.aload_n 1, 1) := by decide +kernel
theorem dL_law_797 : decode cL_law 797 = .ok (.iload 15, 2) := by decide +kernel
theorem dL_law_799 : decode cL_law 799 = .ok (.iconst 1, 1) := by decide +kernel
theorem dL_law_800 : decode cL_law 800 = .ok (.invokevirtual 144, 3) := by decide +kernel
theorem dL_law_803 : decode cL_law 803 = .ok (.istore 17, 2) := by decide +kernel
theorem dL_law_805 : decode cL_law 805 = .ok (.aload_n 1, 1) := by decide +kernel
theorem dL_law_806 : decode cL_law 806 = .ok (.iload 15, 2) := by decide +kernel
theorem dL_law_808 : decode cL_law 808 = .ok (.invokevirtual 91, 3) := by decide +kernel
theorem dL_law_811 : decode cL_law 811 = .ok (.iload 17, 2) := by decide +kernel
theorem dL_law_813 : decode cL_law 813 = .ok (.if_icmp .ne 38, 3) := by decide +kernel
theorem dL_law_816 : decode cL_law 816 = .ok (.aload_n 1, 1) := by decide +kernel
theorem dL_law_817 : decode cL_law 817 = .ok (.iload 15, 2) := by decide +kernel
theorem dL_law_819 : decode cL_law 819 = .ok (.bipush 7, 2) := by decide +kernel
theorem dL_law_821 : decode cL_law 821 = .ok (.invokevirtual 135, 3) := by decide +kernel
theorem dL_law_824 : decode cL_law 824 = .ok (.iload 16, 2) := by decide +kernel
theorem dL_law_826 : decode cL_law 826 = .ok (.if_icmp .ne 25, 3) := by decide +kernel
theorem dL_law_829 : decode cL_law 829 = .ok (.aload_n 1, 1) := by decide +kernel
theorem dL_law_830 : decode cL_law 830 = .ok (.iload 15, 2) := by decide +kernel
theorem dL_law_832 : decode cL_law 832 = .ok (.iconst 4, 1) := by decide +kernel
theorem dL_law_833 : decode cL_law 833 = .ok (.invokevirtual 135, 3) := by decide +kernel
theorem dL_law_836 : decode cL_law 836 = .ok (.iconst 1, 1) := by decide +kernel
theorem dL_law_837 : decode cL_law 837 = .ok (.if_icmp .ne 14, 3) := by decide +kernel
theorem dL_law_840 : decode cL_law 840 = .ok (.aload_n 2, 1) := by decide +kernel
theorem dL_law_841 : decode cL_law 841 = .ok (.iload 15, 2) := by decide +kernel
theorem dL_law_843 : decode cL_law 843 = .ok (.invokevirtual 88, 3) := by decide +kernel
theorem dL_law_846 : decode cL_law 846 = .ok (.iload 17, 2) := by decide +kernel
theorem dL_law_848 : decode cL_law 848 = .ok (.if_icmp .eq 5, 3) := by decide +kernel
theorem dL_law_851 : decode cL_law 851 = .ok (.iconst 0, 1) := by decide +kernel
theorem dL_law_852 : decode cL_law 852 = .ok (.ireturn, 1) := by decide +kernel
theorem dL_law_853 : decode cL_law 853 = .ok (.iload 6, 2) := by decide +kernel
theorem dL_law_855 : decode cL_law 855 = .ok (.iconst 5, 1) := by decide +kernel
theorem dL_law_856 : decode cL_law 856 = .ok (.ishr, 1) := by decide +kernel
theorem dL_law_857 : decode cL_law 857 = .ok (.iconst 2, 1) := by decide +kernel
theorem dL_law_858 : decode cL_law 858 = .ok (.invokestatic 9, 3) := by decide +kernel
theorem dL_law_861 : decode cL_law 861 = .ok (.ifCond .ne 6, 3) := by decide +kernel
theorem dL_law_864 : decode cL_law 864 = .ok (.goto 122, 3) := by decide +kernel
theorem dL_law_867 : decode cL_law 867 = .ok (.aload_n 1, 1) := by decide +kernel
theorem dL_law_868 : decode cL_law 868 = .ok (.iload 15, 2) := by decide +kernel
theorem dL_law_870 : decode cL_law 870 = .ok (.invokevirtual 96, 3) := by decide +kernel
theorem dL_law_873 : decode cL_law 873 = .ok (.istore 18, 2) := by decide +kernel
theorem dL_law_875 : decode cL_law 875 = .ok (.aload_n 2, 1) := by decide +kernel
theorem dL_law_876 : decode cL_law 876 = .ok (.iload 15, 2) := by decide +kernel
theorem dL_law_878 : decode cL_law 878 = .ok (.invokevirtual 99, 3) := by decide +kernel
theorem dL_law_881 : decode cL_law 881 = .ok (.iload 18, 2) := by decide +kernel
theorem dL_law_883 : decode cL_law 883 = .ok (.if_icmp .ne 40, 3) := by decide +kernel
theorem dL_law_886 : decode cL_law 886 = .ok (.aload_n 1, 1) := by decide +kernel
theorem dL_law_887 : decode cL_law 887 = .ok (.bipush 6, 2) := by decide +kernel
theorem dL_law_889 : decode cL_law 889 = .ok (.invokevirtual 127, 3) := by decide +kernel
theorem dL_law_892 : decode cL_law 892 = .ok (.iload 14, 2) := by decide +kernel
theorem dL_law_894 : decode cL_law 894 = .ok (.if_icmp .ne 29, 3) := by decide +kernel
theorem dL_law_897 : decode cL_law 897 = .ok (.aload_n 1, 1) := by decide +kernel
theorem dL_law_898 : decode cL_law 898 = .ok (.iconst 5, 1) := by decide +kernel
theorem dL_law_899 : decode cL_law 899 = .ok (.invokevirtual 127, 3) := by decide +kernel
theorem dL_law_902 : decode cL_law 902 = .ok (.iload 13, 2) := by decide +kernel
theorem dL_law_904 : decode cL_law 904 = .ok (.iload 18, 2) := by decide +kernel
theorem dL_law_906 : decode cL_law 906 = .ok (.isub, 1) := by decide +kernel
theorem dL_law_907 : decode cL_law 907 = .ok (.if_icmp .ne 16, 3) := by decide +kernel
theorem dL_law_910 : decode cL_law 910 = .ok (.aload_n 1, 1) := by decide +kernel
theorem dL_law_911 : decode cL_law 911 = .ok (.iconst 4, 1) := by decide +kernel
theorem dL_law_912 : decode cL_law 912 = .ok (.invokevirtual 127, 3) := by decide +kernel
theorem dL_law_915 : decode cL_law 915 = .ok (.iload 4, 2) := by decide +kernel
theorem dL_law_917 : decode cL_law 917 = .ok (.iload 18, 2) := by decide +kernel
theorem dL_law_919 : decode cL_law 919 = .ok (.iadd, 1) := by decide +kernel
theorem dL_law_920 : decode cL_law 920 = .ok (.if_icmp .eq 5, 3) := by decide +kernel
theorem dL_law_923 : decode cL_law 923 = .ok (.iconst 0, 1) := by decide +kernel
theorem dL_law_924 : decode cL_law 924 = .ok (.ireturn, 1) := by decide +kernel
theorem dL_law_925 : decode cL_law 925 = .ok (.iconst 0, 1) := by decide +kernel
theorem dL_law_926 : decode cL_law 926 = .ok (.istore 19, 2) := by decide +kernel
theorem dL_law_928 : decode cL_law 928 = .ok (.iload 19, 2) := by decide +kernel
theorem dL_law_930 : decode cL_law 930 = .ok (.iload 9, 2) := by decide +kernel
theorem dL_law_932 : decode cL_law 932 = .ok (.if_icmp .ge 54, 3) := by decide +kernel
theorem dL_law_935 : decode cL_law 935 = .ok (.iconst 0, 1) := by decide +kernel
theorem dL_law_936 : decode cL_law 936 = .ok (.istore 20, 2) := by decide +kernel
theorem dL_law_938 : decode cL_law 938 = .ok (.iload 20, 2) := by decide +kernel
theorem dL_law_940 : decode cL_law 940 = .ok (.bipush 10, 2) := by decide +kernel
theorem dL_law_942 : decode cL_law 942 = .ok (.if_icmp .ge 38, 3) := by decide +kernel
theorem dL_law_945 : decode cL_law 945 = .ok (.aload_n 1, 1) := by decide +kernel
theorem dL_law_946 : decode cL_law 946 = .ok (.iload 19, 2) := by decide +kernel
theorem dL_law_948 : decode cL_law 948 = .ok (.iload 20, 2) := by decide +kernel
theorem dL_law_950 : decode cL_law 950 = .ok (.iconst 1, 1) := by decide +kernel
theorem dL_law_951 : decode cL_law 951 = .ok (.invokevirtual 150, 3) := by decide +kernel
theorem dL_law_954 : decode cL_law 954 = .ok (.ifCond .le 20, 3) := by decide +kernel
theorem dL_law_957 : decode cL_law 957 = .ok (.aload_n 1, 1) := by decide +kernel
theorem dL_law_958 : decode cL_law 958 = .ok (.iload 19, 2) := by decide +kernel
theorem dL_law_960 : decode cL_law 960 = .ok (.iload 20, 2) := by decide +kernel
theorem dL_law_962 : decode cL_law 962 = .ok (.iconst 2, 1) := by decide +kernel
theorem dL_law_963 : decode cL_law 963 = .ok (.invokevirtual 150, 3) := by decide +kernel
theorem dL_law_966 : decode cL_law 966 = .ok (.sipush 400, 3) := by decide +kernel
theorem dL_law_969 : decode cL_law 969 = .ok (.if_icmp .lt 5, 3) := by decide +kernel
theorem dL_law_972 : decode cL_law 972 = .ok (.iconst 0, 1) := by decide +kernel
theorem dL_law_973 : decode cL_law 973 = .ok (.ireturn, 1) := by decide +kernel
theorem dL_law_974 : decode cL_law 974 = .ok (.iinc 20 1, 3) := by decide +kernel
theorem dL_law_977 : decode cL_law 977 = .ok (.goto (-39), 3) := by decide +kernel
theorem dL_law_980 : decode cL_law 980 = .ok (.iinc 19 1, 3) := by decide +kernel
theorem dL_law_983 : decode cL_law 983 = .ok (.goto (-55), 3) := by decide +kernel
theorem dL_law_986 : decode cL_law 986 = .ok (.iinc 5 1, 3) := by decide +kernel
theorem dL_law_989 : decode cL_law 989 = .ok (.goto (-961), 3) := by decide +kernel
theorem dL_law_992 : decode cL_law 992 = .ok (.aload_n 2, 1) := by decide +kernel
theorem dL_law_993 : decode cL_law 993 = .ok (.aload_n 1, 1) := by decide +kernel
theorem dL_law_994 : decode cL_law 994 = .ok (.invokevirtual 161, 3) := by decide +kernel
theorem dL_law_997 : decode cL_law 997 = .ok (.ireturn, 1) := by decide +kernel
