theorem dM_init_0 : decode c_M_init 0 = .ok (.aload_n 0, 1) := by decide +kernel
theorem dM_init_1 : decode c_M_init 1 = .ok (.invokespecial 1, 3) := by decide +kernel
theorem dM_init_4 : decode c_M_init 4 = .ok (.aload_n 0, 1) := by decide +kernel
theorem dM_init_5 : decode c_M_init 5 = .ok (.bipush 12, 2) := by decide +kernel
theorem dM_init_7 : decode c_M_init 7 = .ok (.newarray .int, 2) := by decide +kernel
theorem dM_init_9 : decode c_M_init 9 = .ok (.putfield 7, 3) := by decide +kernel
theorem dM_init_12 : decode c_M_init 12 = .ok (.aload_n 0, 1) := by decide +kernel
theorem dM_init_13 : decode c_M_init 13 = .ok (.bipush 16, 2) := by decide +kernel
theorem dM_init_15 : decode c_M_init 15 = .ok (.newarray .int, 2) := by decide +kernel
theorem dM_init_17 : decode c_M_init 17 = .ok (.putfield 13, 3) := by decide +kernel
theorem dM_init_20 : decode c_M_init 20 = .ok (.aload_n 0, 1) := by decide +kernel
theorem dM_init_21 : decode c_M_init 21 = .ok (.bipush 16, 2) := by decide +kernel
theorem dM_init_23 : decode c_M_init 23 = .ok (.newarray .int, 2) := by decide +kernel
theorem dM_init_25 : decode c_M_init 25 = .ok (.putfield 16, 3) := by decide +kernel
theorem dM_init_28 : decode c_M_init 28 = .ok (.aload_n 0, 1) := by decide +kernel
theorem dM_init_29 : decode c_M_init 29 = .ok (.bipush 16, 2) := by decide +kernel
theorem dM_init_31 : decode c_M_init 31 = .ok (.newarray .int, 2) := by decide +kernel
theorem dM_init_33 : decode c_M_init 33 = .ok (.putfield 19, 3) := by decide +kernel
theorem dM_init_36 : decode c_M_init 36 = .ok (.aload_n 0, 1) := by decide +kernel
theorem dM_init_37 : decode c_M_init 37 = .ok (.bipush 16, 2) := by decide +kernel
theorem dM_init_39 : decode c_M_init 39 = .ok (.newarray .int, 2) := by decide +kernel
theorem dM_init_41 : decode c_M_init 41 = .ok (.putfield 22, 3) := by decide +kernel
theorem dM_init_44 : decode c_M_init 44 = .ok (.aload_n 0, 1) := by decide +kernel
theorem dM_init_45 : decode c_M_init 45 = .ok (.bipush 16, 2) := by decide +kernel
theorem dM_init_47 : decode c_M_init 47 = .ok (.newarray .int, 2) := by decide +kernel
theorem dM_init_49 : decode c_M_init 49 = .ok (.putfield 25, 3) := by decide +kernel
theorem dM_init_52 : decode c_M_init 52 = .ok (.aload_n 0, 1) := by decide +kernel
theorem dM_init_53 : decode c_M_init 53 = .ok (.bipush 8, 2) := by decide +kernel
theorem dM_init_55 : decode c_M_init 55 = .ok (.newarray .int, 2) := by decide +kernel
theorem dM_init_57 : decode c_M_init 57 = .ok (.putfield 28, 3) := by decide +kernel
theorem dM_init_60 : decode c_M_init 60 = .ok (.aload_n 0, 1) := by decide +kernel
theorem dM_init_61 : decode c_M_init 61 = .ok (.iconst 2, 1) := by decide +kernel
theorem dM_init_62 : decode c_M_init 62 = .ok (.newarray .int, 2) := by decide +kernel
theorem dM_init_64 : decode c_M_init 64 = .ok (.putfield 31, 3) := by decide +kernel
theorem dM_init_67 : decode c_M_init 67 = .ok (.aload_n 0, 1) := by decide +kernel
theorem dM_init_68 : decode c_M_init 68 = .ok (.iconst 2, 1) := by decide +kernel
theorem dM_init_69 : decode c_M_init 69 = .ok (.newarray .int, 2) := by decide +kernel
theorem dM_init_71 : decode c_M_init 71 = .ok (.putfield 34, 3) := by decide +kernel
theorem dM_init_74 : decode c_M_init 74 = .ok (.aload_n 0, 1) := by decide +kernel
theorem dM_init_75 : decode c_M_init 75 = .ok (.sipush 1024, 3) := by decide +kernel
theorem dM_init_78 : decode c_M_init 78 = .ok (.newarray .int, 2) := by decide +kernel
theorem dM_init_80 : decode c_M_init 80 = .ok (.putfield 37, 3) := by decide +kernel
theorem dM_init_83 : decode c_M_init 83 = .ok (.aload_n 0, 1) := by decide +kernel
theorem dM_init_84 : decode c_M_init 84 = .ok (.bipush 12, 2) := by decide +kernel
theorem dM_init_86 : decode c_M_init 86 = .ok (.newarray .int, 2) := by decide +kernel
theorem dM_init_88 : decode c_M_init 88 = .ok (.putfield 40, 3) := by decide +kernel
theorem dM_init_91 : decode c_M_init 91 = .ok (.aload_n 0, 1) := by decide +kernel
theorem dM_init_92 : decode c_M_init 92 = .ok (.bipush 12, 2) := by decide +kernel
theorem dM_init_94 : decode c_M_init 94 = .ok (.newarray .int, 2) := by decide +kernel
theorem dM_init_96 : decode c_M_init 96 = .ok (.putfield 43, 3) := by decide +kernel
theorem dM_init_99 : decode c_M_init 99 = .ok (.aload_n 0, 1) := by decide +kernel
theorem dM_init_100 : decode c_M_init 100 = .ok (.bipush 12, 2) := by decide +kernel
theorem dM_init_102 : decode c_M_init 102 = .ok (.newarray .int, 2) := by decide +kernel
theorem dM_init_104 : decode c_M_init 104 = .ok (.putfield 46, 3) := by decide +kernel
theorem dM_init_107 : decode c_M_init 107 = .ok (.aload_n 0, 1) := by decide +kernel
theorem dM_init_108 : decode c_M_init 108 = .ok (.bipush 12, 2) := by decide +kernel
theorem dM_init_110 : decode c_M_init 110 = .ok (.newarray .int, 2) := by decide +kernel
theorem dM_init_112 : decode c_M_init 112 = .ok (.putfield 49, 3) := by decide +kernel
theorem dM_init_115 : decode c_M_init 115 = .ok (.aload_n 0, 1) := by decide +kernel
theorem dM_init_116 : decode c_M_init 116 = .ok (.bipush 12, 2) := by decide +kernel
theorem dM_init_118 : decode c_M_init 118 = .ok (.newarray .boolean, 2) := by decide +kernel
theorem dM_init_120 : decode c_M_init 120 = .ok (.putfield 52, 3) := by decide +kernel
theorem dM_init_123 : decode c_M_init 123 = .ok (.aload_n 0, 1) := by decide +kernel
theorem dM_init_124 : decode c_M_init 124 = .ok (.bipush 12, 2) := by decide +kernel
theorem dM_init_126 : decode c_M_init 126 = .ok (.newarray .int, 2) := by decide +kernel
theorem dM_init_128 : decode c_M_init 128 = .ok (.putfield 56, 3) := by decide +kernel
theorem dM_init_131 : decode c_M_init 131 = .ok (.aload_n 0, 1) := by decide +kernel
theorem dM_init_132 : decode c_M_init 132 = .ok (.bipush 12, 2) := by decide +kernel
theorem dM_init_134 : decode c_M_init 134 = .ok (.newarray .int, 2) := by decide +kernel
theorem dM_init_136 : decode c_M_init 136 = .ok (.putfield 59, 3) := by decide +kernel
theorem dM_init_139 : decode c_M_init 139 = .ok (.aload_n 0, 1) := by decide +kernel
theorem dM_init_140 : decode c_M_init 140 = .ok (.bipush 32, 2) := by decide +kernel
theorem dM_init_142 : decode c_M_init 142 = .ok (.newarray .int, 2) := by decide +kernel
theorem dM_init_144 : decode c_M_init 144 = .ok (.putfield 62, 3) := by decide +kernel
theorem dM_init_147 : decode c_M_init 147 = .ok (.aload_n 0, 1) := by decide +kernel
theorem dM_init_148 : decode c_M_init 148 = .ok (.bipush 32, 2) := by decide +kernel
theorem dM_init_150 : decode c_M_init 150 = .ok (.newarray .int, 2) := by decide +kernel
theorem dM_init_152 : decode c_M_init 152 = .ok (.putfield 65, 3) := by decide +kernel
theorem dM_init_155 : decode c_M_init 155 = .ok (.aload_n 0, 1) := by decide +kernel
theorem dM_init_156 : decode c_M_init 156 = .ok (.iconst 5, 1) := by decide +kernel
theorem dM_init_157 : decode c_M_init 157 = .ok (.newarray .int, 2) := by decide +kernel
theorem dM_init_159 : decode c_M_init 159 = .ok (.putfield 68, 3) := by decide +kernel
theorem dM_init_162 : decode c_M_init 162 = .ok (.aload_n 0, 1) := by decide +kernel
theorem dM_init_163 : decode c_M_init 163 = .ok (.iload_n 1, 1) := by decide +kernel
theorem dM_init_164 : decode c_M_init 164 = .ok (.iconst 1, 1) := by decide +kernel
theorem dM_init_165 : decode c_M_init 165 = .ok (.if_icmp .ge 7, 3) := by decide +kernel
theorem dM_init_168 : decode c_M_init 168 = .ok (.iconst 1, 1) := by decide +kernel
theorem dM_init_169 : decode c_M_init 169 = .ok (.goto 15, 3) := by decide +kernel
theorem dM_init_172 : decode c_M_init 172 = .ok (.iload_n 1, 1) := by decide +kernel
theorem dM_init_173 : decode c_M_init 173 = .ok (.bipush 8, 2) := by decide +kernel
theorem dM_init_175 : decode c_M_init 175 = .ok (.if_icmp .le 8, 3) := by decide +kernel
theorem dM_init_178 : decode c_M_init 178 = .ok (.bipush 8, 2) := by decide +kernel
theorem dM_init_180 : decode c_M_init 180 = .ok (.goto 4, 3) := by decide +kernel
theorem dM_init_183 : decode c_M_init 183 = .ok (.iload_n 1, 1) := by decide +kernel
theorem dM_init_184 : decode c_M_init 184 = .ok (.putfield 71, 3) := by decide +kernel
theorem dM_init_187 : decode c_M_init 187 = .ok (.aload_n 0, 1) := by decide +kernel
theorem dM_init_188 : decode c_M_init 188 = .ok (.iload_n 2, 1) := by decide +kernel
theorem dM_init_189 : decode c_M_init 189 = .ok (.iconst 1, 1) := by decide +kernel
theorem dM_init_190 : decode c_M_init 190 = .ok (.if_icmp .ge 7, 3) := by decide +kernel
theorem dM_init_193 : decode c_M_init 193 = .ok (.iconst 1, 1) := by decide +kernel
theorem dM_init_194 : decode c_M_init 194 = .ok (.goto 15, 3) := by decide +kernel
theorem dM_init_197 : decode c_M_init 197 = .ok (.iload_n 2, 1) := by decide +kernel
theorem dM_init_198 : decode c_M_init 198 = .ok (.bipush 12, 2) := by decide +kernel
theorem dM_init_200 : decode c_M_init 200 = .ok (.if_icmp .le 8, 3) := by decide +kernel
theorem dM_init_203 : decode c_M_init 203 = .ok (.bipush 12, 2) := by decide +kernel
theorem dM_init_205 : decode c_M_init 205 = .ok (.goto 4, 3) := by decide +kernel
theorem dM_init_208 : decode c_M_init 208 = .ok (.iload_n 2, 1) := by decide +kernel
theorem dM_init_209 : decode c_M_init 209 = .ok (.putfield 75, 3) := by decide +kernel
theorem dM_init_212 : decode c_M_init 212 = .ok (.aload_n 0, 1) := by decide +kernel
theorem dM_init_213 : decode c_M_init 213 = .ok (.iload_n 3, 1) := by decide +kernel
theorem dM_init_214 : decode c_M_init 214 = .ok (.iconst 1, 1) := by decide +kernel
theorem dM_init_215 : decode c_M_init 215 = .ok (.if_icmp .ge 7, 3) := by decide +kernel
theorem dM_init_218 : decode c_M_init 218 = .ok (.iconst 1, 1) := by decide +kernel
theorem dM_init_219 : decode c_M_init 219 = .ok (.goto 17, 3) := by decide +kernel
theorem dM_init_222 : decode c_M_init 222 = .ok (.iload_n 3, 1) := by decide +kernel
theorem dM_init_223 : decode c_M_init 223 = .ok (.sipush 1000, 3) := by decide +kernel
theorem dM_init_226 : decode c_M_init 226 = .ok (.if_icmp .le 9, 3) := by decide +kernel
theorem dM_init_229 : decode c_M_init 229 = .ok (.sipush 1000, 3) := by decide +kernel
theorem dM_init_232 : decode c_M_init 232 = .ok (.goto 4, 3) := by decide +kernel
theorem dM_init_235 : decode c_M_init 235 = .ok (.iload_n 3, 1) := by decide +kernel
theorem dM_init_236 : decode c_M_init 236 = .ok (.putfield 78, 3) := by decide +kernel
theorem dM_init_239 : decode c_M_init 239 = .ok (.iconst 0, 1) := by decide +kernel
theorem dM_init_240 : decode c_M_init 240 = .ok (.istore 4, 2) := by decide +kernel
theorem dM_init_242 : decode c_M_init 242 = .ok (.iload 4, 2) := by decide +kernel
theorem dM_init_244 : decode c_M_init 244 = .ok (.bipush 16, 2) := by decide +kernel
theorem dM_init_246 : decode c_M_init 246 = .ok (.if_icmp .ge 49, 3) := by decide +kernel
theorem dM_init_249 : decode c_M_init 249 = .ok (.aload_n 0, 1) := by decide +kernel
theorem dM_init_250 : decode c_M_init 250 = .ok (.getfield 13, 3) := by decide +kernel
theorem dM_init_253 : decode c_M_init 253 = .ok (.iload 4, 2) := by decide +kernel
theorem dM_init_255 : decode c_M_init 255 = .ok (.iconst (-1), 1) := by decide +kernel
theorem dM_init_256 : decode c_M_init 256 = .ok (.iastore, 1) := by decide +kernel
theorem dM_init_257 : decode c_M_init 257 = .ok (.aload_n 0, 1) := by decide +kernel
theorem dM_init_258 : decode c_M_init 258 = .ok (.getfield 16, 3) := by decide +kernel
theorem dM_init_261 : decode c_M_init 261 = .ok (.iload 4, 2) := by decide +kernel
theorem dM_init_263 : decode c_M_init 263 = .ok (.iconst (-1), 1) := by decide +kernel
theorem dM_init_264 : decode c_M_init 264 = .ok (.iastore, 1) := by decide +kernel
theorem dM_init_265 : decode c_M_init 265 = .ok (.aload_n 0, 1) := by decide +kernel
theorem dM_init_266 : decode c_M_init 266 = .ok (.getfield 19, 3) := by decide +kernel
theorem dM_init_269 : decode c_M_init 269 = .ok (.iload 4, 2) := by decide +kernel
theorem dM_init_271 : decode c_M_init 271 = .ok (.iconst (-1), 1) := by decide +kernel
theorem dM_init_272 : decode c_M_init 272 = .ok (.iastore, 1) := by decide +kernel
theorem dM_init_273 : decode c_M_init 273 = .ok (.aload_n 0, 1) := by decide +kernel
theorem dM_init_274 : decode c_M_init 274 = .ok (.getfield 22, 3) := by decide +kernel
theorem dM_init_277 : decode c_M_init 277 = .ok (.iload 4, 2) := by decide +kernel
theorem dM_init_279 : decode c_M_init 279 = .ok (.iconst (-1), 1) := by decide +kernel
theorem dM_init_280 : decode c_M_init 280 = .ok (.iastore, 1) := by decide +kernel
theorem dM_init_281 : decode c_M_init 281 = .ok (.aload_n 0, 1) := by decide +kernel
theorem dM_init_282 : decode c_M_init 282 = .ok (.getfield 25, 3) := by decide +kernel
theorem dM_init_285 : decode c_M_init 285 = .ok (.iload 4, 2) := by decide +kernel
theorem dM_init_287 : decode c_M_init 287 = .ok (.iconst (-1), 1) := by decide +kernel
theorem dM_init_288 : decode c_M_init 288 = .ok (.iastore, 1) := by decide +kernel
theorem dM_init_289 : decode c_M_init 289 = .ok (.iinc 4 1, 3) := by decide +kernel
theorem dM_init_292 : decode c_M_init 292 = .ok (.goto (-50), 3) := by decide +kernel
theorem dM_init_295 : decode c_M_init 295 = .ok (.iconst 0, 1) := by decide +kernel
theorem dM_init_296 : decode c_M_init 296 = .ok (.istore 4, 2) := by decide +kernel
theorem dM_init_298 : decode c_M_init 298 = .ok (.iload 4, 2) := by decide +kernel
theorem dM_init_300 : decode c_M_init 300 = .ok (.bipush 8, 2) := by decide +kernel
theorem dM_init_302 : decode c_M_init 302 = .ok (.if_icmp .ge 17, 3) := by decide +kernel
theorem dM_init_305 : decode c_M_init 305 = .ok (.aload_n 0, 1) := by decide +kernel
theorem dM_init_306 : decode c_M_init 306 = .ok (.getfield 28, 3) := by decide +kernel
theorem dM_init_309 : decode c_M_init 309 = .ok (.iload 4, 2) := by decide +kernel
theorem dM_init_311 : decode c_M_init 311 = .ok (.iconst (-1), 1) := by decide +kernel
theorem dM_init_312 : decode c_M_init 312 = .ok (.iastore, 1) := by decide +kernel
theorem dM_init_313 : decode c_M_init 313 = .ok (.iinc 4 1, 3) := by decide +kernel
theorem dM_init_316 : decode c_M_init 316 = .ok (.goto (-18), 3) := by decide +kernel
theorem dM_init_319 : decode c_M_init 319 = .ok (.aload_n 0, 1) := by decide +kernel
theorem dM_init_320 : decode c_M_init 320 = .ok (.getfield 31, 3) := by decide +kernel
theorem dM_init_323 : decode c_M_init 323 = .ok (.iconst 0, 1) := by decide +kernel
theorem dM_init_324 : decode c_M_init 324 = .ok (.iconst (-1), 1) := by decide +kernel
theorem dM_init_325 : decode c_M_init 325 = .ok (.iastore, 1) := by decide +kernel
theorem dM_init_326 : decode c_M_init 326 = .ok (.aload_n 0, 1) := by decide +kernel
theorem dM_init_327 : decode c_M_init 327 = .ok (.getfield 31, 3) := by decide +kernel
theorem dM_init_330 : decode c_M_init 330 = .ok (.iconst 1, 1) := by decide +kernel
theorem dM_init_331 : decode c_M_init 331 = .ok (.iconst (-1), 1) := by decide +kernel
theorem dM_init_332 : decode c_M_init 332 = .ok (.iastore, 1) := by decide +kernel
theorem dM_init_333 : decode c_M_init 333 = .ok (.aload_n 0, 1) := by decide +kernel
theorem dM_init_334 : decode c_M_init 334 = .ok (.getfield 7, 3) := by decide +kernel
theorem dM_init_337 : decode c_M_init 337 = .ok (.iconst 0, 1) := by decide +kernel
theorem dM_init_338 : decode c_M_init 338 = .ok (.iconst 3, 1) := by decide +kernel
theorem dM_init_339 : decode c_M_init 339 = .ok (.iastore, 1) := by decide +kernel
theorem dM_init_340 : decode c_M_init 340 = .ok (.aload_n 0, 1) := by decide +kernel
theorem dM_init_341 : decode c_M_init 341 = .ok (.getfield 7, 3) := by decide +kernel
theorem dM_init_344 : decode c_M_init 344 = .ok (.iconst 1, 1) := by decide +kernel
theorem dM_init_345 : decode c_M_init 345 = .ok (.iconst 3, 1) := by decide +kernel
theorem dM_init_346 : decode c_M_init 346 = .ok (.iastore, 1) := by decide +kernel
theorem dM_init_347 : decode c_M_init 347 = .ok (.aload_n 0, 1) := by decide +kernel
theorem dM_init_348 : decode c_M_init 348 = .ok (.getfield 7, 3) := by decide +kernel
theorem dM_init_351 : decode c_M_init 351 = .ok (.iconst 2, 1) := by decide +kernel
theorem dM_init_352 : decode c_M_init 352 = .ok (.bipush 6, 2) := by decide +kernel
theorem dM_init_354 : decode c_M_init 354 = .ok (.iastore, 1) := by decide +kernel
theorem dM_init_355 : decode c_M_init 355 = .ok (.aload_n 0, 1) := by decide +kernel
theorem dM_init_356 : decode c_M_init 356 = .ok (.getfield 7, 3) := by decide +kernel
theorem dM_init_359 : decode c_M_init 359 = .ok (.iconst 3, 1) := by decide +kernel
theorem dM_init_360 : decode c_M_init 360 = .ok (.bipush 9, 2) := by decide +kernel
theorem dM_init_362 : decode c_M_init 362 = .ok (.iastore, 1) := by decide +kernel
theorem dM_init_363 : decode c_M_init 363 = .ok (.aload_n 0, 1) := by decide +kernel
theorem dM_init_364 : decode c_M_init 364 = .ok (.getfield 7, 3) := by decide +kernel
theorem dM_init_367 : decode c_M_init 367 = .ok (.iconst 4, 1) := by decide +kernel
theorem dM_init_368 : decode c_M_init 368 = .ok (.iconst 5, 1) := by decide +kernel
theorem dM_init_369 : decode c_M_init 369 = .ok (.iastore, 1) := by decide +kernel
theorem dM_init_370 : decode c_M_init 370 = .ok (.aload_n 0, 1) := by decide +kernel
theorem dM_init_371 : decode c_M_init 371 = .ok (.getfield 7, 3) := by decide +kernel
theorem dM_init_374 : decode c_M_init 374 = .ok (.iconst 5, 1) := by decide +kernel
theorem dM_init_375 : decode c_M_init 375 = .ok (.iconst 2, 1) := by decide +kernel
theorem dM_init_376 : decode c_M_init 376 = .ok (.iastore, 1) := by decide +kernel
theorem dM_init_377 : decode c_M_init 377 = .ok (.aload_n 0, 1) := by decide +kernel
theorem dM_init_378 : decode c_M_init 378 = .ok (.getfield 7, 3) := by decide +kernel
theorem dM_init_381 : decode c_M_init 381 = .ok (.bipush 6, 2) := by decide +kernel
theorem dM_init_383 : decode c_M_init 383 = .ok (.iconst 2, 1) := by decide +kernel
theorem dM_init_384 : decode c_M_init 384 = .ok (.iastore, 1) := by decide +kernel
theorem dM_init_385 : decode c_M_init 385 = .ok (.aload_n 0, 1) := by decide +kernel
theorem dM_init_386 : decode c_M_init 386 = .ok (.getfield 7, 3) := by decide +kernel
theorem dM_init_389 : decode c_M_init 389 = .ok (.bipush 7, 2) := by decide +kernel
theorem dM_init_391 : decode c_M_init 391 = .ok (.iconst 2, 1) := by decide +kernel
theorem dM_init_392 : decode c_M_init 392 = .ok (.iastore, 1) := by decide +kernel
theorem dM_init_393 : decode c_M_init 393 = .ok (.aload_n 0, 1) := by decide +kernel
theorem dM_init_394 : decode c_M_init 394 = .ok (.getfield 7, 3) := by decide +kernel
theorem dM_init_397 : decode c_M_init 397 = .ok (.bipush 8, 2) := by decide +kernel
theorem dM_init_399 : decode c_M_init 399 = .ok (.bipush 12, 2) := by decide +kernel
theorem dM_init_401 : decode c_M_init 401 = .ok (.iastore, 1) := by decide +kernel
theorem dM_init_402 : decode c_M_init 402 = .ok (.aload_n 0, 1) := by decide +kernel
theorem dM_init_403 : decode c_M_init 403 = .ok (.getfield 7, 3) := by decide +kernel
theorem dM_init_406 : decode c_M_init 406 = .ok (.bipush 9, 2) := by decide +kernel
theorem dM_init_408 : decode c_M_init 408 = .ok (.bipush 8, 2) := by decide +kernel
theorem dM_init_410 : decode c_M_init 410 = .ok (.iastore, 1) := by decide +kernel
theorem dM_init_411 : decode c_M_init 411 = .ok (.aload_n 0, 1) := by decide +kernel
theorem dM_init_412 : decode c_M_init 412 = .ok (.getfield 7, 3) := by decide +kernel
theorem dM_init_415 : decode c_M_init 415 = .ok (.bipush 10, 2) := by decide +kernel
theorem dM_init_417 : decode c_M_init 417 = .ok (.bipush 60, 2) := by decide +kernel
theorem dM_init_419 : decode c_M_init 419 = .ok (.iastore, 1) := by decide +kernel
theorem dM_init_420 : decode c_M_init 420 = .ok (.aload_n 0, 1) := by decide +kernel
theorem dM_init_421 : decode c_M_init 421 = .ok (.getfield 7, 3) := by decide +kernel
theorem dM_init_424 : decode c_M_init 424 = .ok (.bipush 11, 2) := by decide +kernel
theorem dM_init_426 : decode c_M_init 426 = .ok (.iconst 3, 1) := by decide +kernel
theorem dM_init_427 : decode c_M_init 427 = .ok (.iastore, 1) := by decide +kernel
theorem dM_init_428 : decode c_M_init 428 = .ok (.return_, 1) := by decide +kernel
theorem gFM_7 : kb_FPF vwCl wsB "BankSchedulerModel" 7 3 4 (.array .int) := ⟨(RM, TM, 27), tyTM, rfl, uwTM, tyTM_ok, nmTM, by decide, (kn_3 15 rfl rfl), rfl, rfl, rfl, by decide +kernel⟩
theorem gFM_13 : kb_FPF vwCl wsB "BankSchedulerModel" 13 3 5 (.array .int) := ⟨(RM, TM, 27), tyTM, rfl, uwTM, tyTM_ok, nmTM, by decide, (kn_3 16 rfl rfl), rfl, rfl, rfl, by decide +kernel⟩
theorem gFM_16 : kb_FPF vwCl wsB "BankSchedulerModel" 16 3 6 (.array .int) := ⟨(RM, TM, 27), tyTM, rfl, uwTM, tyTM_ok, nmTM, by decide, (kn_3 17 rfl rfl), rfl, rfl, rfl, by decide +kernel⟩
theorem gFM_19 : kb_FPF vwCl wsB "BankSchedulerModel" 19 3 7 (.array .int) := ⟨(RM, TM, 27), tyTM, rfl, uwTM, tyTM_ok, nmTM, by decide, (kn_3 18 rfl rfl), rfl, rfl, rfl, by decide +kernel⟩
theorem gFM_22 : kb_FPF vwCl wsB "BankSchedulerModel" 22 3 8 (.array .int) := ⟨(RM, TM, 27), tyTM, rfl, uwTM, tyTM_ok, nmTM, by decide, (kn_3 19 rfl rfl), rfl, rfl, rfl, by decide +kernel⟩
theorem gFM_25 : kb_FPF vwCl wsB "BankSchedulerModel" 25 3 9 (.array .int) := ⟨(RM, TM, 27), tyTM, rfl, uwTM, tyTM_ok, nmTM, by decide, (kn_3 20 rfl rfl), rfl, rfl, rfl, by decide +kernel⟩
theorem gFM_28 : kb_FPF vwCl wsB "BankSchedulerModel" 28 3 10 (.array .int) := ⟨(RM, TM, 27), tyTM, rfl, uwTM, tyTM_ok, nmTM, by decide, (kn_3 21 rfl rfl), rfl, rfl, rfl, by decide +kernel⟩
theorem gFM_31 : kb_FPF vwCl wsB "BankSchedulerModel" 31 3 11 (.array .int) := ⟨(RM, TM, 27), tyTM, rfl, uwTM, tyTM_ok, nmTM, by decide, (kn_3 22 rfl rfl), rfl, rfl, rfl, by decide +kernel⟩
theorem gFM_34 : kb_FPF vwCl wsB "BankSchedulerModel" 34 3 12 (.array .int) := ⟨(RM, TM, 27), tyTM, rfl, uwTM, tyTM_ok, nmTM, by decide, (kn_3 23 rfl rfl), rfl, rfl, rfl, by decide +kernel⟩
theorem gFM_37 : kb_FPF vwCl wsB "BankSchedulerModel" 37 3 13 (.array .int) := ⟨(RM, TM, 27), tyTM, rfl, uwTM, tyTM_ok, nmTM, by decide, (kn_3 24 rfl rfl), rfl, rfl, rfl, by decide +kernel⟩
theorem gFM_40 : kb_FPF vwCl wsB "BankSchedulerModel" 40 3 15 (.array .int) := ⟨(RM, TM, 27), tyTM, rfl, uwTM, tyTM_ok, nmTM, by decide, (kn_3 26 rfl rfl), rfl, rfl, rfl, by decide +kernel⟩
theorem gFM_43 : kb_FPF vwCl wsB "BankSchedulerModel" 43 3 16 (.array .int) := ⟨(RM, TM, 27), tyTM, rfl, uwTM, tyTM_ok, nmTM, by decide, (kn_3 27 rfl rfl), rfl, rfl, rfl, by decide +kernel⟩
theorem gFM_46 : kb_FPF vwCl wsB "BankSchedulerModel" 46 3 17 (.array .int) := ⟨(RM, TM, 27), tyTM, rfl, uwTM, tyTM_ok, nmTM, by decide, (kn_3 28 rfl rfl), rfl, rfl, rfl, by decide +kernel⟩
theorem gFM_49 : kb_FPF vwCl wsB "BankSchedulerModel" 49 3 18 (.array .int) := ⟨(RM, TM, 27), tyTM, rfl, uwTM, tyTM_ok, nmTM, by decide, (kn_3 29 rfl rfl), rfl, rfl, rfl, by decide +kernel⟩
theorem gFM_52 : kb_FPF vwCl wsB "BankSchedulerModel" 52 3 19 (.array .boolean) := ⟨(RM, TM, 27), tyTM, rfl, uwTM, tyTM_ok, nmTM, by decide, (kn_3 30 rfl rfl), rfl, rfl, rfl, by decide +kernel⟩
theorem gFM_56 : kb_FPF vwCl wsB "BankSchedulerModel" 56 3 20 (.array .int) := ⟨(RM, TM, 27), tyTM, rfl, uwTM, tyTM_ok, nmTM, by decide, (kn_3 31 rfl rfl), rfl, rfl, rfl, by decide +kernel⟩
theorem gFM_59 : kb_FPF vwCl wsB "BankSchedulerModel" 59 3 21 (.array .int) := ⟨(RM, TM, 27), tyTM, rfl, uwTM, tyTM_ok, nmTM, by decide, (kn_3 32 rfl rfl), rfl, rfl, rfl, by decide +kernel⟩
theorem gFM_62 : kb_FPF vwCl wsB "BankSchedulerModel" 62 3 23 (.array .int) := ⟨(RM, TM, 27), tyTM, rfl, uwTM, tyTM_ok, nmTM, by decide, (kn_3 34 rfl rfl), rfl, rfl, rfl, by decide +kernel⟩
theorem gFM_65 : kb_FPF vwCl wsB "BankSchedulerModel" 65 3 24 (.array .int) := ⟨(RM, TM, 27), tyTM, rfl, uwTM, tyTM_ok, nmTM, by decide, (kn_3 35 rfl rfl), rfl, rfl, rfl, by decide +kernel⟩
theorem gFM_68 : kb_FPF vwCl wsB "BankSchedulerModel" 68 3 25 (.array .int) := ⟨(RM, TM, 27), tyTM, rfl, uwTM, tyTM_ok, nmTM, by decide, (kn_3 36 rfl rfl), rfl, rfl, rfl, by decide +kernel⟩
theorem gFM_71 : kb_FPF vwCl wsB "BankSchedulerModel" 71 3 1 .int := ⟨(RM, TM, 27), tyTM, rfl, uwTM, tyTM_ok, nmTM, by decide, (kn_3 12 rfl rfl), rfl, rfl, rfl, by decide +kernel⟩
theorem gFM_75 : kb_FPF vwCl wsB "BankSchedulerModel" 75 3 2 .int := ⟨(RM, TM, 27), tyTM, rfl, uwTM, tyTM_ok, nmTM, by decide, (kn_3 13 rfl rfl), rfl, rfl, rfl, by decide +kernel⟩
theorem gFM_78 : kb_FPF vwCl wsB "BankSchedulerModel" 78 3 3 .int := ⟨(RM, TM, 27), tyTM, rfl, uwTM, tyTM_ok, nmTM, by decide, (kn_3 14 rfl rfl), rfl, rfl, rfl, by decide +kernel⟩
theorem Y_M_init : kb_Y wsB y_M_init c_M_init 5 none 3 := ⟨kn_g, (kn_3 9 rfl rfl), (kn_1 5 rfl rfl), by decide, by decide, by decide +kernel⟩
theorem I_M_init : Cond.instanceMethod y_M_init ∈ wsB := (kn_3 8 rfl rfl)
def kz0 : kb_S := fun _ _ => 0
theorem kc_e {σ : Type} {r : Int32} {v : Int32} {z z' : σ} (h : some (v, z) = some (r, z')) : z = z' := congrArg Prod.snd (Option.some.inj h)
abbrev rm_M_init : Room := { frames := 1, cells := 20, slots := 1281, locals := 12 }
noncomputable def pM_init_L298 : Nat → Int32 → kb_S → Option (Int32 × kb_S)
  | 0, _, _ => none
  | n + 1, x4, z => kb_br (8 ≤ x4) (kb_ck (vp_in (0) 2) (kb_st (kb_up z 8 (kb_ix (0)) ((-1))) (fun z8 => kb_ck (vp_in (1) 2) (kb_st (kb_up z8 8 (kb_ix (1)) ((-1))) (fun z11 => kb_ck (vp_in (0) 12) (kb_st (kb_up z11 1 (kb_ix (0)) (3)) (fun z14 => kb_ck (vp_in (1) 12) (kb_st (kb_up z14 1 (kb_ix (1)) (3)) (fun z17 => kb_ck (vp_in (2) 12) (kb_st (kb_up z17 1 (kb_ix (2)) (6)) (fun z20 => kb_ck (vp_in (3) 12) (kb_st (kb_up z20 1 (kb_ix (3)) (9)) (fun z23 => kb_ck (vp_in (4) 12) (kb_st (kb_up z23 1 (kb_ix (4)) (5)) (fun z26 => kb_ck (vp_in (5) 12) (kb_st (kb_up z26 1 (kb_ix (5)) (2)) (fun z29 => kb_ck (vp_in (6) 12) (kb_st (kb_up z29 1 (kb_ix (6)) (2)) (fun z32 => kb_ck (vp_in (7) 12) (kb_st (kb_up z32 1 (kb_ix (7)) (2)) (fun z35 => kb_ck (vp_in (8) 12) (kb_st (kb_up z35 1 (kb_ix (8)) (12)) (fun z38 => kb_ck (vp_in (9) 12) (kb_st (kb_up z38 1 (kb_ix (9)) (8)) (fun z41 => kb_ck (vp_in (10) 12) (kb_st (kb_up z41 1 (kb_ix (10)) (60)) (fun z44 => kb_ck (vp_in (11) 12) (kb_st (kb_up z44 1 (kb_ix (11)) (3)) (fun z47 => some (0, z47)))))))))))))))))))))))))))))) (kb_ck (vp_in (x4) 8) (kb_st (kb_up z 7 (kb_ix (x4)) ((-1))) (fun z50 => pM_init_L298 n (x4 + 1) z50)))
noncomputable def pM_init_L242 : Nat → Int32 → kb_S → Option (Int32 × kb_S)
  | 0, _, _ => none
  | n + 1, x4, z => kb_br (16 ≤ x4) (pM_init_L298 3000 0 z) (kb_ck (vp_in (x4) 16) (kb_st (kb_up z 2 (kb_ix (x4)) ((-1))) (fun z53 => kb_ck (vp_in (x4) 16) (kb_st (kb_up z53 3 (kb_ix (x4)) ((-1))) (fun z56 => kb_ck (vp_in (x4) 16) (kb_st (kb_up z56 4 (kb_ix (x4)) ((-1))) (fun z59 => kb_ck (vp_in (x4) 16) (kb_st (kb_up z59 5 (kb_ix (x4)) ((-1))) (fun z62 => kb_ck (vp_in (x4) 16) (kb_st (kb_up z62 6 (kb_ix (x4)) ((-1))) (fun z65 => pM_init_L242 n (x4 + 1) z65)))))))))))
noncomputable def pM_init_J209 (x3 : Int32) (s0 : Int32) (z : kb_S) : Option (Int32 × kb_S) := kb_st (kb_up z 0 2 (s0)) (fun z3 => kb_br (1 ≤ x3) (kb_br (x3 ≤ 1000) (kb_st (kb_up z3 0 3 (x3)) (fun z5 => pM_init_L242 3000 0 z5)) (kb_st (kb_up z3 0 3 (1000)) (fun z67 => pM_init_L242 3000 0 z67))) (kb_st (kb_up z3 0 3 (1)) (fun z69 => pM_init_L242 3000 0 z69)))
noncomputable def pM_init_J184 (x2 : Int32) (x3 : Int32) (s0 : Int32) (z : kb_S) : Option (Int32 × kb_S) := kb_st (kb_up z 0 1 (s0)) (fun z1 => kb_br (1 ≤ x2) (kb_br (x2 ≤ 12) (pM_init_J209 x3 x2 z1) (pM_init_J209 x3 12 z1)) (pM_init_J209 x3 1 z1))
noncomputable def pM_init (x1 : Int32) (x2 : Int32) (x3 : Int32) : Option (Int32 × kb_S) := kb_br (1 ≤ x1) (kb_br (x1 ≤ 8) (pM_init_J184 x2 x3 x1 kz0) (pM_init_J184 x2 x3 8 kz0)) (pM_init_J184 x2 x3 1 kz0)
set_option maxHeartbeats 8000000 in
set_option maxRecDepth 100000 in
theorem cM_init (l : Launch) (D : va_G) (cI cZ : ClassId) (h0 : Nat) (sz : Nat) (x1 x2 x3 : Int32) (z' : kb_S) (h : pM_init x1 x2 x3 = some (0, z')) : Met l y_M_init (Cond.code y_M_init c_M_init 5 none :: wsB) rm_M_init (kb_Pc D vwCl [(cI, .int), (cZ, .boolean)] sz [.ref h0, .int x1, .int x2, .int x3] [(h0, .inr (3, [.int 0, .int 0, .int 0, .int 0, .null, .null, .null, .null, .null, .null, .null, .null, .null, .null, .int 0, .null, .null, .null, .null, .null, .null, .null, .int 0, .null, .null, .null, .int 0]))]) (kc_Q D vwCl sz [(h0, .inr (3, [.int 0, .int 0, .int 0, .int 0, .null, .null, .null, .null, .null, .null, .null, .null, .null, .null, .int 0, .null, .null, .null, .null, .null, .null, .null, .int 0, .null, .null, .null, .int 0]))] (fun a : Nat → Nat => a 0 = h0) (fun a : Nat → Nat => mW cI cZ a z')) 20 1281 (va_A [(h0, .inr (3, [.int 0, .int 0, .int 0, .int 0, .null, .null, .null, .null, .null, .null, .null, .null, .null, .null, .int 0, .null, .null, .null, .null, .null, .null, .null, .int 0, .null, .null, .null, .int 0]))] sz) := by
  refine kc_start (by decide) rfl rfl (Nat.le_of_ble_eq_true rfl) ?_
  intro p e s m args below meth c A ls S hr hlk hsz hA w hin hl
  have hl : lv_has ls 5 [(0, .ref h0), (1, .int x1), (2, .int x2), (3, .int x3)] := hl
  refine lv_aload_n S.1 S.2.1 dM_init_0 rfl (lv_at hl 0 rfl) ?_
  refine kb_oi S oi_M hl.1 dM_init_1 ⟨Nat.le_of_ble_eq_true rfl, Nat.le_of_ble_eq_true rfl⟩ ?_
  refine lv_aload_n S.1 S.2.1 dM_init_4 rfl (lv_at hl 0 rfl) ?_
  refine lv_bipush (v := 12) S.1 S.2.1 dM_init_5 (by decide) ?_
  refine kb_newI S w 0 rfl (N := 12) (by decide) (by decide) (by decide) (Nat.le_of_ble_eq_true rfl) (Nat.le_of_ble_eq_true rfl) dM_init_7 (fun q1 H w => ?_)
  refine kb_putF S hin w 0 rfl gFM_7 rfl rfl (Nat.le_of_ble_eq_true rfl) (ws1 := [(h0, .inr (3, [.int 0, .int 0, .int 0, .int 0, .ref q1, .null, .null, .null, .null, .null, .null, .null, .null, .null, .int 0, .null, .null, .null, .null, .null, .null, .null, .int 0, .null, .null, .null, .int 0])), (q1, .inl (cI, 12, .inl (fun _ => 0)))]) rfl dM_init_9 (fun H locs w => ?_)
  refine lv_aload_n S.1 S.2.1 dM_init_12 rfl (lv_at hl 0 rfl) ?_
  refine lv_bipush (v := 16) S.1 S.2.1 dM_init_13 (by decide) ?_
  refine kb_newI S w 0 rfl (N := 16) (by decide) (by decide) (by decide) (Nat.le_of_ble_eq_true rfl) (Nat.le_of_ble_eq_true rfl) dM_init_15 (fun q2 H w => ?_)
  refine kb_putF S hin w 0 rfl gFM_13 rfl rfl (Nat.le_of_ble_eq_true rfl) (ws1 := [(h0, .inr (3, [.int 0, .int 0, .int 0, .int 0, .ref q1, .ref q2, .null, .null, .null, .null, .null, .null, .null, .null, .int 0, .null, .null, .null, .null, .null, .null, .null, .int 0, .null, .null, .null, .int 0])), (q1, .inl (cI, 12, .inl (fun _ => 0))), (q2, .inl (cI, 16, .inl (fun _ => 0)))]) rfl dM_init_17 (fun H locs w => ?_)
  refine lv_aload_n S.1 S.2.1 dM_init_20 rfl (lv_at hl 0 rfl) ?_
  refine lv_bipush (v := 16) S.1 S.2.1 dM_init_21 (by decide) ?_
  refine kb_newI S w 0 rfl (N := 16) (by decide) (by decide) (by decide) (Nat.le_of_ble_eq_true rfl) (Nat.le_of_ble_eq_true rfl) dM_init_23 (fun q3 H w => ?_)
  refine kb_putF S hin w 0 rfl gFM_16 rfl rfl (Nat.le_of_ble_eq_true rfl) (ws1 := [(h0, .inr (3, [.int 0, .int 0, .int 0, .int 0, .ref q1, .ref q2, .ref q3, .null, .null, .null, .null, .null, .null, .null, .int 0, .null, .null, .null, .null, .null, .null, .null, .int 0, .null, .null, .null, .int 0])), (q1, .inl (cI, 12, .inl (fun _ => 0))), (q2, .inl (cI, 16, .inl (fun _ => 0))), (q3, .inl (cI, 16, .inl (fun _ => 0)))]) rfl dM_init_25 (fun H locs w => ?_)
  refine lv_aload_n S.1 S.2.1 dM_init_28 rfl (lv_at hl 0 rfl) ?_
  refine lv_bipush (v := 16) S.1 S.2.1 dM_init_29 (by decide) ?_
  refine kb_newI S w 0 rfl (N := 16) (by decide) (by decide) (by decide) (Nat.le_of_ble_eq_true rfl) (Nat.le_of_ble_eq_true rfl) dM_init_31 (fun q4 H w => ?_)
  refine kb_putF S hin w 0 rfl gFM_19 rfl rfl (Nat.le_of_ble_eq_true rfl) (ws1 := [(h0, .inr (3, [.int 0, .int 0, .int 0, .int 0, .ref q1, .ref q2, .ref q3, .ref q4, .null, .null, .null, .null, .null, .null, .int 0, .null, .null, .null, .null, .null, .null, .null, .int 0, .null, .null, .null, .int 0])), (q1, .inl (cI, 12, .inl (fun _ => 0))), (q2, .inl (cI, 16, .inl (fun _ => 0))), (q3, .inl (cI, 16, .inl (fun _ => 0))), (q4, .inl (cI, 16, .inl (fun _ => 0)))]) rfl dM_init_33 (fun H locs w => ?_)
  refine lv_aload_n S.1 S.2.1 dM_init_36 rfl (lv_at hl 0 rfl) ?_
  refine lv_bipush (v := 16) S.1 S.2.1 dM_init_37 (by decide) ?_
  refine kb_newI S w 0 rfl (N := 16) (by decide) (by decide) (by decide) (Nat.le_of_ble_eq_true rfl) (Nat.le_of_ble_eq_true rfl) dM_init_39 (fun q5 H w => ?_)
  refine kb_putF S hin w 0 rfl gFM_22 rfl rfl (Nat.le_of_ble_eq_true rfl) (ws1 := [(h0, .inr (3, [.int 0, .int 0, .int 0, .int 0, .ref q1, .ref q2, .ref q3, .ref q4, .ref q5, .null, .null, .null, .null, .null, .int 0, .null, .null, .null, .null, .null, .null, .null, .int 0, .null, .null, .null, .int 0])), (q1, .inl (cI, 12, .inl (fun _ => 0))), (q2, .inl (cI, 16, .inl (fun _ => 0))), (q3, .inl (cI, 16, .inl (fun _ => 0))), (q4, .inl (cI, 16, .inl (fun _ => 0))), (q5, .inl (cI, 16, .inl (fun _ => 0)))]) rfl dM_init_41 (fun H locs w => ?_)
  refine lv_aload_n S.1 S.2.1 dM_init_44 rfl (lv_at hl 0 rfl) ?_
  refine lv_bipush (v := 16) S.1 S.2.1 dM_init_45 (by decide) ?_
  refine kb_newI S w 0 rfl (N := 16) (by decide) (by decide) (by decide) (Nat.le_of_ble_eq_true rfl) (Nat.le_of_ble_eq_true rfl) dM_init_47 (fun q6 H w => ?_)
  refine kb_putF S hin w 0 rfl gFM_25 rfl rfl (Nat.le_of_ble_eq_true rfl) (ws1 := [(h0, .inr (3, [.int 0, .int 0, .int 0, .int 0, .ref q1, .ref q2, .ref q3, .ref q4, .ref q5, .ref q6, .null, .null, .null, .null, .int 0, .null, .null, .null, .null, .null, .null, .null, .int 0, .null, .null, .null, .int 0])), (q1, .inl (cI, 12, .inl (fun _ => 0))), (q2, .inl (cI, 16, .inl (fun _ => 0))), (q3, .inl (cI, 16, .inl (fun _ => 0))), (q4, .inl (cI, 16, .inl (fun _ => 0))), (q5, .inl (cI, 16, .inl (fun _ => 0))), (q6, .inl (cI, 16, .inl (fun _ => 0)))]) rfl dM_init_49 (fun H locs w => ?_)
  refine lv_aload_n S.1 S.2.1 dM_init_52 rfl (lv_at hl 0 rfl) ?_
  refine lv_bipush (v := 8) S.1 S.2.1 dM_init_53 (by decide) ?_
  refine kb_newI S w 0 rfl (N := 8) (by decide) (by decide) (by decide) (Nat.le_of_ble_eq_true rfl) (Nat.le_of_ble_eq_true rfl) dM_init_55 (fun q7 H w => ?_)
  refine kb_putF S hin w 0 rfl gFM_28 rfl rfl (Nat.le_of_ble_eq_true rfl) (ws1 := [(h0, .inr (3, [.int 0, .int 0, .int 0, .int 0, .ref q1, .ref q2, .ref q3, .ref q4, .ref q5, .ref q6, .ref q7, .null, .null, .null, .int 0, .null, .null, .null, .null, .null, .null, .null, .int 0, .null, .null, .null, .int 0])), (q1, .inl (cI, 12, .inl (fun _ => 0))), (q2, .inl (cI, 16, .inl (fun _ => 0))), (q3, .inl (cI, 16, .inl (fun _ => 0))), (q4, .inl (cI, 16, .inl (fun _ => 0))), (q5, .inl (cI, 16, .inl (fun _ => 0))), (q6, .inl (cI, 16, .inl (fun _ => 0))), (q7, .inl (cI, 8, .inl (fun _ => 0)))]) rfl dM_init_57 (fun H locs w => ?_)
  refine lv_aload_n S.1 S.2.1 dM_init_60 rfl (lv_at hl 0 rfl) ?_
  refine lv_iconst (v := 2) S.1 S.2.1 dM_init_61 (by decide) ?_
  refine kb_newI S w 0 rfl (N := 2) (by decide) (by decide) (by decide) (Nat.le_of_ble_eq_true rfl) (Nat.le_of_ble_eq_true rfl) dM_init_62 (fun q8 H w => ?_)
  refine kb_putF S hin w 0 rfl gFM_31 rfl rfl (Nat.le_of_ble_eq_true rfl) (ws1 := [(h0, .inr (3, [.int 0, .int 0, .int 0, .int 0, .ref q1, .ref q2, .ref q3, .ref q4, .ref q5, .ref q6, .ref q7, .ref q8, .null, .null, .int 0, .null, .null, .null, .null, .null, .null, .null, .int 0, .null, .null, .null, .int 0])), (q1, .inl (cI, 12, .inl (fun _ => 0))), (q2, .inl (cI, 16, .inl (fun _ => 0))), (q3, .inl (cI, 16, .inl (fun _ => 0))), (q4, .inl (cI, 16, .inl (fun _ => 0))), (q5, .inl (cI, 16, .inl (fun _ => 0))), (q6, .inl (cI, 16, .inl (fun _ => 0))), (q7, .inl (cI, 8, .inl (fun _ => 0))), (q8, .inl (cI, 2, .inl (fun _ => 0)))]) rfl dM_init_64 (fun H locs w => ?_)
  refine lv_aload_n S.1 S.2.1 dM_init_67 rfl (lv_at hl 0 rfl) ?_
  refine lv_iconst (v := 2) S.1 S.2.1 dM_init_68 (by decide) ?_
  refine kb_newI S w 0 rfl (N := 2) (by decide) (by decide) (by decide) (Nat.le_of_ble_eq_true rfl) (Nat.le_of_ble_eq_true rfl) dM_init_69 (fun q9 H w => ?_)
  refine kb_putF S hin w 0 rfl gFM_34 rfl rfl (Nat.le_of_ble_eq_true rfl) (ws1 := [(h0, .inr (3, [.int 0, .int 0, .int 0, .int 0, .ref q1, .ref q2, .ref q3, .ref q4, .ref q5, .ref q6, .ref q7, .ref q8, .ref q9, .null, .int 0, .null, .null, .null, .null, .null, .null, .null, .int 0, .null, .null, .null, .int 0])), (q1, .inl (cI, 12, .inl (fun _ => 0))), (q2, .inl (cI, 16, .inl (fun _ => 0))), (q3, .inl (cI, 16, .inl (fun _ => 0))), (q4, .inl (cI, 16, .inl (fun _ => 0))), (q5, .inl (cI, 16, .inl (fun _ => 0))), (q6, .inl (cI, 16, .inl (fun _ => 0))), (q7, .inl (cI, 8, .inl (fun _ => 0))), (q8, .inl (cI, 2, .inl (fun _ => 0))), (q9, .inl (cI, 2, .inl (fun _ => 0)))]) rfl dM_init_71 (fun H locs w => ?_)
  refine lv_aload_n S.1 S.2.1 dM_init_74 rfl (lv_at hl 0 rfl) ?_
  refine lv_sipush (v := 1024) S.1 S.2.1 dM_init_75 (by decide) ?_
  refine kb_newI S w 0 rfl (N := 1024) (by decide) (by decide) (by decide) (Nat.le_of_ble_eq_true rfl) (Nat.le_of_ble_eq_true rfl) dM_init_78 (fun q10 H w => ?_)
  refine kb_putF S hin w 0 rfl gFM_37 rfl rfl (Nat.le_of_ble_eq_true rfl) (ws1 := [(h0, .inr (3, [.int 0, .int 0, .int 0, .int 0, .ref q1, .ref q2, .ref q3, .ref q4, .ref q5, .ref q6, .ref q7, .ref q8, .ref q9, .ref q10, .int 0, .null, .null, .null, .null, .null, .null, .null, .int 0, .null, .null, .null, .int 0])), (q1, .inl (cI, 12, .inl (fun _ => 0))), (q2, .inl (cI, 16, .inl (fun _ => 0))), (q3, .inl (cI, 16, .inl (fun _ => 0))), (q4, .inl (cI, 16, .inl (fun _ => 0))), (q5, .inl (cI, 16, .inl (fun _ => 0))), (q6, .inl (cI, 16, .inl (fun _ => 0))), (q7, .inl (cI, 8, .inl (fun _ => 0))), (q8, .inl (cI, 2, .inl (fun _ => 0))), (q9, .inl (cI, 2, .inl (fun _ => 0))), (q10, .inl (cI, 1024, .inl (fun _ => 0)))]) rfl dM_init_80 (fun H locs w => ?_)
  refine lv_aload_n S.1 S.2.1 dM_init_83 rfl (lv_at hl 0 rfl) ?_
  refine lv_bipush (v := 12) S.1 S.2.1 dM_init_84 (by decide) ?_
  refine kb_newI S w 0 rfl (N := 12) (by decide) (by decide) (by decide) (Nat.le_of_ble_eq_true rfl) (Nat.le_of_ble_eq_true rfl) dM_init_86 (fun q11 H w => ?_)
  refine kb_putF S hin w 0 rfl gFM_40 rfl rfl (Nat.le_of_ble_eq_true rfl) (ws1 := [(h0, .inr (3, [.int 0, .int 0, .int 0, .int 0, .ref q1, .ref q2, .ref q3, .ref q4, .ref q5, .ref q6, .ref q7, .ref q8, .ref q9, .ref q10, .int 0, .ref q11, .null, .null, .null, .null, .null, .null, .int 0, .null, .null, .null, .int 0])), (q1, .inl (cI, 12, .inl (fun _ => 0))), (q2, .inl (cI, 16, .inl (fun _ => 0))), (q3, .inl (cI, 16, .inl (fun _ => 0))), (q4, .inl (cI, 16, .inl (fun _ => 0))), (q5, .inl (cI, 16, .inl (fun _ => 0))), (q6, .inl (cI, 16, .inl (fun _ => 0))), (q7, .inl (cI, 8, .inl (fun _ => 0))), (q8, .inl (cI, 2, .inl (fun _ => 0))), (q9, .inl (cI, 2, .inl (fun _ => 0))), (q10, .inl (cI, 1024, .inl (fun _ => 0))), (q11, .inl (cI, 12, .inl (fun _ => 0)))]) rfl dM_init_88 (fun H locs w => ?_)
  refine lv_aload_n S.1 S.2.1 dM_init_91 rfl (lv_at hl 0 rfl) ?_
  refine lv_bipush (v := 12) S.1 S.2.1 dM_init_92 (by decide) ?_
  refine kb_newI S w 0 rfl (N := 12) (by decide) (by decide) (by decide) (Nat.le_of_ble_eq_true rfl) (Nat.le_of_ble_eq_true rfl) dM_init_94 (fun q12 H w => ?_)
  refine kb_putF S hin w 0 rfl gFM_43 rfl rfl (Nat.le_of_ble_eq_true rfl) (ws1 := [(h0, .inr (3, [.int 0, .int 0, .int 0, .int 0, .ref q1, .ref q2, .ref q3, .ref q4, .ref q5, .ref q6, .ref q7, .ref q8, .ref q9, .ref q10, .int 0, .ref q11, .ref q12, .null, .null, .null, .null, .null, .int 0, .null, .null, .null, .int 0])), (q1, .inl (cI, 12, .inl (fun _ => 0))), (q2, .inl (cI, 16, .inl (fun _ => 0))), (q3, .inl (cI, 16, .inl (fun _ => 0))), (q4, .inl (cI, 16, .inl (fun _ => 0))), (q5, .inl (cI, 16, .inl (fun _ => 0))), (q6, .inl (cI, 16, .inl (fun _ => 0))), (q7, .inl (cI, 8, .inl (fun _ => 0))), (q8, .inl (cI, 2, .inl (fun _ => 0))), (q9, .inl (cI, 2, .inl (fun _ => 0))), (q10, .inl (cI, 1024, .inl (fun _ => 0))), (q11, .inl (cI, 12, .inl (fun _ => 0))), (q12, .inl (cI, 12, .inl (fun _ => 0)))]) rfl dM_init_96 (fun H locs w => ?_)
  refine lv_aload_n S.1 S.2.1 dM_init_99 rfl (lv_at hl 0 rfl) ?_
  refine lv_bipush (v := 12) S.1 S.2.1 dM_init_100 (by decide) ?_
  refine kb_newI S w 0 rfl (N := 12) (by decide) (by decide) (by decide) (Nat.le_of_ble_eq_true rfl) (Nat.le_of_ble_eq_true rfl) dM_init_102 (fun q13 H w => ?_)
  refine kb_putF S hin w 0 rfl gFM_46 rfl rfl (Nat.le_of_ble_eq_true rfl) (ws1 := [(h0, .inr (3, [.int 0, .int 0, .int 0, .int 0, .ref q1, .ref q2, .ref q3, .ref q4, .ref q5, .ref q6, .ref q7, .ref q8, .ref q9, .ref q10, .int 0, .ref q11, .ref q12, .ref q13, .null, .null, .null, .null, .int 0, .null, .null, .null, .int 0])), (q1, .inl (cI, 12, .inl (fun _ => 0))), (q2, .inl (cI, 16, .inl (fun _ => 0))), (q3, .inl (cI, 16, .inl (fun _ => 0))), (q4, .inl (cI, 16, .inl (fun _ => 0))), (q5, .inl (cI, 16, .inl (fun _ => 0))), (q6, .inl (cI, 16, .inl (fun _ => 0))), (q7, .inl (cI, 8, .inl (fun _ => 0))), (q8, .inl (cI, 2, .inl (fun _ => 0))), (q9, .inl (cI, 2, .inl (fun _ => 0))), (q10, .inl (cI, 1024, .inl (fun _ => 0))), (q11, .inl (cI, 12, .inl (fun _ => 0))), (q12, .inl (cI, 12, .inl (fun _ => 0))), (q13, .inl (cI, 12, .inl (fun _ => 0)))]) rfl dM_init_104 (fun H locs w => ?_)
  refine lv_aload_n S.1 S.2.1 dM_init_107 rfl (lv_at hl 0 rfl) ?_
  refine lv_bipush (v := 12) S.1 S.2.1 dM_init_108 (by decide) ?_
  refine kb_newI S w 0 rfl (N := 12) (by decide) (by decide) (by decide) (Nat.le_of_ble_eq_true rfl) (Nat.le_of_ble_eq_true rfl) dM_init_110 (fun q14 H w => ?_)
  refine kb_putF S hin w 0 rfl gFM_49 rfl rfl (Nat.le_of_ble_eq_true rfl) (ws1 := [(h0, .inr (3, [.int 0, .int 0, .int 0, .int 0, .ref q1, .ref q2, .ref q3, .ref q4, .ref q5, .ref q6, .ref q7, .ref q8, .ref q9, .ref q10, .int 0, .ref q11, .ref q12, .ref q13, .ref q14, .null, .null, .null, .int 0, .null, .null, .null, .int 0])), (q1, .inl (cI, 12, .inl (fun _ => 0))), (q2, .inl (cI, 16, .inl (fun _ => 0))), (q3, .inl (cI, 16, .inl (fun _ => 0))), (q4, .inl (cI, 16, .inl (fun _ => 0))), (q5, .inl (cI, 16, .inl (fun _ => 0))), (q6, .inl (cI, 16, .inl (fun _ => 0))), (q7, .inl (cI, 8, .inl (fun _ => 0))), (q8, .inl (cI, 2, .inl (fun _ => 0))), (q9, .inl (cI, 2, .inl (fun _ => 0))), (q10, .inl (cI, 1024, .inl (fun _ => 0))), (q11, .inl (cI, 12, .inl (fun _ => 0))), (q12, .inl (cI, 12, .inl (fun _ => 0))), (q13, .inl (cI, 12, .inl (fun _ => 0))), (q14, .inl (cI, 12, .inl (fun _ => 0)))]) rfl dM_init_112 (fun H locs w => ?_)
  refine lv_aload_n S.1 S.2.1 dM_init_115 rfl (lv_at hl 0 rfl) ?_
  refine lv_bipush (v := 12) S.1 S.2.1 dM_init_116 (by decide) ?_
  refine kb_newZ S w 1 rfl (N := 12) (by decide) (by decide) (by decide) (Nat.le_of_ble_eq_true rfl) (Nat.le_of_ble_eq_true rfl) dM_init_118 (fun q15 H w => ?_)
  refine kb_putF S hin w 0 rfl gFM_52 rfl rfl (Nat.le_of_ble_eq_true rfl) (ws1 := [(h0, .inr (3, [.int 0, .int 0, .int 0, .int 0, .ref q1, .ref q2, .ref q3, .ref q4, .ref q5, .ref q6, .ref q7, .ref q8, .ref q9, .ref q10, .int 0, .ref q11, .ref q12, .ref q13, .ref q14, .ref q15, .null, .null, .int 0, .null, .null, .null, .int 0])), (q1, .inl (cI, 12, .inl (fun _ => 0))), (q2, .inl (cI, 16, .inl (fun _ => 0))), (q3, .inl (cI, 16, .inl (fun _ => 0))), (q4, .inl (cI, 16, .inl (fun _ => 0))), (q5, .inl (cI, 16, .inl (fun _ => 0))), (q6, .inl (cI, 16, .inl (fun _ => 0))), (q7, .inl (cI, 8, .inl (fun _ => 0))), (q8, .inl (cI, 2, .inl (fun _ => 0))), (q9, .inl (cI, 2, .inl (fun _ => 0))), (q10, .inl (cI, 1024, .inl (fun _ => 0))), (q11, .inl (cI, 12, .inl (fun _ => 0))), (q12, .inl (cI, 12, .inl (fun _ => 0))), (q13, .inl (cI, 12, .inl (fun _ => 0))), (q14, .inl (cI, 12, .inl (fun _ => 0))), (q15, .inl (cZ, 12, .inl (fun _ => 0)))]) rfl dM_init_120 (fun H locs w => ?_)
  refine lv_aload_n S.1 S.2.1 dM_init_123 rfl (lv_at hl 0 rfl) ?_
  refine lv_bipush (v := 12) S.1 S.2.1 dM_init_124 (by decide) ?_
  refine kb_newI S w 0 rfl (N := 12) (by decide) (by decide) (by decide) (Nat.le_of_ble_eq_true rfl) (Nat.le_of_ble_eq_true rfl) dM_init_126 (fun q16 H w => ?_)
  refine kb_putF S hin w 0 rfl gFM_56 rfl rfl (Nat.le_of_ble_eq_true rfl) (ws1 := [(h0, .inr (3, [.int 0, .int 0, .int 0, .int 0, .ref q1, .ref q2, .ref q3, .ref q4, .ref q5, .ref q6, .ref q7, .ref q8, .ref q9, .ref q10, .int 0, .ref q11, .ref q12, .ref q13, .ref q14, .ref q15, .ref q16, .null, .int 0, .null, .null, .null, .int 0])), (q1, .inl (cI, 12, .inl (fun _ => 0))), (q2, .inl (cI, 16, .inl (fun _ => 0))), (q3, .inl (cI, 16, .inl (fun _ => 0))), (q4, .inl (cI, 16, .inl (fun _ => 0))), (q5, .inl (cI, 16, .inl (fun _ => 0))), (q6, .inl (cI, 16, .inl (fun _ => 0))), (q7, .inl (cI, 8, .inl (fun _ => 0))), (q8, .inl (cI, 2, .inl (fun _ => 0))), (q9, .inl (cI, 2, .inl (fun _ => 0))), (q10, .inl (cI, 1024, .inl (fun _ => 0))), (q11, .inl (cI, 12, .inl (fun _ => 0))), (q12, .inl (cI, 12, .inl (fun _ => 0))), (q13, .inl (cI, 12, .inl (fun _ => 0))), (q14, .inl (cI, 12, .inl (fun _ => 0))), (q15, .inl (cZ, 12, .inl (fun _ => 0))), (q16, .inl (cI, 12, .inl (fun _ => 0)))]) rfl dM_init_128 (fun H locs w => ?_)
  refine lv_aload_n S.1 S.2.1 dM_init_131 rfl (lv_at hl 0 rfl) ?_
  refine lv_bipush (v := 12) S.1 S.2.1 dM_init_132 (by decide) ?_
  refine kb_newI S w 0 rfl (N := 12) (by decide) (by decide) (by decide) (Nat.le_of_ble_eq_true rfl) (Nat.le_of_ble_eq_true rfl) dM_init_134 (fun q17 H w => ?_)
  refine kb_putF S hin w 0 rfl gFM_59 rfl rfl (Nat.le_of_ble_eq_true rfl) (ws1 := [(h0, .inr (3, [.int 0, .int 0, .int 0, .int 0, .ref q1, .ref q2, .ref q3, .ref q4, .ref q5, .ref q6, .ref q7, .ref q8, .ref q9, .ref q10, .int 0, .ref q11, .ref q12, .ref q13, .ref q14, .ref q15, .ref q16, .ref q17, .int 0, .null, .null, .null, .int 0])), (q1, .inl (cI, 12, .inl (fun _ => 0))), (q2, .inl (cI, 16, .inl (fun _ => 0))), (q3, .inl (cI, 16, .inl (fun _ => 0))), (q4, .inl (cI, 16, .inl (fun _ => 0))), (q5, .inl (cI, 16, .inl (fun _ => 0))), (q6, .inl (cI, 16, .inl (fun _ => 0))), (q7, .inl (cI, 8, .inl (fun _ => 0))), (q8, .inl (cI, 2, .inl (fun _ => 0))), (q9, .inl (cI, 2, .inl (fun _ => 0))), (q10, .inl (cI, 1024, .inl (fun _ => 0))), (q11, .inl (cI, 12, .inl (fun _ => 0))), (q12, .inl (cI, 12, .inl (fun _ => 0))), (q13, .inl (cI, 12, .inl (fun _ => 0))), (q14, .inl (cI, 12, .inl (fun _ => 0))), (q15, .inl (cZ, 12, .inl (fun _ => 0))), (q16, .inl (cI, 12, .inl (fun _ => 0))), (q17, .inl (cI, 12, .inl (fun _ => 0)))]) rfl dM_init_136 (fun H locs w => ?_)
  refine lv_aload_n S.1 S.2.1 dM_init_139 rfl (lv_at hl 0 rfl) ?_
  refine lv_bipush (v := 32) S.1 S.2.1 dM_init_140 (by decide) ?_
  refine kb_newI S w 0 rfl (N := 32) (by decide) (by decide) (by decide) (Nat.le_of_ble_eq_true rfl) (Nat.le_of_ble_eq_true rfl) dM_init_142 (fun q18 H w => ?_)
  refine kb_putF S hin w 0 rfl gFM_62 rfl rfl (Nat.le_of_ble_eq_true rfl) (ws1 := [(h0, .inr (3, [.int 0, .int 0, .int 0, .int 0, .ref q1, .ref q2, .ref q3, .ref q4, .ref q5, .ref q6, .ref q7, .ref q8, .ref q9, .ref q10, .int 0, .ref q11, .ref q12, .ref q13, .ref q14, .ref q15, .ref q16, .ref q17, .int 0, .ref q18, .null, .null, .int 0])), (q1, .inl (cI, 12, .inl (fun _ => 0))), (q2, .inl (cI, 16, .inl (fun _ => 0))), (q3, .inl (cI, 16, .inl (fun _ => 0))), (q4, .inl (cI, 16, .inl (fun _ => 0))), (q5, .inl (cI, 16, .inl (fun _ => 0))), (q6, .inl (cI, 16, .inl (fun _ => 0))), (q7, .inl (cI, 8, .inl (fun _ => 0))), (q8, .inl (cI, 2, .inl (fun _ => 0))), (q9, .inl (cI, 2, .inl (fun _ => 0))), (q10, .inl (cI, 1024, .inl (fun _ => 0))), (q11, .inl (cI, 12, .inl (fun _ => 0))), (q12, .inl (cI, 12, .inl (fun _ => 0))), (q13, .inl (cI, 12, .inl (fun _ => 0))), (q14, .inl (cI, 12, .inl (fun _ => 0))), (q15, .inl (cZ, 12, .inl (fun _ => 0))), (q16, .inl (cI, 12, .inl (fun _ => 0))), (q17, .inl (cI, 12, .inl (fun _ => 0))), (q18, .inl (cI, 32, .inl (fun _ => 0)))]) rfl dM_init_144 (fun H locs w => ?_)
  refine lv_aload_n S.1 S.2.1 dM_init_147 rfl (lv_at hl 0 rfl) ?_
  refine lv_bipush (v := 32) S.1 S.2.1 dM_init_148 (by decide) ?_
  refine kb_newI S w 0 rfl (N := 32) (by decide) (by decide) (by decide) (Nat.le_of_ble_eq_true rfl) (Nat.le_of_ble_eq_true rfl) dM_init_150 (fun q19 H w => ?_)
  refine kb_putF S hin w 0 rfl gFM_65 rfl rfl (Nat.le_of_ble_eq_true rfl) (ws1 := [(h0, .inr (3, [.int 0, .int 0, .int 0, .int 0, .ref q1, .ref q2, .ref q3, .ref q4, .ref q5, .ref q6, .ref q7, .ref q8, .ref q9, .ref q10, .int 0, .ref q11, .ref q12, .ref q13, .ref q14, .ref q15, .ref q16, .ref q17, .int 0, .ref q18, .ref q19, .null, .int 0])), (q1, .inl (cI, 12, .inl (fun _ => 0))), (q2, .inl (cI, 16, .inl (fun _ => 0))), (q3, .inl (cI, 16, .inl (fun _ => 0))), (q4, .inl (cI, 16, .inl (fun _ => 0))), (q5, .inl (cI, 16, .inl (fun _ => 0))), (q6, .inl (cI, 16, .inl (fun _ => 0))), (q7, .inl (cI, 8, .inl (fun _ => 0))), (q8, .inl (cI, 2, .inl (fun _ => 0))), (q9, .inl (cI, 2, .inl (fun _ => 0))), (q10, .inl (cI, 1024, .inl (fun _ => 0))), (q11, .inl (cI, 12, .inl (fun _ => 0))), (q12, .inl (cI, 12, .inl (fun _ => 0))), (q13, .inl (cI, 12, .inl (fun _ => 0))), (q14, .inl (cI, 12, .inl (fun _ => 0))), (q15, .inl (cZ, 12, .inl (fun _ => 0))), (q16, .inl (cI, 12, .inl (fun _ => 0))), (q17, .inl (cI, 12, .inl (fun _ => 0))), (q18, .inl (cI, 32, .inl (fun _ => 0))), (q19, .inl (cI, 32, .inl (fun _ => 0)))]) rfl dM_init_152 (fun H locs w => ?_)
  refine lv_aload_n S.1 S.2.1 dM_init_155 rfl (lv_at hl 0 rfl) ?_
  refine lv_iconst (v := 5) S.1 S.2.1 dM_init_156 (by decide) ?_
  refine kb_newI S w 0 rfl (N := 5) (by decide) (by decide) (by decide) (Nat.le_of_ble_eq_true rfl) (Nat.le_of_ble_eq_true rfl) dM_init_157 (fun q20 H w => ?_)
  refine kb_putF S hin w 0 rfl gFM_68 rfl rfl (Nat.le_of_ble_eq_true rfl) (ws1 := [(h0, .inr (3, [.int 0, .int 0, .int 0, .int 0, .ref q1, .ref q2, .ref q3, .ref q4, .ref q5, .ref q6, .ref q7, .ref q8, .ref q9, .ref q10, .int 0, .ref q11, .ref q12, .ref q13, .ref q14, .ref q15, .ref q16, .ref q17, .int 0, .ref q18, .ref q19, .ref q20, .int 0])), (q1, .inl (cI, 12, .inl (fun _ => 0))), (q2, .inl (cI, 16, .inl (fun _ => 0))), (q3, .inl (cI, 16, .inl (fun _ => 0))), (q4, .inl (cI, 16, .inl (fun _ => 0))), (q5, .inl (cI, 16, .inl (fun _ => 0))), (q6, .inl (cI, 16, .inl (fun _ => 0))), (q7, .inl (cI, 8, .inl (fun _ => 0))), (q8, .inl (cI, 2, .inl (fun _ => 0))), (q9, .inl (cI, 2, .inl (fun _ => 0))), (q10, .inl (cI, 1024, .inl (fun _ => 0))), (q11, .inl (cI, 12, .inl (fun _ => 0))), (q12, .inl (cI, 12, .inl (fun _ => 0))), (q13, .inl (cI, 12, .inl (fun _ => 0))), (q14, .inl (cI, 12, .inl (fun _ => 0))), (q15, .inl (cZ, 12, .inl (fun _ => 0))), (q16, .inl (cI, 12, .inl (fun _ => 0))), (q17, .inl (cI, 12, .inl (fun _ => 0))), (q18, .inl (cI, 32, .inl (fun _ => 0))), (q19, .inl (cI, 32, .inl (fun _ => 0))), (q20, .inl (cI, 5, .inl (fun _ => 0)))]) rfl dM_init_159 (fun H locs w => ?_)
  refine W.widen (k := 20) (n := 1281) (by decide) (by decide) ?_
  obtain ⟨a, ha⟩ : ∃ a : Nat → Nat, a = fun k => ([h0, q1, q2, q3, q4, q5, q6, q7, q8, q9, q10, q11, q12, q13, q14, q15, q16, q17, q18, q19, q20] : List Nat).getD k 0 := ⟨_, rfl⟩
  have w : kb_W D vwCl [(cI, .int), (cZ, .boolean)] A s H locs (mW cI cZ a kz0) := by rw [ha]; exact w
  have h0a : a 0 = h0 := by rw [ha]; rfl
  have hl : lv_has ls 5 [(0, .ref (a 0)), (1, .int x1), (2, .int x2), (3, .int x3)] := by rw [h0a]; exact hl
  unfold pM_init at h
  have L298 : ∀ (n : Nat) (x4 : Int32) (z : kb_S) (H : Heap) (locs : List Loc) (ls : Array Slot), lv_has ls 5 [(0, .ref (a 0)), (4, .int x4)] → kb_W D vwCl [(cI, .int), (cZ, .boolean)] A s H locs (mW cI cZ a z) → pM_init_L298 n x4 z = some (0, z') → W p l e rm_M_init s m args below meth c H locs 20 1281 (MQ below (kc_Q D vwCl sz [(h0, .inr (3, [.int 0, .int 0, .int 0, .int 0, .null, .null, .null, .null, .null, .null, .null, .null, .null, .null, .int 0, .null, .null, .null, .null, .null, .null, .null, .int 0, .null, .null, .null, .int 0]))] (fun a : Nat → Nat => a 0 = h0) (fun a : Nat → Nat => mW cI cZ a z')) args s 20 1281 (va_A [(h0, .inr (3, [.int 0, .int 0, .int 0, .int 0, .null, .null, .null, .null, .null, .null, .null, .null, .null, .null, .int 0, .null, .null, .null, .null, .null, .null, .null, .int 0, .null, .null, .null, .int 0]))] sz)) (F0 m 298 ls []) := by
    intro n
    induction n with
    | zero =>
      intro x4 z H locs ls hl w h
      exact absurd h (by simp [pM_init_L298])
    | succ n ih =>
      intro x4 z H locs ls hl w h
      rw [pM_init_L298] at h
      refine lv_iload S.1 S.2.1 dM_init_298 (lv_at hl 1 rfl) ?_
      refine lv_bipush (v := 8) S.1 S.2.1 dM_init_300 (by decide) ?_
      refine lv_icmp_ge (tgt := 319) S.1 S.2.1 dM_init_302 (by decide) (fun hc => ?_) (fun hc => ?_)
      · have h := (kb_brt hc).symm.trans h
        refine lv_aload_n S.1 S.2.1 dM_init_319 rfl (lv_at hl 0 rfl) ?_
        refine kb_get S w 0 rfl fM_31 rfl dM_init_320 ?_
        refine W.eq (g2 := F0 m 323 ls [.ref (a 8)]) rfl ?_
        refine lv_iconst (v := 0) S.1 S.2.1 dM_init_323 (by decide) ?_
        refine lv_iconst (v := (-1)) S.1 S.2.1 dM_init_324 (by decide) ?_
        obtain ⟨hi7, h⟩ := kb_ck_of h
        obtain ⟨z8, hz9, h⟩ := kb_st_of h
        refine kb_iast S w 8 0 rfl rfl hi7 (ws1 := mW cI cZ a z8) (by rw [hz9]; rfl) dM_init_325 (fun H locs w => ?_)
        refine lv_aload_n S.1 S.2.1 dM_init_326 rfl (lv_at hl 0 rfl) ?_
        refine kb_get S w 0 rfl fM_31 rfl dM_init_327 ?_
        refine W.eq (g2 := F0 m 330 ls [.ref (a 8)]) rfl ?_
        refine lv_iconst (v := 1) S.1 S.2.1 dM_init_330 (by decide) ?_
        refine lv_iconst (v := (-1)) S.1 S.2.1 dM_init_331 (by decide) ?_
        obtain ⟨hi10, h⟩ := kb_ck_of h
        obtain ⟨z11, hz12, h⟩ := kb_st_of h
        refine kb_iast S w 8 0 rfl rfl hi10 (ws1 := mW cI cZ a z11) (by rw [hz12]; rfl) dM_init_332 (fun H locs w => ?_)
        refine lv_aload_n S.1 S.2.1 dM_init_333 rfl (lv_at hl 0 rfl) ?_
        refine kb_get S w 0 rfl fM_7 rfl dM_init_334 ?_
        refine W.eq (g2 := F0 m 337 ls [.ref (a 1)]) rfl ?_
        refine lv_iconst (v := 0) S.1 S.2.1 dM_init_337 (by decide) ?_
        refine lv_iconst (v := 3) S.1 S.2.1 dM_init_338 (by decide) ?_
        obtain ⟨hi13, h⟩ := kb_ck_of h
        obtain ⟨z14, hz15, h⟩ := kb_st_of h
        refine kb_iast S w 1 0 rfl rfl hi13 (ws1 := mW cI cZ a z14) (by rw [hz15]; rfl) dM_init_339 (fun H locs w => ?_)
        refine lv_aload_n S.1 S.2.1 dM_init_340 rfl (lv_at hl 0 rfl) ?_
        refine kb_get S w 0 rfl fM_7 rfl dM_init_341 ?_
        refine W.eq (g2 := F0 m 344 ls [.ref (a 1)]) rfl ?_
        refine lv_iconst (v := 1) S.1 S.2.1 dM_init_344 (by decide) ?_
        refine lv_iconst (v := 3) S.1 S.2.1 dM_init_345 (by decide) ?_
        obtain ⟨hi16, h⟩ := kb_ck_of h
        obtain ⟨z17, hz18, h⟩ := kb_st_of h
        refine kb_iast S w 1 0 rfl rfl hi16 (ws1 := mW cI cZ a z17) (by rw [hz18]; rfl) dM_init_346 (fun H locs w => ?_)
        refine lv_aload_n S.1 S.2.1 dM_init_347 rfl (lv_at hl 0 rfl) ?_
        refine kb_get S w 0 rfl fM_7 rfl dM_init_348 ?_
        refine W.eq (g2 := F0 m 351 ls [.ref (a 1)]) rfl ?_
        refine lv_iconst (v := 2) S.1 S.2.1 dM_init_351 (by decide) ?_
        refine lv_bipush (v := 6) S.1 S.2.1 dM_init_352 (by decide) ?_
        obtain ⟨hi19, h⟩ := kb_ck_of h
        obtain ⟨z20, hz21, h⟩ := kb_st_of h
        refine kb_iast S w 1 0 rfl rfl hi19 (ws1 := mW cI cZ a z20) (by rw [hz21]; rfl) dM_init_354 (fun H locs w => ?_)
        refine lv_aload_n S.1 S.2.1 dM_init_355 rfl (lv_at hl 0 rfl) ?_
        refine kb_get S w 0 rfl fM_7 rfl dM_init_356 ?_
        refine W.eq (g2 := F0 m 359 ls [.ref (a 1)]) rfl ?_
        refine lv_iconst (v := 3) S.1 S.2.1 dM_init_359 (by decide) ?_
        refine lv_bipush (v := 9) S.1 S.2.1 dM_init_360 (by decide) ?_
        obtain ⟨hi22, h⟩ := kb_ck_of h
        obtain ⟨z23, hz24, h⟩ := kb_st_of h
        refine kb_iast S w 1 0 rfl rfl hi22 (ws1 := mW cI cZ a z23) (by rw [hz24]; rfl) dM_init_362 (fun H locs w => ?_)
        refine lv_aload_n S.1 S.2.1 dM_init_363 rfl (lv_at hl 0 rfl) ?_
        refine kb_get S w 0 rfl fM_7 rfl dM_init_364 ?_
        refine W.eq (g2 := F0 m 367 ls [.ref (a 1)]) rfl ?_
        refine lv_iconst (v := 4) S.1 S.2.1 dM_init_367 (by decide) ?_
        refine lv_iconst (v := 5) S.1 S.2.1 dM_init_368 (by decide) ?_
        obtain ⟨hi25, h⟩ := kb_ck_of h
        obtain ⟨z26, hz27, h⟩ := kb_st_of h
        refine kb_iast S w 1 0 rfl rfl hi25 (ws1 := mW cI cZ a z26) (by rw [hz27]; rfl) dM_init_369 (fun H locs w => ?_)
        refine lv_aload_n S.1 S.2.1 dM_init_370 rfl (lv_at hl 0 rfl) ?_
        refine kb_get S w 0 rfl fM_7 rfl dM_init_371 ?_
        refine W.eq (g2 := F0 m 374 ls [.ref (a 1)]) rfl ?_
        refine lv_iconst (v := 5) S.1 S.2.1 dM_init_374 (by decide) ?_
        refine lv_iconst (v := 2) S.1 S.2.1 dM_init_375 (by decide) ?_
        obtain ⟨hi28, h⟩ := kb_ck_of h
        obtain ⟨z29, hz30, h⟩ := kb_st_of h
        refine kb_iast S w 1 0 rfl rfl hi28 (ws1 := mW cI cZ a z29) (by rw [hz30]; rfl) dM_init_376 (fun H locs w => ?_)
        refine lv_aload_n S.1 S.2.1 dM_init_377 rfl (lv_at hl 0 rfl) ?_
        refine kb_get S w 0 rfl fM_7 rfl dM_init_378 ?_
        refine W.eq (g2 := F0 m 381 ls [.ref (a 1)]) rfl ?_
        refine lv_bipush (v := 6) S.1 S.2.1 dM_init_381 (by decide) ?_
        refine lv_iconst (v := 2) S.1 S.2.1 dM_init_383 (by decide) ?_
        obtain ⟨hi31, h⟩ := kb_ck_of h
        obtain ⟨z32, hz33, h⟩ := kb_st_of h
        refine kb_iast S w 1 0 rfl rfl hi31 (ws1 := mW cI cZ a z32) (by rw [hz33]; rfl) dM_init_384 (fun H locs w => ?_)
        refine lv_aload_n S.1 S.2.1 dM_init_385 rfl (lv_at hl 0 rfl) ?_
        refine kb_get S w 0 rfl fM_7 rfl dM_init_386 ?_
        refine W.eq (g2 := F0 m 389 ls [.ref (a 1)]) rfl ?_
        refine lv_bipush (v := 7) S.1 S.2.1 dM_init_389 (by decide) ?_
        refine lv_iconst (v := 2) S.1 S.2.1 dM_init_391 (by decide) ?_
        obtain ⟨hi34, h⟩ := kb_ck_of h
        obtain ⟨z35, hz36, h⟩ := kb_st_of h
        refine kb_iast S w 1 0 rfl rfl hi34 (ws1 := mW cI cZ a z35) (by rw [hz36]; rfl) dM_init_392 (fun H locs w => ?_)
        refine lv_aload_n S.1 S.2.1 dM_init_393 rfl (lv_at hl 0 rfl) ?_
        refine kb_get S w 0 rfl fM_7 rfl dM_init_394 ?_
        refine W.eq (g2 := F0 m 397 ls [.ref (a 1)]) rfl ?_
        refine lv_bipush (v := 8) S.1 S.2.1 dM_init_397 (by decide) ?_
        refine lv_bipush (v := 12) S.1 S.2.1 dM_init_399 (by decide) ?_
        obtain ⟨hi37, h⟩ := kb_ck_of h
        obtain ⟨z38, hz39, h⟩ := kb_st_of h
        refine kb_iast S w 1 0 rfl rfl hi37 (ws1 := mW cI cZ a z38) (by rw [hz39]; rfl) dM_init_401 (fun H locs w => ?_)
        refine lv_aload_n S.1 S.2.1 dM_init_402 rfl (lv_at hl 0 rfl) ?_
        refine kb_get S w 0 rfl fM_7 rfl dM_init_403 ?_
        refine W.eq (g2 := F0 m 406 ls [.ref (a 1)]) rfl ?_
        refine lv_bipush (v := 9) S.1 S.2.1 dM_init_406 (by decide) ?_
        refine lv_bipush (v := 8) S.1 S.2.1 dM_init_408 (by decide) ?_
        obtain ⟨hi40, h⟩ := kb_ck_of h
        obtain ⟨z41, hz42, h⟩ := kb_st_of h
        refine kb_iast S w 1 0 rfl rfl hi40 (ws1 := mW cI cZ a z41) (by rw [hz42]; rfl) dM_init_410 (fun H locs w => ?_)
        refine lv_aload_n S.1 S.2.1 dM_init_411 rfl (lv_at hl 0 rfl) ?_
        refine kb_get S w 0 rfl fM_7 rfl dM_init_412 ?_
        refine W.eq (g2 := F0 m 415 ls [.ref (a 1)]) rfl ?_
        refine lv_bipush (v := 10) S.1 S.2.1 dM_init_415 (by decide) ?_
        refine lv_bipush (v := 60) S.1 S.2.1 dM_init_417 (by decide) ?_
        obtain ⟨hi43, h⟩ := kb_ck_of h
        obtain ⟨z44, hz45, h⟩ := kb_st_of h
        refine kb_iast S w 1 0 rfl rfl hi43 (ws1 := mW cI cZ a z44) (by rw [hz45]; rfl) dM_init_419 (fun H locs w => ?_)
        refine lv_aload_n S.1 S.2.1 dM_init_420 rfl (lv_at hl 0 rfl) ?_
        refine kb_get S w 0 rfl fM_7 rfl dM_init_421 ?_
        refine W.eq (g2 := F0 m 424 ls [.ref (a 1)]) rfl ?_
        refine lv_bipush (v := 11) S.1 S.2.1 dM_init_424 (by decide) ?_
        refine lv_iconst (v := 3) S.1 S.2.1 dM_init_426 (by decide) ?_
        obtain ⟨hi46, h⟩ := kb_ck_of h
        obtain ⟨z47, hz48, h⟩ := kb_st_of h
        refine kb_iast S w 1 0 rfl rfl hi46 (ws1 := mW cI cZ a z47) (by rw [hz48]; rfl) dM_init_427 (fun H locs w => ?_)
        exact kc_ret (a := a) (ok := (fun a : Nat → Nat => a 0 = h0)) (f := (fun a : Nat → Nat => mW cI cZ a z')) S hr hlk hA (by rw [← kc_e h]; exact w) h0a dM_init_428
      · have h := (kb_brf hc).symm.trans h
        refine lv_aload_n S.1 S.2.1 dM_init_305 rfl (lv_at hl 0 rfl) ?_
        refine kb_get S w 0 rfl fM_28 rfl dM_init_306 ?_
        refine W.eq (g2 := F0 m 309 ls [.ref (a 7)]) rfl ?_
        refine lv_iload S.1 S.2.1 dM_init_309 (lv_at hl 1 rfl) ?_
        refine lv_iconst (v := (-1)) S.1 S.2.1 dM_init_311 (by decide) ?_
        obtain ⟨hi49, h⟩ := kb_ck_of h
        obtain ⟨z50, hz51, h⟩ := kb_st_of h
        refine kb_iast S w 7 0 rfl rfl hi49 (ws1 := mW cI cZ a z50) (by rw [hz51]; rfl) dM_init_312 (fun H locs w => ?_)
        refine lv_iinc (v := x4 + 1) (k := 1) S.1 S.2.1 dM_init_313 hl rfl rfl (by decide) rfl (fun ls hl => ?_)
        have hl : lv_has ls 5 [(4, .int (x4 + 1)), (0, .ref (a 0))] := hl
        refine lv_goto (tgt := 298) S.1 S.2.1 dM_init_316 (by decide) ?_
        exact ih (x4 + 1) z50 _ _ _ (lv_sub hl [1, 0] rfl) w h
  have L242 : ∀ (n : Nat) (x4 : Int32) (z : kb_S) (H : Heap) (locs : List Loc) (ls : Array Slot), lv_has ls 5 [(0, .ref (a 0)), (4, .int x4)] → kb_W D vwCl [(cI, .int), (cZ, .boolean)] A s H locs (mW cI cZ a z) → pM_init_L242 n x4 z = some (0, z') → W p l e rm_M_init s m args below meth c H locs 20 1281 (MQ below (kc_Q D vwCl sz [(h0, .inr (3, [.int 0, .int 0, .int 0, .int 0, .null, .null, .null, .null, .null, .null, .null, .null, .null, .null, .int 0, .null, .null, .null, .null, .null, .null, .null, .int 0, .null, .null, .null, .int 0]))] (fun a : Nat → Nat => a 0 = h0) (fun a : Nat → Nat => mW cI cZ a z')) args s 20 1281 (va_A [(h0, .inr (3, [.int 0, .int 0, .int 0, .int 0, .null, .null, .null, .null, .null, .null, .null, .null, .null, .null, .int 0, .null, .null, .null, .null, .null, .null, .null, .int 0, .null, .null, .null, .int 0]))] sz)) (F0 m 242 ls []) := by
    intro n
    induction n with
    | zero =>
      intro x4 z H locs ls hl w h
      exact absurd h (by simp [pM_init_L242])
    | succ n ih =>
      intro x4 z H locs ls hl w h
      rw [pM_init_L242] at h
      refine lv_iload S.1 S.2.1 dM_init_242 (lv_at hl 1 rfl) ?_
      refine lv_bipush (v := 16) S.1 S.2.1 dM_init_244 (by decide) ?_
      refine lv_icmp_ge (tgt := 295) S.1 S.2.1 dM_init_246 (by decide) (fun hc => ?_) (fun hc => ?_)
      · have h := (kb_brt hc).symm.trans h
        refine lv_iconst (v := 0) S.1 S.2.1 dM_init_295 (by decide) ?_
        refine lv_istore S.1 S.2.1 dM_init_296 hl (by decide) rfl (fun ls hl => ?_)
        have hl : lv_has ls 5 [(4, .int 0), (0, .ref (a 0))] := hl
        exact L298 3000 0 z _ _ _ (lv_sub hl [1, 0] rfl) w h
      · have h := (kb_brf hc).symm.trans h
        refine lv_aload_n S.1 S.2.1 dM_init_249 rfl (lv_at hl 0 rfl) ?_
        refine kb_get S w 0 rfl fM_13 rfl dM_init_250 ?_
        refine W.eq (g2 := F0 m 253 ls [.ref (a 2)]) rfl ?_
        refine lv_iload S.1 S.2.1 dM_init_253 (lv_at hl 1 rfl) ?_
        refine lv_iconst (v := (-1)) S.1 S.2.1 dM_init_255 (by decide) ?_
        obtain ⟨hi52, h⟩ := kb_ck_of h
        obtain ⟨z53, hz54, h⟩ := kb_st_of h
        refine kb_iast S w 2 0 rfl rfl hi52 (ws1 := mW cI cZ a z53) (by rw [hz54]; rfl) dM_init_256 (fun H locs w => ?_)
        refine lv_aload_n S.1 S.2.1 dM_init_257 rfl (lv_at hl 0 rfl) ?_
        refine kb_get S w 0 rfl fM_16 rfl dM_init_258 ?_
        refine W.eq (g2 := F0 m 261 ls [.ref (a 3)]) rfl ?_
        refine lv_iload S.1 S.2.1 dM_init_261 (lv_at hl 1 rfl) ?_
        refine lv_iconst (v := (-1)) S.1 S.2.1 dM_init_263 (by decide) ?_
        obtain ⟨hi55, h⟩ := kb_ck_of h
        obtain ⟨z56, hz57, h⟩ := kb_st_of h
        refine kb_iast S w 3 0 rfl rfl hi55 (ws1 := mW cI cZ a z56) (by rw [hz57]; rfl) dM_init_264 (fun H locs w => ?_)
        refine lv_aload_n S.1 S.2.1 dM_init_265 rfl (lv_at hl 0 rfl) ?_
        refine kb_get S w 0 rfl fM_19 rfl dM_init_266 ?_
        refine W.eq (g2 := F0 m 269 ls [.ref (a 4)]) rfl ?_
        refine lv_iload S.1 S.2.1 dM_init_269 (lv_at hl 1 rfl) ?_
        refine lv_iconst (v := (-1)) S.1 S.2.1 dM_init_271 (by decide) ?_
        obtain ⟨hi58, h⟩ := kb_ck_of h
        obtain ⟨z59, hz60, h⟩ := kb_st_of h
        refine kb_iast S w 4 0 rfl rfl hi58 (ws1 := mW cI cZ a z59) (by rw [hz60]; rfl) dM_init_272 (fun H locs w => ?_)
        refine lv_aload_n S.1 S.2.1 dM_init_273 rfl (lv_at hl 0 rfl) ?_
        refine kb_get S w 0 rfl fM_22 rfl dM_init_274 ?_
        refine W.eq (g2 := F0 m 277 ls [.ref (a 5)]) rfl ?_
        refine lv_iload S.1 S.2.1 dM_init_277 (lv_at hl 1 rfl) ?_
        refine lv_iconst (v := (-1)) S.1 S.2.1 dM_init_279 (by decide) ?_
        obtain ⟨hi61, h⟩ := kb_ck_of h
        obtain ⟨z62, hz63, h⟩ := kb_st_of h
        refine kb_iast S w 5 0 rfl rfl hi61 (ws1 := mW cI cZ a z62) (by rw [hz63]; rfl) dM_init_280 (fun H locs w => ?_)
        refine lv_aload_n S.1 S.2.1 dM_init_281 rfl (lv_at hl 0 rfl) ?_
        refine kb_get S w 0 rfl fM_25 rfl dM_init_282 ?_
        refine W.eq (g2 := F0 m 285 ls [.ref (a 6)]) rfl ?_
        refine lv_iload S.1 S.2.1 dM_init_285 (lv_at hl 1 rfl) ?_
        refine lv_iconst (v := (-1)) S.1 S.2.1 dM_init_287 (by decide) ?_
        obtain ⟨hi64, h⟩ := kb_ck_of h
        obtain ⟨z65, hz66, h⟩ := kb_st_of h
        refine kb_iast S w 6 0 rfl rfl hi64 (ws1 := mW cI cZ a z65) (by rw [hz66]; rfl) dM_init_288 (fun H locs w => ?_)
        refine lv_iinc (v := x4 + 1) (k := 1) S.1 S.2.1 dM_init_289 hl rfl rfl (by decide) rfl (fun ls hl => ?_)
        have hl : lv_has ls 5 [(4, .int (x4 + 1)), (0, .ref (a 0))] := hl
        refine lv_goto (tgt := 242) S.1 S.2.1 dM_init_292 (by decide) ?_
        exact ih (x4 + 1) z65 _ _ _ (lv_sub hl [1, 0] rfl) w h
  have J209 : ∀ (x3 : Int32) (s0 : Int32) (z : kb_S) (H : Heap) (locs : List Loc) (ls : Array Slot), lv_has ls 5 [(0, .ref (a 0)), (3, .int x3)] → kb_W D vwCl [(cI, .int), (cZ, .boolean)] A s H locs (mW cI cZ a z) → pM_init_J209 x3 s0 z = some (0, z') → W p l e rm_M_init s m args below meth c H locs 20 1281 (MQ below (kc_Q D vwCl sz [(h0, .inr (3, [.int 0, .int 0, .int 0, .int 0, .null, .null, .null, .null, .null, .null, .null, .null, .null, .null, .int 0, .null, .null, .null, .null, .null, .null, .null, .int 0, .null, .null, .null, .int 0]))] (fun a : Nat → Nat => a 0 = h0) (fun a : Nat → Nat => mW cI cZ a z')) args s 20 1281 (va_A [(h0, .inr (3, [.int 0, .int 0, .int 0, .int 0, .null, .null, .null, .null, .null, .null, .null, .null, .null, .null, .int 0, .null, .null, .null, .null, .null, .null, .null, .int 0, .null, .null, .null, .int 0]))] sz)) (F0 m 209 ls [.int s0, .ref (a 0)]) := by
    intro x3 s0 z H locs ls hl w h
    unfold pM_init_J209 at h
    obtain ⟨z3, hz4, h⟩ := kb_st_of h
    refine kb_putF S hin w 0 rfl gFM_75 rfl rfl (Nat.le_of_ble_eq_true rfl) (ws1 := mW cI cZ a z3) (by rw [hz4]; rfl) dM_init_209 (fun H locs w => ?_)
    refine lv_aload_n S.1 S.2.1 dM_init_212 rfl (lv_at hl 0 rfl) ?_
    refine lv_iload_n S.1 S.2.1 dM_init_213 rfl (lv_at hl 1 rfl) ?_
    refine lv_iconst (v := 1) S.1 S.2.1 dM_init_214 (by decide) ?_
    refine lv_icmp_ge (tgt := 222) S.1 S.2.1 dM_init_215 (by decide) (fun hc => ?_) (fun hc => ?_)
    · have h := (kb_brt hc).symm.trans h
      refine lv_iload_n S.1 S.2.1 dM_init_222 rfl (lv_at hl 1 rfl) ?_
      refine lv_sipush (v := 1000) S.1 S.2.1 dM_init_223 (by decide) ?_
      refine lv_icmp_le (tgt := 235) S.1 S.2.1 dM_init_226 (by decide) (fun hc => ?_) (fun hc => ?_)
      · have h := (kb_brt hc).symm.trans h
        refine lv_iload_n S.1 S.2.1 dM_init_235 rfl (lv_at hl 1 rfl) ?_
        obtain ⟨z5, hz6, h⟩ := kb_st_of h
        refine kb_putF S hin w 0 rfl gFM_78 rfl rfl (Nat.le_of_ble_eq_true rfl) (ws1 := mW cI cZ a z5) (by rw [hz6]; rfl) dM_init_236 (fun H locs w => ?_)
        refine lv_iconst (v := 0) S.1 S.2.1 dM_init_239 (by decide) ?_
        refine lv_istore S.1 S.2.1 dM_init_240 hl (by decide) rfl (fun ls hl => ?_)
        have hl : lv_has ls 5 [(4, .int 0), (0, .ref (a 0)), (3, .int x3)] := hl
        exact L242 3000 0 z5 _ _ _ (lv_sub hl [1, 0] rfl) w h
      · have h := (kb_brf hc).symm.trans h
        refine lv_sipush (v := 1000) S.1 S.2.1 dM_init_229 (by decide) ?_
        refine lv_goto (tgt := 236) S.1 S.2.1 dM_init_232 (by decide) ?_
        obtain ⟨z67, hz68, h⟩ := kb_st_of h
        refine kb_putF S hin w 0 rfl gFM_78 rfl rfl (Nat.le_of_ble_eq_true rfl) (ws1 := mW cI cZ a z67) (by rw [hz68]; rfl) dM_init_236 (fun H locs w => ?_)
        refine lv_iconst (v := 0) S.1 S.2.1 dM_init_239 (by decide) ?_
        refine lv_istore S.1 S.2.1 dM_init_240 hl (by decide) rfl (fun ls hl => ?_)
        have hl : lv_has ls 5 [(4, .int 0), (0, .ref (a 0)), (3, .int x3)] := hl
        exact L242 3000 0 z67 _ _ _ (lv_sub hl [1, 0] rfl) w h
    · have h := (kb_brf hc).symm.trans h
      refine lv_iconst (v := 1) S.1 S.2.1 dM_init_218 (by decide) ?_
      refine lv_goto (tgt := 236) S.1 S.2.1 dM_init_219 (by decide) ?_
      obtain ⟨z69, hz70, h⟩ := kb_st_of h
      refine kb_putF S hin w 0 rfl gFM_78 rfl rfl (Nat.le_of_ble_eq_true rfl) (ws1 := mW cI cZ a z69) (by rw [hz70]; rfl) dM_init_236 (fun H locs w => ?_)
      refine lv_iconst (v := 0) S.1 S.2.1 dM_init_239 (by decide) ?_
      refine lv_istore S.1 S.2.1 dM_init_240 hl (by decide) rfl (fun ls hl => ?_)
      have hl : lv_has ls 5 [(4, .int 0), (0, .ref (a 0)), (3, .int x3)] := hl
      exact L242 3000 0 z69 _ _ _ (lv_sub hl [1, 0] rfl) w h
  have J184 : ∀ (x2 : Int32) (x3 : Int32) (s0 : Int32) (z : kb_S) (H : Heap) (locs : List Loc) (ls : Array Slot), lv_has ls 5 [(0, .ref (a 0)), (2, .int x2), (3, .int x3)] → kb_W D vwCl [(cI, .int), (cZ, .boolean)] A s H locs (mW cI cZ a z) → pM_init_J184 x2 x3 s0 z = some (0, z') → W p l e rm_M_init s m args below meth c H locs 20 1281 (MQ below (kc_Q D vwCl sz [(h0, .inr (3, [.int 0, .int 0, .int 0, .int 0, .null, .null, .null, .null, .null, .null, .null, .null, .null, .null, .int 0, .null, .null, .null, .null, .null, .null, .null, .int 0, .null, .null, .null, .int 0]))] (fun a : Nat → Nat => a 0 = h0) (fun a : Nat → Nat => mW cI cZ a z')) args s 20 1281 (va_A [(h0, .inr (3, [.int 0, .int 0, .int 0, .int 0, .null, .null, .null, .null, .null, .null, .null, .null, .null, .null, .int 0, .null, .null, .null, .null, .null, .null, .null, .int 0, .null, .null, .null, .int 0]))] sz)) (F0 m 184 ls [.int s0, .ref (a 0)]) := by
    intro x2 x3 s0 z H locs ls hl w h
    unfold pM_init_J184 at h
    obtain ⟨z1, hz2, h⟩ := kb_st_of h
    refine kb_putF S hin w 0 rfl gFM_71 rfl rfl (Nat.le_of_ble_eq_true rfl) (ws1 := mW cI cZ a z1) (by rw [hz2]; rfl) dM_init_184 (fun H locs w => ?_)
    refine lv_aload_n S.1 S.2.1 dM_init_187 rfl (lv_at hl 0 rfl) ?_
    refine lv_iload_n S.1 S.2.1 dM_init_188 rfl (lv_at hl 1 rfl) ?_
    refine lv_iconst (v := 1) S.1 S.2.1 dM_init_189 (by decide) ?_
    refine lv_icmp_ge (tgt := 197) S.1 S.2.1 dM_init_190 (by decide) (fun hc => ?_) (fun hc => ?_)
    · have h := (kb_brt hc).symm.trans h
      refine lv_iload_n S.1 S.2.1 dM_init_197 rfl (lv_at hl 1 rfl) ?_
      refine lv_bipush (v := 12) S.1 S.2.1 dM_init_198 (by decide) ?_
      refine lv_icmp_le (tgt := 208) S.1 S.2.1 dM_init_200 (by decide) (fun hc => ?_) (fun hc => ?_)
      · have h := (kb_brt hc).symm.trans h
        refine lv_iload_n S.1 S.2.1 dM_init_208 rfl (lv_at hl 1 rfl) ?_
        exact J209 x3 x2 z1 _ _ _ (lv_sub hl [0, 2] rfl) w h
      · have h := (kb_brf hc).symm.trans h
        refine lv_bipush (v := 12) S.1 S.2.1 dM_init_203 (by decide) ?_
        refine lv_goto (tgt := 209) S.1 S.2.1 dM_init_205 (by decide) ?_
        exact J209 x3 12 z1 _ _ _ (lv_sub hl [0, 2] rfl) w h
    · have h := (kb_brf hc).symm.trans h
      refine lv_iconst (v := 1) S.1 S.2.1 dM_init_193 (by decide) ?_
      refine lv_goto (tgt := 209) S.1 S.2.1 dM_init_194 (by decide) ?_
      exact J209 x3 1 z1 _ _ _ (lv_sub hl [0, 2] rfl) w h
  refine lv_aload_n S.1 S.2.1 dM_init_162 rfl (lv_at hl 0 rfl) ?_
  refine lv_iload_n S.1 S.2.1 dM_init_163 rfl (lv_at hl 1 rfl) ?_
  refine lv_iconst (v := 1) S.1 S.2.1 dM_init_164 (by decide) ?_
  refine lv_icmp_ge (tgt := 172) S.1 S.2.1 dM_init_165 (by decide) (fun hc => ?_) (fun hc => ?_)
  · have h := (kb_brt hc).symm.trans h
    refine lv_iload_n S.1 S.2.1 dM_init_172 rfl (lv_at hl 1 rfl) ?_
    refine lv_bipush (v := 8) S.1 S.2.1 dM_init_173 (by decide) ?_
    refine lv_icmp_le (tgt := 183) S.1 S.2.1 dM_init_175 (by decide) (fun hc => ?_) (fun hc => ?_)
    · have h := (kb_brt hc).symm.trans h
      refine lv_iload_n S.1 S.2.1 dM_init_183 rfl (lv_at hl 1 rfl) ?_
      exact J184 x2 x3 x1 kz0 _ _ _ (lv_sub hl [0, 2, 3] rfl) w h
    · have h := (kb_brf hc).symm.trans h
      refine lv_bipush (v := 8) S.1 S.2.1 dM_init_178 (by decide) ?_
      refine lv_goto (tgt := 184) S.1 S.2.1 dM_init_180 (by decide) ?_
      exact J184 x2 x3 8 kz0 _ _ _ (lv_sub hl [0, 2, 3] rfl) w h
  · have h := (kb_brf hc).symm.trans h
    refine lv_iconst (v := 1) S.1 S.2.1 dM_init_168 (by decide) ?_
    refine lv_goto (tgt := 184) S.1 S.2.1 dM_init_169 (by decide) ?_
    exact J184 x2 x3 1 kz0 _ _ _ (lv_sub hl [0, 2, 3] rfl) w h
