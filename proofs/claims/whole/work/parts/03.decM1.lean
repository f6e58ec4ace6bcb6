theorem dX12_init_0 : decode cX12_init 0 = .ok (.aload_n 0, 1) := by decide +kernel
theorem dX12_init_1 : decode cX12_init 1 = .ok (.invokespecial 1, 3) := by decide +kernel
theorem dX12_init_4 : decode cX12_init 4 = .ok (.aload_n 0, 1) := by decide +kernel
theorem dX12_init_5 : decode cX12_init 5 = .ok (.sipush 1000, 3) := by decide +kernel
theorem dX12_init_8 : decode cX12_init 8 = .ok (.newarray .int, 2) := by decide +kernel
theorem dX12_init_10 : decode cX12_init 10 = .ok (.putfield 7, 3) := by decide +kernel
theorem dX12_init_13 : decode cX12_init 13 = .ok (.aload_n 0, 1) := by decide +kernel
theorem dX12_init_14 : decode cX12_init 14 = .ok (.bipush 20, 2) := by decide +kernel
theorem dX12_init_16 : decode cX12_init 16 = .ok (.newarray .int, 2) := by decide +kernel
theorem dX12_init_18 : decode cX12_init 18 = .ok (.putfield 13, 3) := by decide +kernel
theorem dX12_init_21 : decode cX12_init 21 = .ok (.aload_n 0, 1) := by decide +kernel
theorem dX12_init_22 : decode cX12_init 22 = .ok (.bipush 12, 2) := by decide +kernel
theorem dX12_init_24 : decode cX12_init 24 = .ok (.newarray .long, 2) := by decide +kernel
theorem dX12_init_26 : decode cX12_init 26 = .ok (.putfield 16, 3) := by decide +kernel
theorem dX12_init_29 : decode cX12_init 29 = .ok (.aload_n 0, 1) := by decide +kernel
theorem dX12_init_30 : decode cX12_init 30 = .ok (.bipush 10, 2) := by decide +kernel
theorem dX12_init_32 : decode cX12_init 32 = .ok (.newarray .long, 2) := by decide +kernel
theorem dX12_init_34 : decode cX12_init 34 = .ok (.putfield 20, 3) := by decide +kernel
theorem dX12_init_37 : decode cX12_init 37 = .ok (.aload_n 0, 1) := by decide +kernel
theorem dX12_init_38 : decode cX12_init 38 = .ok (.bipush 12, 2) := by decide +kernel
theorem dX12_init_40 : decode cX12_init 40 = .ok (.newarray .long, 2) := by decide +kernel
theorem dX12_init_42 : decode cX12_init 42 = .ok (.putfield 23, 3) := by decide +kernel
theorem dX12_init_45 : decode cX12_init 45 = .ok (.aload_n 0, 1) := by decide +kernel
theorem dX12_init_46 : decode cX12_init 46 = .ok (.bipush 12, 2) := by decide +kernel
theorem dX12_init_48 : decode cX12_init 48 = .ok (.newarray .int, 2) := by decide +kernel
theorem dX12_init_50 : decode cX12_init 50 = .ok (.putfield 26, 3) := by decide +kernel
theorem dX12_init_53 : decode cX12_init 53 = .ok (.aload_n 0, 1) := by decide +kernel
theorem dX12_init_54 : decode cX12_init 54 = .ok (.bipush 10, 2) := by decide +kernel
theorem dX12_init_56 : decode cX12_init 56 = .ok (.newarray .int, 2) := by decide +kernel
theorem dX12_init_58 : decode cX12_init 58 = .ok (.putfield 29, 3) := by decide +kernel
theorem dX12_init_61 : decode cX12_init 61 = .ok (.aload_n 0, 1) := by decide +kernel
theorem dX12_init_62 : decode cX12_init 62 = .ok (.bipush 10, 2) := by decide +kernel
theorem dX12_init_64 : decode cX12_init 64 = .ok (.newarray .int, 2) := by decide +kernel
theorem dX12_init_66 : decode cX12_init 66 = .ok (.putfield 32, 3) := by decide +kernel
theorem dX12_init_69 : decode cX12_init 69 = .ok (.aload_n 0, 1) := by decide +kernel
theorem dX12_init_70 : decode cX12_init 70 = .ok (.bipush 10, 2) := by decide +kernel
theorem dX12_init_72 : decode cX12_init 72 = .ok (.newarray .int, 2) := by decide +kernel
theorem dX12_init_74 : decode cX12_init 74 = .ok (.putfield 35, 3) := by decide +kernel
theorem dX12_init_77 : decode cX12_init 77 = .ok (.aload_n 0, 1) := by decide +kernel
theorem dX12_init_78 : decode cX12_init 78 = .ok (.bipush 10, 2) := by decide +kernel
theorem dX12_init_80 : decode cX12_init 80 = .ok (.newarray .int, 2) := by decide +kernel
theorem dX12_init_82 : decode cX12_init 82 = .ok (.putfield 38, 3) := by decide +kernel
theorem dX12_init_85 : decode cX12_init 85 = .ok (.aload_n 0, 1) := by decide +kernel
theorem dX12_init_86 : decode cX12_init 86 = .ok (.bipush 10, 2) := by decide +kernel
theorem dX12_init_88 : decode cX12_init 88 = .ok (.newarray .int, 2) := by decide +kernel
theorem dX12_init_90 : decode cX12_init 90 = .ok (.putfield 41, 3) := by decide +kernel
theorem dX12_init_93 : decode cX12_init 93 = .ok (.aload_n 0, 1) := by decide +kernel
theorem dX12_init_94 : decode cX12_init 94 = .ok (.bipush 12, 2) := by decide +kernel
theorem dX12_init_96 : decode cX12_init 96 = .ok (.newarray .int, 2) := by decide +kernel
theorem dX12_init_98 : decode cX12_init 98 = .ok (.putfield 44, 3) := by decide +kernel
theorem dX12_init_101 : decode cX12_init 101 = .ok (.aload_n 0, 1) := by decide +kernel
theorem dX12_init_102 : decode cX12_init 102 = .ok (.bipush 12, 2) := by decide +kernel
theorem dX12_init_104 : decode cX12_init 104 = .ok (.newarray .int, 2) := by decide +kernel
theorem dX12_init_106 : decode cX12_init 106 = .ok (.putfield 47, 3) := by decide +kernel
theorem dX12_init_109 : decode cX12_init 109 = .ok (.aload_n 0, 1) := by decide +kernel
theorem dX12_init_110 : decode cX12_init 110 = .ok (.bipush 12, 2) := by decide +kernel
theorem dX12_init_112 : decode cX12_init 112 = .ok (.newarray .int, 2) := by decide +kernel
theorem dX12_init_114 : decode cX12_init 114 = .ok (.putfield 50, 3) := by decide +kernel
theorem dX12_init_117 : decode cX12_init 117 = .ok (.aload_n 0, 1) := by decide +kernel
theorem dX12_init_118 : decode cX12_init 118 = .ok (.bipush 12, 2) := by decide +kernel
theorem dX12_init_120 : decode cX12_init 120 = .ok (.newarray .int, 2) := by decide +kernel
theorem dX12_init_122 : decode cX12_init 122 = .ok (.putfield 53, 3) := by decide +kernel
theorem dX12_init_125 : decode cX12_init 125 = .ok (.aload_n 0, 1) := by decide +kernel
theorem dX12_init_126 : decode cX12_init 126 = .ok (.bipush 36, 2) := by decide +kernel
theorem dX12_init_128 : decode cX12_init 128 = .ok (.newarray .int, 2) := by decide +kernel
theorem dX12_init_130 : decode cX12_init 130 = .ok (.putfield 56, 3) := by decide +kernel
theorem dX12_init_133 : decode cX12_init 133 = .ok (.aload_n 0, 1) := by decide +kernel
theorem dX12_init_134 : decode cX12_init 134 = .ok (.bipush 12, 2) := by decide +kernel
theorem dX12_init_136 : decode cX12_init 136 = .ok (.newarray .int, 2) := by decide +kernel
theorem dX12_init_138 : decode cX12_init 138 = .ok (.putfield 59, 3) := by decide +kernel
theorem dX12_init_141 : decode cX12_init 141 = .ok (.aload_n 0, 1) := by decide +kernel
theorem dX12_init_142 : decode cX12_init 142 = .ok (.bipush 8, 2) := by decide +kernel
theorem dX12_init_144 : decode cX12_init 144 = .ok (.newarray .int, 2) := by decide +kernel
theorem dX12_init_146 : decode cX12_init 146 = .ok (.putfield 62, 3) := by decide +kernel
theorem dX12_init_149 : decode cX12_init 149 = .ok (.aload_n 0, 1) := by decide +kernel
theorem dX12_init_150 : decode cX12_init 150 = .ok (.iconst 2, 1) := by decide +kernel
theorem dX12_init_151 : decode cX12_init 151 = .ok (.newarray .int, 2) := by decide +kernel
theorem dX12_init_153 : decode cX12_init 153 = .ok (.putfield 65, 3) := by decide +kernel
theorem dX12_init_156 : decode cX12_init 156 = .ok (.aload_n 0, 1) := by decide +kernel
theorem dX12_init_157 : decode cX12_init 157 = .ok (.iconst 2, 1) := by decide +kernel
theorem dX12_init_158 : decode cX12_init 158 = .ok (.newarray .int, 2) := by decide +kernel
theorem dX12_init_160 : decode cX12_init 160 = .ok (.putfield 68, 3) := by decide +kernel
theorem dX12_init_163 : decode cX12_init 163 = .ok (.aload_n 0, 1) := by decide +kernel
theorem dX12_init_164 : decode cX12_init 164 = .ok (.sipush 2000, 3) := by decide +kernel
theorem dX12_init_167 : decode cX12_init 167 = .ok (.newarray .int, 2) := by decide +kernel
theorem dX12_init_169 : decode cX12_init 169 = .ok (.putfield 71, 3) := by decide +kernel
theorem dX12_init_172 : decode cX12_init 172 = .ok (.aload_n 0, 1) := by decide +kernel
theorem dX12_init_173 : decode cX12_init 173 = .ok (.bipush 7, 2) := by decide +kernel
theorem dX12_init_175 : decode cX12_init 175 = .ok (.newarray .int, 2) := by decide +kernel
theorem dX12_init_177 : decode cX12_init 177 = .ok (.putfield 74, 3) := by decide +kernel
theorem dX12_init_180 : decode cX12_init 180 = .ok (.aload_n 0, 1) := by decide +kernel
theorem dX12_init_181 : decode cX12_init 181 = .ok (.bipush 7, 2) := by decide +kernel
theorem dX12_init_183 : decode cX12_init 183 = .ok (.newarray .boolean, 2) := by decide +kernel
theorem dX12_init_185 : decode cX12_init 185 = .ok (.putfield 77, 3) := by decide +kernel
theorem dX12_init_188 : decode cX12_init 188 = .ok (.aload_n 0, 1) := by decide +kernel
theorem dX12_init_189 : decode cX12_init 189 = .ok (.bipush 7, 2) := by decide +kernel
theorem dX12_init_191 : decode cX12_init 191 = .ok (.newarray .int, 2) := by decide +kernel
theorem dX12_init_193 : decode cX12_init 193 = .ok (.putfield 81, 3) := by decide +kernel
theorem dX12_init_196 : decode cX12_init 196 = .ok (.aload_n 0, 1) := by decide +kernel
theorem dX12_init_197 : decode cX12_init 197 = .ok (.bipush 7, 2) := by decide +kernel
theorem dX12_init_199 : decode cX12_init 199 = .ok (.newarray .int, 2) := by decide +kernel
theorem dX12_init_201 : decode cX12_init 201 = .ok (.putfield 84, 3) := by decide +kernel
theorem dX12_init_204 : decode cX12_init 204 = .ok (.aload_n 0, 1) := by decide +kernel
theorem dX12_init_205 : decode cX12_init 205 = .ok (.bipush 7, 2) := by decide +kernel
theorem dX12_init_207 : decode cX12_init 207 = .ok (.newarray .int, 2) := by decide +kernel
theorem dX12_init_209 : decode cX12_init 209 = .ok (.putfield 87, 3) := by decide +kernel
theorem dX12_init_212 : decode cX12_init 212 = .ok (.aload_n 0, 1) := by decide +kernel
theorem dX12_init_213 : decode cX12_init 213 = .ok (.bipush 7, 2) := by decide +kernel
theorem dX12_init_215 : decode cX12_init 215 = .ok (.newarray .int, 2) := by decide +kernel
theorem dX12_init_217 : decode cX12_init 217 = .ok (.putfield 90, 3) := by decide +kernel
theorem dX12_init_220 : decode cX12_init 220 = .ok (.aload_n 0, 1) := by decide +kernel
theorem dX12_init_221 : decode cX12_init 221 = .ok (.bipush 7, 2) := by decide +kernel
theorem dX12_init_223 : decode cX12_init 223 = .ok (.newarray .int, 2) := by decide +kernel
theorem dX12_init_225 : decode cX12_init 225 = .ok (.putfield 93, 3) := by decide +kernel
theorem dX12_init_228 : decode cX12_init 228 = .ok (.aload_n 0, 1) := by decide +kernel
theorem dX12_init_229 : decode cX12_init 229 = .ok (.bipush 7, 2) := by decide +kernel
theorem dX12_init_231 : decode cX12_init 231 = .ok (.newarray .int, 2) := by decide +kernel
theorem dX12_init_233 : decode cX12_init 233 = .ok (.putfield 96, 3) := by decide +kernel
theorem dX12_init_236 : decode cX12_init 236 = .ok (.aload_n 0, 1) := by decide +kernel
theorem dX12_init_237 : decode cX12_init 237 = .ok (.bipush 7, 2) := by decide +kernel
theorem dX12_init_239 : decode cX12_init 239 = .ok (.newarray .int, 2) := by decide +kernel
theorem dX12_init_241 : decode cX12_init 241 = .ok (.putfield 99, 3) := by decide +kernel
theorem dX12_init_244 : decode cX12_init 244 = .ok (.aload_n 0, 1) := by decide +kernel
theorem dX12_init_245 : decode cX12_init 245 = .ok (.bipush 7, 2) := by decide +kernel
theorem dX12_init_247 : decode cX12_init 247 = .ok (.newarray .int, 2) := by decide +kernel
theorem dX12_init_249 : decode cX12_init 249 = .ok (.putfield 102, 3) := by decide +kernel
theorem dX12_init_252 : decode cX12_init 252 = .ok (.aload_n 0, 1) := by decide +kernel
theorem dX12_init_253 : decode cX12_init 253 = .ok (.bipush 7, 2) := by decide +kernel
theorem dX12_init_255 : decode cX12_init 255 = .ok (.newarray .int, 2) := by decide +kernel
theorem dX12_init_257 : decode cX12_init 257 = .ok (.putfield 105, 3) := by decide +kernel
theorem dX12_init_260 : decode cX12_init 260 = .ok (.aload_n 0, 1) := by decide +kernel
theorem dX12_init_261 : decode cX12_init 261 = .ok (.bipush 20, 2) := by decide +kernel
theorem dX12_init_263 : decode cX12_init 263 = .ok (.newarray .int, 2) := by decide +kernel
theorem dX12_init_265 : decode cX12_init 265 = .ok (.putfield 108, 3) := by decide +kernel
theorem dX12_init_268 : decode cX12_init 268 = .ok (.aload_n 0, 1) := by decide +kernel
theorem dX12_init_269 : decode cX12_init 269 = .ok (.bipush 6, 2) := by decide +kernel
theorem dX12_init_271 : decode cX12_init 271 = .ok (.newarray .int, 2) := by decide +kernel
theorem dX12_init_273 : decode cX12_init 273 = .ok (.putfield 111, 3) := by decide +kernel
theorem dX12_init_276 : decode cX12_init 276 = .ok (.aload_n 0, 1) := by decide +kernel
theorem dX12_init_277 : decode cX12_init 277 = .ok (.sipush 240, 3) := by decide +kernel
theorem dX12_init_280 : decode cX12_init 280 = .ok (.newarray .int, 2) := by decide +kernel
theorem dX12_init_282 : decode cX12_init 282 = .ok (.putfield 114, 3) := by decide +kernel
theorem dX12_init_285 : decode cX12_init 285 = .ok (.aload_n 0, 1) := by decide +kernel
theorem dX12_init_286 : decode cX12_init 286 = .ok (.sipush 240, 3) := by decide +kernel
theorem dX12_init_289 : decode cX12_init 289 = .ok (.newarray .int, 2) := by decide +kernel
theorem dX12_init_291 : decode cX12_init 291 = .ok (.putfield 117, 3) := by decide +kernel
theorem dX12_init_294 : decode cX12_init 294 = .ok (.aload_n 0, 1) := by decide +kernel
theorem dX12_init_295 : decode cX12_init 295 = .ok (.sipush 240, 3) := by decide +kernel
theorem dX12_init_298 : decode cX12_init 298 = .ok (.newarray .int, 2) := by decide +kernel
theorem dX12_init_300 : decode cX12_init 300 = .ok (.putfield 120, 3) := by decide +kernel
theorem dX12_init_303 : decode cX12_init 303 = .ok (.aload_n 0, 1) := by decide +kernel
theorem dX12_init_304 : decode cX12_init 304 = .ok (.iconst 5, 1) := by decide +kernel
theorem dX12_init_305 : decode cX12_init 305 = .ok (.newarray .int, 2) := by decide +kernel
theorem dX12_init_307 : decode cX12_init 307 = .ok (.putfield 123, 3) := by decide +kernel
theorem dX12_init_310 : decode cX12_init 310 = .ok (.aload_n 0, 1) := by decide +kernel
theorem dX12_init_311 : decode cX12_init 311 = .ok (.bipush 50, 2) := by decide +kernel
theorem dX12_init_313 : decode cX12_init 313 = .ok (.newarray .int, 2) := by decide +kernel
theorem dX12_init_315 : decode cX12_init 315 = .ok (.putfield 126, 3) := by decide +kernel
theorem dX12_init_318 : decode cX12_init 318 = .ok (.aload_n 0, 1) := by decide +kernel
theorem dX12_init_319 : decode cX12_init 319 = .ok (.bipush 50, 2) := by decide +kernel
theorem dX12_init_321 : decode cX12_init 321 = .ok (.newarray .int, 2) := by decide +kernel
theorem dX12_init_323 : decode cX12_init 323 = .ok (.putfield 129, 3) := by decide +kernel
theorem dX12_init_326 : decode cX12_init 326 = .ok (.aload_n 0, 1) := by decide +kernel
theorem dX12_init_327 : decode cX12_init 327 = .ok (.iconst 5, 1) := by decide +kernel
theorem dX12_init_328 : decode cX12_init 328 = .ok (.newarray .int, 2) := by decide +kernel
theorem dX12_init_330 : decode cX12_init 330 = .ok (.putfield 132, 3) := by decide +kernel
theorem dX12_init_333 : decode cX12_init 333 = .ok (.aload_n 0, 1) := by decide +kernel
theorem dX12_init_334 : decode cX12_init 334 = .ok (.bipush 30, 2) := by decide +kernel
theorem dX12_init_336 : decode cX12_init 336 = .ok (.newarray .int, 2) := by decide +kernel
theorem dX12_init_338 : decode cX12_init 338 = .ok (.putfield 135, 3) := by decide +kernel
theorem dX12_init_341 : decode cX12_init 341 = .ok (.aload_n 0, 1) := by decide +kernel
theorem dX12_init_342 : decode cX12_init 342 = .ok (.bipush 30, 2) := by decide +kernel
theorem dX12_init_344 : decode cX12_init 344 = .ok (.newarray .int, 2) := by decide +kernel
theorem dX12_init_346 : decode cX12_init 346 = .ok (.putfield 138, 3) := by decide +kernel
theorem dX12_init_349 : decode cX12_init 349 = .ok (.aload_n 0, 1) := by decide +kernel
theorem dX12_init_350 : decode cX12_init 350 = .ok (.bipush 9, 2) := by decide +kernel
theorem dX12_init_352 : decode cX12_init 352 = .ok (.newarray .int, 2) := by decide +kernel
theorem dX12_init_354 : decode cX12_init 354 = .ok (.putfield 141, 3) := by decide +kernel
theorem dX12_init_357 : decode cX12_init 357 = .ok (.aload_n 0, 1) := by decide +kernel
theorem dX12_init_358 : decode cX12_init 358 = .ok (.bipush 18, 2) := by decide +kernel
theorem dX12_init_360 : decode cX12_init 360 = .ok (.newarray .int, 2) := by decide +kernel
theorem dX12_init_362 : decode cX12_init 362 = .ok (.putfield 144, 3) := by decide +kernel
theorem dX12_init_365 : decode cX12_init 365 = .ok (.aload_n 0, 1) := by decide +kernel
theorem dX12_init_366 : decode cX12_init 366 = .ok (.bipush 36, 2) := by decide +kernel
theorem dX12_init_368 : decode cX12_init 368 = .ok (.newarray .int, 2) := by decide +kernel
theorem dX12_init_370 : decode cX12_init 370 = .ok (.putfield 147, 3) := by decide +kernel
theorem dX12_init_373 : decode cX12_init 373 = .ok (.aload_n 0, 1) := by decide +kernel
theorem dX12_init_374 : decode cX12_init 374 = .ok (.sipush 144, 3) := by decide +kernel
theorem dX12_init_377 : decode cX12_init 377 = .ok (.newarray .int, 2) := by decide +kernel
theorem dX12_init_379 : decode cX12_init 379 = .ok (.putfield 150, 3) := by decide +kernel
theorem dX12_init_382 : decode cX12_init 382 = .ok (.aload_n 0, 1) := by decide +kernel
theorem dX12_init_383 : decode cX12_init 383 = .ok (.iconst 4, 1) := by decide +kernel
theorem dX12_init_384 : decode cX12_init 384 = .ok (.newarray .boolean, 2) := by decide +kernel
theorem dX12_init_386 : decode cX12_init 386 = .ok (.putfield 153, 3) := by decide +kernel
theorem dX12_init_389 : decode cX12_init 389 = .ok (.aload_n 0, 1) := by decide +kernel
theorem dX12_init_390 : decode cX12_init 390 = .ok (.iconst (-1), 1) := by decide +kernel
theorem dX12_init_391 : decode cX12_init 391 = .ok (.putfield 156, 3) := by decide +kernel
theorem dX12_init_394 : decode cX12_init 394 = .ok (.aload_n 0, 1) := by decide +kernel
theorem dX12_init_395 : decode cX12_init 395 = .ok (.iconst (-1), 1) := by decide +kernel
theorem dX12_init_396 : decode cX12_init 396 = .ok (.putfield 160, 3) := by decide +kernel
theorem dX12_init_399 : decode cX12_init 399 = .ok (.aload_n 0, 1) := by decide +kernel
theorem dX12_init_400 : decode cX12_init 400 = .ok (.bipush 6, 2) := by decide +kernel
theorem dX12_init_402 : decode cX12_init 402 = .ok (.newarray .int, 2) := by decide +kernel
theorem dX12_init_404 : decode cX12_init 404 = .ok (.putfield 163, 3) := by decide +kernel
theorem dX12_init_407 : decode cX12_init 407 = .ok (.aload_n 0, 1) := by decide +kernel
theorem dX12_init_408 : decode cX12_init 408 = .ok (.bipush 6, 2) := by decide +kernel
theorem dX12_init_410 : decode cX12_init 410 = .ok (.newarray .int, 2) := by decide +kernel
theorem dX12_init_412 : decode cX12_init 412 = .ok (.putfield 166, 3) := by decide +kernel
theorem dX12_init_415 : decode cX12_init 415 = .ok (.aload_n 0, 1) := by decide +kernel
theorem dX12_init_416 : decode cX12_init 416 = .ok (.bipush 6, 2) := by decide +kernel
theorem dX12_init_418 : decode cX12_init 418 = .ok (.newarray .int, 2) := by decide +kernel
theorem dX12_init_420 : decode cX12_init 420 = .ok (.putfield 169, 3) := by decide +kernel
theorem dX12_init_423 : decode cX12_init 423 = .ok (.aload_n 0, 1) := by decide +kernel
theorem dX12_init_424 : decode cX12_init 424 = .ok (.bipush 6, 2) := by decide +kernel
theorem dX12_init_426 : decode cX12_init 426 = .ok (.newarray .int, 2) := by decide +kernel
theorem dX12_init_428 : decode cX12_init 428 = .ok (.putfield 172, 3) := by decide +kernel
theorem dX12_init_431 : decode cX12_init 431 = .ok (.aload_n 0, 1) := by decide +kernel
theorem dX12_init_432 : decode cX12_init 432 = .ok (.bipush 6, 2) := by decide +kernel
theorem dX12_init_434 : decode cX12_init 434 = .ok (.newarray .int, 2) := by decide +kernel
theorem dX12_init_436 : decode cX12_init 436 = .ok (.putfield 175, 3) := by decide +kernel
theorem dX12_init_439 : decode cX12_init 439 = .ok (.aload_n 0, 1) := by decide +kernel
theorem dX12_init_440 : decode cX12_init 440 = .ok (.bipush 6, 2) := by decide +kernel
theorem dX12_init_442 : decode cX12_init 442 = .ok (.newarray .boolean, 2) := by decide +kernel
theorem dX12_init_444 : decode cX12_init 444 = .ok (.putfield 178, 3) := by decide +kernel
theorem dX12_init_447 : decode cX12_init 447 = .ok (.aload_n 0, 1) := by decide +kernel
theorem dX12_init_448 : decode cX12_init 448 = .ok (.iconst 2, 1) := by decide +kernel
theorem dX12_init_449 : decode cX12_init 449 = .ok (.newarray .int, 2) := by decide +kernel
theorem dX12_init_451 : decode cX12_init 451 = .ok (.putfield 181, 3) := by decide +kernel
theorem dX12_init_454 : decode cX12_init 454 = .ok (.aload_n 0, 1) := by decide +kernel
theorem dX12_init_455 : decode cX12_init 455 = .ok (.sipush 384, 3) := by decide +kernel
theorem dX12_init_458 : decode cX12_init 458 = .ok (.newarray .int, 2) := by decide +kernel
theorem dX12_init_460 : decode cX12_init 460 = .ok (.putfield 184, 3) := by decide +kernel
theorem dX12_init_463 : decode cX12_init 463 = .ok (.aload_n 0, 1) := by decide +kernel
theorem dX12_init_464 : decode cX12_init 464 = .ok (.iconst 0, 1) := by decide +kernel
theorem dX12_init_465 : decode cX12_init 465 = .ok (.invokevirtual 187, 3) := by decide +kernel
theorem dX12_init_468 : decode cX12_init 468 = .ok (.aload_n 0, 1) := by decide +kernel
theorem dX12_init_469 : decode cX12_init 469 = .ok (.invokevirtual 191, 3) := by decide +kernel
theorem dX12_init_472 : decode cX12_init 472 = .ok (.return_, 1) := by decide +kernel
theorem dX12_thrown_0 : decode cX12_thrown 0 = .ok (.aload_n 0, 1) := by decide +kernel
theorem dX12_thrown_1 : decode cX12_thrown 1 = .ok (.getfield 194, 3) := by decide +kernel
theorem dX12_thrown_4 : decode cX12_thrown 4 = .ok (.ireturn, 1) := by decide +kernel
theorem dX12_within_0 : decode cX12_within 0 = .ok (.iload_n 0, 1) := by decide +kernel
theorem dX12_within_1 : decode cX12_within 1 = .ok (.iload_n 1, 1) := by decide +kernel
theorem dX12_within_2 : decode cX12_within 2 = .ok (.if_icmp .lt 12, 3) := by decide +kernel
theorem dX12_within_5 : decode cX12_within 5 = .ok (.iload_n 0, 1) := by decide +kernel
theorem dX12_within_6 : decode cX12_within 6 = .ok (.iload_n 2, 1) := by decide +kernel
theorem dX12_within_7 : decode cX12_within 7 = .ok (.if_icmp .gt 7, 3) := by decide +kernel
theorem dX12_within_10 : decode cX12_within 10 = .ok (.iconst 1, 1) := by decide +kernel
theorem dX12_within_11 : decode cX12_within 11 = .ok (.goto 4, 3) := by decide +kernel
theorem dX12_within_14 : decode cX12_within 14 = .ok (.iconst 0, 1) := by decide +kernel
theorem dX12_within_15 : decode cX12_within 15 = .ok (.ireturn, 1) := by decide +kernel
theorem dX12_away_0 : decode cX12_away 0 = .ok (.iload_n 0, 1) := by decide +kernel
theorem dX12_away_1 : decode cX12_away 1 = .ok (.iload_n 1, 1) := by decide +kernel
theorem dX12_away_2 : decode cX12_away 2 = .ok (.if_icmp .ge 9, 3) := by decide +kernel
theorem dX12_away_5 : decode cX12_away 5 = .ok (.iload_n 1, 1) := by decide +kernel
theorem dX12_away_6 : decode cX12_away 6 = .ok (.iload_n 0, 1) := by decide +kernel
theorem dX12_away_7 : decode cX12_away 7 = .ok (.isub, 1) := by decide +kernel
theorem dX12_away_8 : decode cX12_away 8 = .ok (.goto 6, 3) := by decide +kernel
theorem dX12_away_11 : decode cX12_away 11 = .ok (.iload_n 0, 1) := by decide +kernel
theorem dX12_away_12 : decode cX12_away 12 = .ok (.iload_n 1, 1) := by decide +kernel
theorem dX12_away_13 : decode cX12_away 13 = .ok (.isub, 1) := by decide +kernel
theorem dX12_away_14 : decode cX12_away 14 = .ok (.ireturn, 1) := by decide +kernel
theorem dX12_bits_0 : decode cX12_bits 0 = .ok (.iconst 0, 1) := by decide +kernel
theorem dX12_bits_1 : decode cX12_bits 1 = .ok (.istore_n 1, 1) := by decide +kernel
theorem dX12_bits_2 : decode cX12_bits 2 = .ok (.iconst 0, 1) := by decide +kernel
theorem dX12_bits_3 : decode cX12_bits 3 = .ok (.istore_n 2, 1) := by decide +kernel
theorem dX12_bits_4 : decode cX12_bits 4 = .ok (.iload_n 2, 1) := by decide +kernel
theorem dX12_bits_5 : decode cX12_bits 5 = .ok (.bipush 6, 2) := by decide +kernel
theorem dX12_bits_7 : decode cX12_bits 7 = .ok (.if_icmp .ge 17, 3) := by decide +kernel
theorem dX12_bits_10 : decode cX12_bits 10 = .ok (.iload_n 1, 1) := by decide +kernel
theorem dX12_bits_11 : decode cX12_bits 11 = .ok (.iload_n 0, 1) := by decide +kernel
theorem dX12_bits_12 : decode cX12_bits 12 = .ok (.iload_n 2, 1) := by decide +kernel
theorem dX12_bits_13 : decode cX12_bits 13 = .ok (.ishr, 1) := by decide +kernel
theorem dX12_bits_14 : decode cX12_bits 14 = .ok (.iconst 1, 1) := by decide +kernel
theorem dX12_bits_15 : decode cX12_bits 15 = .ok (.iand, 1) := by decide +kernel
theorem dX12_bits_16 : decode cX12_bits 16 = .ok (.iadd, 1) := by decide +kernel
theorem dX12_bits_17 : decode cX12_bits 17 = .ok (.istore_n 1, 1) := by decide +kernel
theorem dX12_bits_18 : decode cX12_bits 18 = .ok (.iinc 2 1, 3) := by decide +kernel
theorem dX12_bits_21 : decode cX12_bits 21 = .ok (.goto (-17), 3) := by decide +kernel
theorem dX12_bits_24 : decode cX12_bits 24 = .ok (.iload_n 1, 1) := by decide +kernel
theorem dX12_bits_25 : decode cX12_bits 25 = .ok (.ireturn, 1) := by decide +kernel
theorem dX12_feed_0 : decode cX12_feed 0 = .ok (.aload_n 0, 1) := by decide +kernel
theorem dX12_feed_1 : decode cX12_feed 1 = .ok (.iconst 0, 1) := by decide +kernel
theorem dX12_feed_2 : decode cX12_feed 2 = .ok (.putfield 194, 3) := by decide +kernel
theorem dX12_feed_5 : decode cX12_feed 5 = .ok (.iconst 0, 1) := by decide +kernel
theorem dX12_feed_6 : decode cX12_feed 6 = .ok (.istore 7, 2) := by decide +kernel
theorem dX12_feed_8 : decode cX12_feed 8 = .ok (.iload 7, 2) := by decide +kernel
theorem dX12_feed_10 : decode cX12_feed 10 = .ok (.bipush 24, 2) := by decide +kernel
theorem dX12_feed_12 : decode cX12_feed 12 = .ok (.if_icmp .ge 108, 3) := by decide +kernel
theorem dX12_feed_15 : decode cX12_feed 15 = .ok (.iload 7, 2) := by decide +kernel
theorem dX12_feed_17 : decode cX12_feed 17 = .ok (.bipush 8, 2) := by decide +kernel
theorem dX12_feed_19 : decode cX12_feed 19 = .ok (.if_icmp .ge 7, 3) := by decide +kernel
theorem dX12_feed_22 : decode cX12_feed 22 = .ok (.lload_n 1, 1) := by decide +kernel
theorem dX12_feed_23 : decode cX12_feed 23 = .ok (.goto 16, 3) := by decide +kernel
theorem dX12_feed_26 : decode cX12_feed 26 = .ok (.iload 7, 2) := by decide +kernel
theorem dX12_feed_28 : decode cX12_feed 28 = .ok (.bipush 16, 2) := by decide +kernel
theorem dX12_feed_30 : decode cX12_feed 30 = .ok (.if_icmp .ge 7, 3) := by decide +kernel
theorem dX12_feed_33 : decode cX12_feed 33 = .ok (.lload_n 3, 1) := by decide +kernel
theorem dX12_feed_34 : decode cX12_feed 34 = .ok (.goto 5, 3) := by decide +kernel
theorem dX12_feed_37 : decode cX12_feed 37 = .ok (.lload 5, 2) := by decide +kernel
theorem dX12_feed_39 : decode cX12_feed 39 = .ok (.lstore 8, 2) := by decide +kernel
theorem dX12_feed_41 : decode cX12_feed 41 = .ok (.lload 8, 2) := by decide +kernel
theorem dX12_feed_43 : decode cX12_feed 43 = .ok (.bipush 56, 2) := by decide +kernel
theorem dX12_feed_45 : decode cX12_feed 45 = .ok (.bipush 8, 2) := by decide +kernel
theorem dX12_feed_47 : decode cX12_feed 47 = .ok (.iload 7, 2) := by decide +kernel
theorem dX12_feed_49 : decode cX12_feed 49 = .ok (.bipush 7, 2) := by decide +kernel
theorem dX12_feed_51 : decode cX12_feed 51 = .ok (.iand, 1) := by decide +kernel
theorem dX12_feed_52 : decode cX12_feed 52 = .ok (.imul, 1) := by decide +kernel
theorem dX12_feed_53 : decode cX12_feed 53 = .ok (.isub, 1) := by decide +kernel
theorem dX12_feed_54 : decode cX12_feed 54 = .ok (.lushr, 1) := by decide +kernel
theorem dX12_feed_55 : decode cX12_feed 55 = .ok (.ldc2_w 197, 3) := by decide +kernel
theorem dX12_feed_58 : decode cX12_feed 58 = .ok (.land, 1) := by decide +kernel
theorem dX12_feed_59 : decode cX12_feed 59 = .ok (.l2i, 1) := by decide +kernel
theorem dX12_feed_60 : decode cX12_feed 60 = .ok (.istore 10, 2) := by decide +kernel
theorem dX12_feed_62 : decode cX12_feed 62 = .ok (.aload_n 0, 1) := by decide +kernel
theorem dX12_feed_63 : decode cX12_feed 63 = .ok (.getfield 199, 3) := by decide +kernel
theorem dX12_feed_66 : decode cX12_feed 66 = .ok (.sipush 1000, 3) := by decide +kernel
theorem dX12_feed_69 : decode cX12_feed 69 = .ok (.if_icmp .ge 45, 3) := by decide +kernel
theorem dX12_feed_72 : decode cX12_feed 72 = .ok (.iload 10, 2) := by decide +kernel
theorem dX12_feed_74 : decode cX12_feed 74 = .ok (.bipush 10, 2) := by decide +kernel
theorem dX12_feed_76 : decode cX12_feed 76 = .ok (.if_icmp .eq 17, 3) := by decide +kernel
theorem dX12_feed_79 : decode cX12_feed 79 = .ok (.iload 10, 2) := by decide +kernel
theorem dX12_feed_81 : decode cX12_feed 81 = .ok (.bipush 32, 2) := by decide +kernel
theorem dX12_feed_83 : decode cX12_feed 83 = .ok (.if_icmp .lt 31, 3) := by decide +kernel
theorem dX12_feed_86 : decode cX12_feed 86 = .ok (.iload 10, 2) := by decide +kernel
theorem dX12_feed_88 : decode cX12_feed 88 = .ok (.bipush 126, 2) := by decide +kernel
theorem dX12_feed_90 : decode cX12_feed 90 = .ok (.if_icmp .gt 24, 3) := by decide +kernel
theorem dX12_feed_93 : decode cX12_feed 93 = .ok (.aload_n 0, 1) := by decide +kernel
theorem dX12_feed_94 : decode cX12_feed 94 = .ok (.getfield 7, 3) := by decide +kernel
theorem dX12_feed_97 : decode cX12_feed 97 = .ok (.aload_n 0, 1) := by decide +kernel
theorem dX12_feed_98 : decode cX12_feed 98 = .ok (.getfield 199, 3) := by decide +kernel
theorem dX12_feed_101 : decode cX12_feed 101 = .ok (.iload 10, 2) := by decide +kernel
theorem dX12_feed_103 : decode cX12_feed 103 = .ok (.iastore, 1) := by decide +kernel
theorem dX12_feed_104 : decode cX12_feed 104 = .ok (.aload_n 0, 1) := by decide +kernel
theorem dX12_feed_105 : decode cX12_feed 105 = .ok (.dup, 1) := by decide +kernel
theorem dX12_feed_106 : decode cX12_feed 106 = .ok (.getfield 199, 3) := by decide +kernel
theorem dX12_feed_109 : decode cX12_feed 109 = .ok (.iconst 1, 1) := by decide +kernel
theorem dX12_feed_110 : decode cX12_feed 110 = .ok (.iadd, 1) := by decide +kernel
theorem dX12_feed_111 : decode cX12_feed 111 = .ok (.putfield 199, 3) := by decide +kernel
theorem dX12_feed_114 : decode cX12_feed 114 = .ok (.iinc 7 1, 3) := by decide +kernel
theorem dX12_feed_117 : decode cX12_feed 117 = .ok (.goto (-109), 3) := by decide +kernel
theorem dX12_feed_120 : decode cX12_feed 120 = .ok (.aload_n 0, 1) := by decide +kernel
theorem dX12_feed_121 : decode cX12_feed 121 = .ok (.getfield 199, 3) := by decide +kernel
theorem dX12_feed_124 : decode cX12_feed 124 = .ok (.ireturn, 1) := by decide +kernel
theorem dX12_signAt_0 : decode cX12_signAt 0 = .ok (.iload_n 1, 1) := by decide +kernel
theorem dX12_signAt_1 : decode cX12_signAt 1 = .ok (.aload_n 0, 1) := by decide +kernel
theorem dX12_signAt_2 : decode cX12_signAt 2 = .ok (.getfield 202, 3) := by decide +kernel
theorem dX12_signAt_5 : decode cX12_signAt 5 = .ok (.if_icmp .ge 12, 3) := by decide +kernel
theorem dX12_signAt_8 : decode cX12_signAt 8 = .ok (.aload_n 0, 1) := by decide +kernel
theorem dX12_signAt_9 : decode cX12_signAt 9 = .ok (.getfield 7, 3) := by decide +kernel
theorem dX12_signAt_12 : decode cX12_signAt 12 = .ok (.iload_n 1, 1) := by decide +kernel
theorem dX12_signAt_13 : decode cX12_signAt 13 = .ok (.iaload, 1) := by decide +kernel
theorem dX12_signAt_14 : decode cX12_signAt 14 = .ok (.goto 4, 3) := by decide +kernel
theorem dX12_signAt_17 : decode cX12_signAt 17 = .ok (.iconst 0, 1) := by decide +kernel
theorem dX12_signAt_18 : decode cX12_signAt 18 = .ok (.ireturn, 1) := by decide +kernel
theorem dX12_nextToken_0 : decode cX12_nextToken 0 = .ok (.aload_n 0, 1) := by decide +kernel
theorem dX12_nextToken_1 : decode cX12_nextToken 1 = .ok (.getfield 205, 3) := by decide +kernel
theorem dX12_nextToken_4 : decode cX12_nextToken 4 = .ok (.aload_n 0, 1) := by decide +kernel
theorem dX12_nextToken_5 : decode cX12_nextToken 5 = .ok (.getfield 202, 3) := by decide +kernel
theorem dX12_nextToken_8 : decode cX12_nextToken 8 = .ok (.if_icmp .ge 44, 3) := by decide +kernel
theorem dX12_nextToken_11 : decode cX12_nextToken 11 = .ok (.aload_n 0, 1) := by decide +kernel
theorem dX12_nextToken_12 : decode cX12_nextToken 12 = .ok (.getfield 7, 3) := by decide +kernel
theorem dX12_nextToken_15 : decode cX12_nextToken 15 = .ok (.aload_n 0, 1) := by decide +kernel
theorem dX12_nextToken_16 : decode cX12_nextToken 16 = .ok (.getfield 205, 3) := by decide +kernel
theorem dX12_nextToken_19 : decode cX12_nextToken 19 = .ok (.iaload, 1) := by decide +kernel
theorem dX12_nextToken_20 : decode cX12_nextToken 20 = .ok (.bipush 32, 2) := by decide +kernel
theorem dX12_nextToken_22 : decode cX12_nextToken 22 = .ok (.if_icmp .eq 17, 3) := by decide +kernel
theorem dX12_nextToken_25 : decode cX12_nextToken 25 = .ok (.aload_n 0, 1) := by decide +kernel
theorem dX12_nextToken_26 : decode cX12_nextToken 26 = .ok (.getfield 7, 3) := by decide +kernel
theorem dX12_nextToken_29 : decode cX12_nextToken 29 = .ok (.aload_n 0, 1) := by decide +kernel
theorem dX12_nextToken_30 : decode cX12_nextToken 30 = .ok (.getfield 205, 3) := by decide +kernel
theorem dX12_nextToken_33 : decode cX12_nextToken 33 = .ok (.iaload, 1) := by decide +kernel
theorem dX12_nextToken_34 : decode cX12_nextToken 34 = .ok (.bipush 10, 2) := by decide +kernel
theorem dX12_nextToken_36 : decode cX12_nextToken 36 = .ok (.if_icmp .ne 16, 3) := by decide +kernel
theorem dX12_nextToken_39 : decode cX12_nextToken 39 = .ok (.aload_n 0, 1) := by decide +kernel
theorem dX12_nextToken_40 : decode cX12_nextToken 40 = .ok (.dup, 1) := by decide +kernel
theorem dX12_nextToken_41 : decode cX12_nextToken 41 = .ok (.getfield 205, 3) := by decide +kernel
theorem dX12_nextToken_44 : decode cX12_nextToken 44 = .ok (.iconst 1, 1) := by decide +kernel
theorem dX12_nextToken_45 : decode cX12_nextToken 45 = .ok (.iadd, 1) := by decide +kernel
theorem dX12_nextToken_46 : decode cX12_nextToken 46 = .ok (.putfield 205, 3) := by decide +kernel
theorem dX12_nextToken_49 : decode cX12_nextToken 49 = .ok (.goto (-49), 3) := by decide +kernel
theorem dX12_nextToken_52 : decode cX12_nextToken 52 = .ok (.aload_n 0, 1) := by decide +kernel
theorem dX12_nextToken_53 : decode cX12_nextToken 53 = .ok (.aload_n 0, 1) := by decide +kernel
theorem dX12_nextToken_54 : decode cX12_nextToken 54 = .ok (.getfield 205, 3) := by decide +kernel
theorem dX12_nextToken_57 : decode cX12_nextToken 57 = .ok (.putfield 208, 3) := by decide +kernel
theorem dX12_nextToken_60 : decode cX12_nextToken 60 = .ok (.aload_n 0, 1) := by decide +kernel
theorem dX12_nextToken_61 : decode cX12_nextToken 61 = .ok (.lconst 0, 1) := by decide +kernel
theorem dX12_nextToken_62 : decode cX12_nextToken 62 = .ok (.putfield 211, 3) := by decide +kernel
theorem dX12_nextToken_65 : decode cX12_nextToken 65 = .ok (.aload_n 0, 1) := by decide +kernel
theorem dX12_nextToken_66 : decode cX12_nextToken 66 = .ok (.iconst 0, 1) := by decide +kernel
theorem dX12_nextToken_67 : decode cX12_nextToken 67 = .ok (.putfield 215, 3) := by decide +kernel
theorem dX12_nextToken_70 : decode cX12_nextToken 70 = .ok (.aload_n 0, 1) := by decide +kernel
theorem dX12_nextToken_71 : decode cX12_nextToken 71 = .ok (.getfield 205, 3) := by decide +kernel
theorem dX12_nextToken_74 : decode cX12_nextToken 74 = .ok (.aload_n 0, 1) := by decide +kernel
theorem dX12_nextToken_75 : decode cX12_nextToken 75 = .ok (.getfield 202, 3) := by decide +kernel
theorem dX12_nextToken_78 : decode cX12_nextToken 78 = .ok (.if_icmp .ne 9, 3) := by decide +kernel
theorem dX12_nextToken_81 : decode cX12_nextToken 81 = .ok (.aload_n 0, 1) := by decide +kernel
theorem dX12_nextToken_82 : decode cX12_nextToken 82 = .ok (.iconst 0, 1) := by decide +kernel
theorem dX12_nextToken_83 : decode cX12_nextToken 83 = .ok (.putfield 218, 3) := by decide +kernel
theorem dX12_nextToken_86 : decode cX12_nextToken 86 = .ok (.return_, 1) := by decide +kernel
theorem dX12_nextToken_87 : decode cX12_nextToken 87 = .ok (.aload_n 0, 1) := by decide +kernel
theorem dX12_nextToken_88 : decode cX12_nextToken 88 = .ok (.getfield 7, 3) := by decide +kernel
theorem dX12_nextToken_91 : decode cX12_nextToken 91 = .ok (.aload_n 0, 1) := by decide +kernel
theorem dX12_nextToken_92 : decode cX12_nextToken 92 = .ok (.getfield 205, 3) := by decide +kernel
theorem dX12_nextToken_95 : decode cX12_nextToken 95 = .ok (.iaload, 1) := by decide +kernel
theorem dX12_nextToken_96 : decode cX12_nextToken 96 = .ok (.istore_n 1, 1) := by decide +kernel
theorem dX12_nextToken_97 : decode cX12_nextToken 97 = .ok (.iload_n 1, 1) := by decide +kernel
theorem dX12_nextToken_98 : decode cX12_nextToken 98 = .ok (.bipush 97, 2) := by decide +kernel
theorem dX12_nextToken_100 : decode cX12_nextToken 100 = .ok (.if_icmp .lt 112, 3) := by decide +kernel
theorem dX12_nextToken_103 : decode cX12_nextToken 103 = .ok (.iload_n 1, 1) := by decide +kernel
theorem dX12_nextToken_104 : decode cX12_nextToken 104 = .ok (.bipush 122, 2) := by decide +kernel
theorem dX12_nextToken_106 : decode cX12_nextToken 106 = .ok (.if_icmp .gt 106, 3) := by decide +kernel
theorem dX12_nextToken_109 : decode cX12_nextToken 109 = .ok (.aload_n 0, 1) := by decide +kernel
theorem dX12_nextToken_110 : decode cX12_nextToken 110 = .ok (.aload_n 0, 1) := by decide +kernel
theorem dX12_nextToken_111 : decode cX12_nextToken 111 = .ok (.getfield 205, 3) := by decide +kernel
theorem dX12_nextToken_114 : decode cX12_nextToken 114 = .ok (.invokevirtual 221, 3) := by decide +kernel
theorem dX12_nextToken_117 : decode cX12_nextToken 117 = .ok (.bipush 97, 2) := by decide +kernel
theorem dX12_nextToken_119 : decode cX12_nextToken 119 = .ok (.if_icmp .lt 69, 3) := by decide +kernel
theorem dX12_nextToken_122 : decode cX12_nextToken 122 = .ok (.aload_n 0, 1) := by decide +kernel
theorem dX12_nextToken_123 : decode cX12_nextToken 123 = .ok (.aload_n 0, 1) := by decide +kernel
theorem dX12_nextToken_124 : decode cX12_nextToken 124 = .ok (.getfield 205, 3) := by decide +kernel
theorem dX12_nextToken_127 : decode cX12_nextToken 127 = .ok (.invokevirtual 221, 3) := by decide +kernel
theorem dX12_nextToken_130 : decode cX12_nextToken 130 = .ok (.bipush 122, 2) := by decide +kernel
theorem dX12_nextToken_132 : decode cX12_nextToken 132 = .ok (.if_icmp .gt 56, 3) := by decide +kernel
theorem dX12_nextToken_135 : decode cX12_nextToken 135 = .ok (.aload_n 0, 1) := by decide +kernel
theorem dX12_nextToken_136 : decode cX12_nextToken 136 = .ok (.getfield 205, 3) := by decide +kernel
theorem dX12_nextToken_139 : decode cX12_nextToken 139 = .ok (.aload_n 0, 1) := by decide +kernel
theorem dX12_nextToken_140 : decode cX12_nextToken 140 = .ok (.getfield 208, 3) := by decide +kernel
theorem dX12_nextToken_143 : decode cX12_nextToken 143 = .ok (.isub, 1) := by decide +kernel
theorem dX12_nextToken_144 : decode cX12_nextToken 144 = .ok (.bipush 8, 2) := by decide +kernel
theorem dX12_nextToken_146 : decode cX12_nextToken 146 = .ok (.if_icmp .ge 29, 3) := by decide +kernel
theorem dX12_nextToken_149 : decode cX12_nextToken 149 = .ok (.aload_n 0, 1) := by decide +kernel
theorem dX12_nextToken_150 : decode cX12_nextToken 150 = .ok (.aload_n 0, 1) := by decide +kernel
theorem dX12_nextToken_151 : decode cX12_nextToken 151 = .ok (.getfield 211, 3) := by decide +kernel
theorem dX12_nextToken_154 : decode cX12_nextToken 154 = .ok (.ldc2_w 225, 3) := by decide +kernel
theorem dX12_nextToken_157 : decode cX12_nextToken 157 = .ok (.lmul, 1) := by decide +kernel
theorem dX12_nextToken_158 : decode cX12_nextToken 158 = .ok (.aload_n 0, 1) := by decide +kernel
theorem dX12_nextToken_159 : decode cX12_nextToken 159 = .ok (.aload_n 0, 1) := by decide +kernel
theorem dX12_nextToken_160 : decode cX12_nextToken 160 = .ok (.getfield 205, 3) := by decide +kernel
theorem dX12_nextToken_163 : decode cX12_nextToken 163 = .ok (.invokevirtual 221, 3) := by decide +kernel
theorem dX12_nextToken_166 : decode cX12_nextToken 166 = .ok (.i2l, 1) := by decide +kernel
theorem dX12_nextToken_167 : decode cX12_nextToken 167 = .ok (.ladd, 1) := by decide +kernel
theorem dX12_nextToken_168 : decode cX12_nextToken 168 = .ok (.ldc2_w 227, 3) := by decide +kernel
theorem dX12_nextToken_171 : decode cX12_nextToken 171 = .ok (.lsub, 1) := by decide +kernel
theorem dX12_nextToken_172 : decode cX12_nextToken 172 = .ok (.putfield 211, 3) := by decide +kernel
theorem dX12_nextToken_175 : decode cX12_nextToken 175 = .ok (.aload_n 0, 1) := by decide +kernel
theorem dX12_nextToken_176 : decode cX12_nextToken 176 = .ok (.dup, 1) := by decide +kernel
theorem dX12_nextToken_177 : decode cX12_nextToken 177 = .ok (.getfield 205, 3) := by decide +kernel
theorem dX12_nextToken_180 : decode cX12_nextToken 180 = .ok (.iconst 1, 1) := by decide +kernel
theorem dX12_nextToken_181 : decode cX12_nextToken 181 = .ok (.iadd, 1) := by decide +kernel
theorem dX12_nextToken_182 : decode cX12_nextToken 182 = .ok (.putfield 205, 3) := by decide +kernel
theorem dX12_nextToken_185 : decode cX12_nextToken 185 = .ok (.goto (-76), 3) := by decide +kernel
theorem dX12_nextToken_188 : decode cX12_nextToken 188 = .ok (.aload_n 0, 1) := by decide +kernel
theorem dX12_nextToken_189 : decode cX12_nextToken 189 = .ok (.aload_n 0, 1) := by decide +kernel
theorem dX12_nextToken_190 : decode cX12_nextToken 190 = .ok (.getfield 205, 3) := by decide +kernel
theorem dX12_nextToken_193 : decode cX12_nextToken 193 = .ok (.aload_n 0, 1) := by decide +kernel
theorem dX12_nextToken_194 : decode cX12_nextToken 194 = .ok (.getfield 208, 3) := by decide +kernel
theorem dX12_nextToken_197 : decode cX12_nextToken 197 = .ok (.isub, 1) := by decide +kernel
theorem dX12_nextToken_198 : decode cX12_nextToken 198 = .ok (.bipush 8, 2) := by decide +kernel
theorem dX12_nextToken_200 : decode cX12_nextToken 200 = .ok (.if_icmp .le 7, 3) := by decide +kernel
theorem dX12_nextToken_203 : decode cX12_nextToken 203 = .ok (.iconst 4, 1) := by decide +kernel
theorem dX12_nextToken_204 : decode cX12_nextToken 204 = .ok (.goto 4, 3) := by decide +kernel
theorem dX12_nextToken_207 : decode cX12_nextToken 207 = .ok (.iconst 1, 1) := by decide +kernel
theorem dX12_nextToken_208 : decode cX12_nextToken 208 = .ok (.putfield 218, 3) := by decide +kernel
theorem dX12_nextToken_211 : decode cX12_nextToken 211 = .ok (.return_, 1) := by decide +kernel
theorem dX12_nextToken_212 : decode cX12_nextToken 212 = .ok (.iload_n 1, 1) := by decide +kernel
theorem dX12_nextToken_213 : decode cX12_nextToken 213 = .ok (.bipush 48, 2) := by decide +kernel
theorem dX12_nextToken_215 : decode cX12_nextToken 215 = .ok (.if_icmp .lt 107, 3) := by decide +kernel
theorem dX12_nextToken_218 : decode cX12_nextToken 218 = .ok (.iload_n 1, 1) := by decide +kernel
theorem dX12_nextToken_219 : decode cX12_nextToken 219 = .ok (.bipush 57, 2) := by decide +kernel
theorem dX12_nextToken_221 : decode cX12_nextToken 221 = .ok (.if_icmp .gt 101, 3) := by decide +kernel
theorem dX12_nextToken_224 : decode cX12_nextToken 224 = .ok (.aload_n 0, 1) := by decide +kernel
theorem dX12_nextToken_225 : decode cX12_nextToken 225 = .ok (.aload_n 0, 1) := by decide +kernel
theorem dX12_nextToken_226 : decode cX12_nextToken 226 = .ok (.getfield 205, 3) := by decide +kernel
theorem dX12_nextToken_229 : decode cX12_nextToken 229 = .ok (.invokevirtual 221, 3) := by decide +kernel
theorem dX12_nextToken_232 : decode cX12_nextToken 232 = .ok (.bipush 48, 2) := by decide +kernel
theorem dX12_nextToken_234 : decode cX12_nextToken 234 = .ok (.if_icmp .lt 65, 3) := by decide +kernel
theorem dX12_nextToken_237 : decode cX12_nextToken 237 = .ok (.aload_n 0, 1) := by decide +kernel
theorem dX12_nextToken_238 : decode cX12_nextToken 238 = .ok (.aload_n 0, 1) := by decide +kernel
theorem dX12_nextToken_239 : decode cX12_nextToken 239 = .ok (.getfield 205, 3) := by decide +kernel
theorem dX12_nextToken_242 : decode cX12_nextToken 242 = .ok (.invokevirtual 221, 3) := by decide +kernel
theorem dX12_nextToken_245 : decode cX12_nextToken 245 = .ok (.bipush 57, 2) := by decide +kernel
theorem dX12_nextToken_247 : decode cX12_nextToken 247 = .ok (.if_icmp .gt 52, 3) := by decide +kernel
theorem dX12_nextToken_250 : decode cX12_nextToken 250 = .ok (.aload_n 0, 1) := by decide +kernel
theorem dX12_nextToken_251 : decode cX12_nextToken 251 = .ok (.getfield 205, 3) := by decide +kernel
theorem dX12_nextToken_254 : decode cX12_nextToken 254 = .ok (.aload_n 0, 1) := by decide +kernel
theorem dX12_nextToken_255 : decode cX12_nextToken 255 = .ok (.getfield 208, 3) := by decide +kernel
theorem dX12_nextToken_258 : decode cX12_nextToken 258 = .ok (.isub, 1) := by decide +kernel
theorem dX12_nextToken_259 : decode cX12_nextToken 259 = .ok (.iconst 4, 1) := by decide +kernel
theorem dX12_nextToken_260 : decode cX12_nextToken 260 = .ok (.if_icmp .ge 26, 3) := by decide +kernel
theorem dX12_nextToken_263 : decode cX12_nextToken 263 = .ok (.aload_n 0, 1) := by decide +kernel
theorem dX12_nextToken_264 : decode cX12_nextToken 264 = .ok (.aload_n 0, 1) := by decide +kernel
theorem dX12_nextToken_265 : decode cX12_nextToken 265 = .ok (.getfield 215, 3) := by decide +kernel
theorem dX12_nextToken_268 : decode cX12_nextToken 268 = .ok (.bipush 10, 2) := by decide +kernel
theorem dX12_nextToken_270 : decode cX12_nextToken 270 = .ok (.imul, 1) := by decide +kernel
theorem dX12_nextToken_271 : decode cX12_nextToken 271 = .ok (.aload_n 0, 1) := by decide +kernel
theorem dX12_nextToken_272 : decode cX12_nextToken 272 = .ok (.aload_n 0, 1) := by decide +kernel
theorem dX12_nextToken_273 : decode cX12_nextToken 273 = .ok (.getfield 205, 3) := by decide +kernel
theorem dX12_nextToken_276 : decode cX12_nextToken 276 = .ok (.invokevirtual 221, 3) := by decide +kernel
theorem dX12_nextToken_279 : decode cX12_nextToken 279 = .ok (.iadd, 1) := by decide +kernel
theorem dX12_nextToken_280 : decode cX12_nextToken 280 = .ok (.bipush 48, 2) := by decide +kernel
theorem dX12_nextToken_282 : decode cX12_nextToken 282 = .ok (.isub, 1) := by decide +kernel
theorem dX12_nextToken_283 : decode cX12_nextToken 283 = .ok (.putfield 215, 3) := by decide +kernel
theorem dX12_nextToken_286 : decode cX12_nextToken 286 = .ok (.aload_n 0, 1) := by decide +kernel
theorem dX12_nextToken_287 : decode cX12_nextToken 287 = .ok (.dup, 1) := by decide +kernel
theorem dX12_nextToken_288 : decode cX12_nextToken 288 = .ok (.getfield 205, 3) := by decide +kernel
theorem dX12_nextToken_291 : decode cX12_nextToken 291 = .ok (.iconst 1, 1) := by decide +kernel
theorem dX12_nextToken_292 : decode cX12_nextToken 292 = .ok (.iadd, 1) := by decide +kernel
theorem dX12_nextToken_293 : decode cX12_nextToken 293 = .ok (.putfield 205, 3) := by decide +kernel
theorem dX12_nextToken_296 : decode cX12_nextToken 296 = .ok (.goto (-72), 3) := by decide +kernel
theorem dX12_nextToken_299 : decode cX12_nextToken 299 = .ok (.aload_n 0, 1) := by decide +kernel
theorem dX12_nextToken_300 : decode cX12_nextToken 300 = .ok (.aload_n 0, 1) := by decide +kernel
theorem dX12_nextToken_301 : decode cX12_nextToken 301 = .ok (.getfield 205, 3) := by decide +kernel
theorem dX12_nextToken_304 : decode cX12_nextToken 304 = .ok (.aload_n 0, 1) := by decide +kernel
theorem dX12_nextToken_305 : decode cX12_nextToken 305 = .ok (.getfield 208, 3) := by decide +kernel
theorem dX12_nextToken_308 : decode cX12_nextToken 308 = .ok (.isub, 1) := by decide +kernel
theorem dX12_nextToken_309 : decode cX12_nextToken 309 = .ok (.iconst 4, 1) := by decide +kernel
theorem dX12_nextToken_310 : decode cX12_nextToken 310 = .ok (.if_icmp .le 7, 3) := by decide +kernel
theorem dX12_nextToken_313 : decode cX12_nextToken 313 = .ok (.iconst 4, 1) := by decide +kernel
theorem dX12_nextToken_314 : decode cX12_nextToken 314 = .ok (.goto 4, 3) := by decide +kernel
theorem dX12_nextToken_317 : decode cX12_nextToken 317 = .ok (.iconst 2, 1) := by decide +kernel
theorem dX12_nextToken_318 : decode cX12_nextToken 318 = .ok (.putfield 218, 3) := by decide +kernel
theorem dX12_nextToken_321 : decode cX12_nextToken 321 = .ok (.return_, 1) := by decide +kernel
theorem dX12_nextToken_322 : decode cX12_nextToken 322 = .ok (.aload_n 0, 1) := by decide +kernel
theorem dX12_nextToken_323 : decode cX12_nextToken 323 = .ok (.dup, 1) := by decide +kernel
theorem dX12_nextToken_324 : decode cX12_nextToken 324 = .ok (.getfield 205, 3) := by decide +kernel
theorem dX12_nextToken_327 : decode cX12_nextToken 327 = .ok (.iconst 1, 1) := by decide +kernel
theorem dX12_nextToken_328 : decode cX12_nextToken 328 = .ok (.iadd, 1) := by decide +kernel
theorem dX12_nextToken_329 : decode cX12_nextToken 329 = .ok (.putfield 205, 3) := by decide +kernel
theorem dX12_nextToken_332 : decode cX12_nextToken 332 = .ok (.aload_n 0, 1) := by decide +kernel
theorem dX12_nextToken_333 : decode cX12_nextToken 333 = .ok (.iload_n 1, 1) := by decide +kernel
theorem dX12_nextToken_334 : decode cX12_nextToken 334 = .ok (.bipush 40, 2) := by decide +kernel
theorem dX12_nextToken_336 : decode cX12_nextToken 336 = .ok (.if_icmp .lt 9, 3) := by decide +kernel
theorem dX12_nextToken_339 : decode cX12_nextToken 339 = .ok (.iload_n 1, 1) := by decide +kernel
theorem dX12_nextToken_340 : decode cX12_nextToken 340 = .ok (.bipush 43, 2) := by decide +kernel
theorem dX12_nextToken_342 : decode cX12_nextToken 342 = .ok (.if_icmp .le 21, 3) := by decide +kernel
theorem dX12_nextToken_345 : decode cX12_nextToken 345 = .ok (.iload_n 1, 1) := by decide +kernel
theorem dX12_nextToken_346 : decode cX12_nextToken 346 = .ok (.bipush 45, 2) := by decide +kernel
theorem dX12_nextToken_348 : decode cX12_nextToken 348 = .ok (.if_icmp .eq 15, 3) := by decide +kernel
theorem dX12_nextToken_351 : decode cX12_nextToken 351 = .ok (.iload_n 1, 1) := by decide +kernel
theorem dX12_nextToken_352 : decode cX12_nextToken 352 = .ok (.bipush 59, 2) := by decide +kernel
theorem dX12_nextToken_354 : decode cX12_nextToken 354 = .ok (.if_icmp .lt 13, 3) := by decide +kernel
theorem dX12_nextToken_357 : decode cX12_nextToken 357 = .ok (.iload_n 1, 1) := by decide +kernel
theorem dX12_nextToken_358 : decode cX12_nextToken 358 = .ok (.bipush 61, 2) := by decide +kernel
theorem dX12_nextToken_360 : decode cX12_nextToken 360 = .ok (.if_icmp .gt 7, 3) := by decide +kernel
theorem dX12_nextToken_363 : decode cX12_nextToken 363 = .ok (.iconst 3, 1) := by decide +kernel
theorem dX12_nextToken_364 : decode cX12_nextToken 364 = .ok (.goto 4, 3) := by decide +kernel
theorem dX12_nextToken_367 : decode cX12_nextToken 367 = .ok (.iconst 4, 1) := by decide +kernel
theorem dX12_nextToken_368 : decode cX12_nextToken 368 = .ok (.putfield 218, 3) := by decide +kernel
theorem dX12_nextToken_371 : decode cX12_nextToken 371 = .ok (.return_, 1) := by decide +kernel
theorem dX12_isWord_0 : decode cX12_isWord 0 = .ok (.aload_n 0, 1) := by decide +kernel
theorem dX12_isWord_1 : decode cX12_isWord 1 = .ok (.getfield 218, 3) := by decide +kernel
theorem dX12_isWord_4 : decode cX12_isWord 4 = .ok (.iconst 1, 1) := by decide +kernel
theorem dX12_isWord_5 : decode cX12_isWord 5 = .ok (.if_icmp .ne 16, 3) := by decide +kernel
theorem dX12_isWord_8 : decode cX12_isWord 8 = .ok (.aload_n 0, 1) := by decide +kernel
theorem dX12_isWord_9 : decode cX12_isWord 9 = .ok (.getfield 211, 3) := by decide +kernel
theorem dX12_isWord_12 : decode cX12_isWord 12 = .ok (.lload_n 1, 1) := by decide +kernel
theorem dX12_isWord_13 : decode cX12_isWord 13 = .ok (.lcmp, 1) := by decide +kernel
theorem dX12_isWord_14 : decode cX12_isWord 14 = .ok (.ifCond .ne 7, 3) := by decide +kernel
theorem dX12_isWord_17 : decode cX12_isWord 17 = .ok (.iconst 1, 1) := by decide +kernel
theorem dX12_isWord_18 : decode cX12_isWord 18 = .ok (.goto 4, 3) := by decide +kernel
theorem dX12_isWord_21 : decode cX12_isWord 21 = .ok (.iconst 0, 1) := by decide +kernel
theorem dX12_isWord_22 : decode cX12_isWord 22 = .ok (.ireturn, 1) := by decide +kernel
theorem dX12_isSign_0 : decode cX12_isSign 0 = .ok (.aload_n 0, 1) := by decide +kernel
theorem dX12_isSign_1 : decode cX12_isSign 1 = .ok (.getfield 218, 3) := by decide +kernel
theorem dX12_isSign_4 : decode cX12_isSign 4 = .ok (.iconst 3, 1) := by decide +kernel
theorem dX12_isSign_5 : decode cX12_isSign 5 = .ok (.if_icmp .ne 20, 3) := by decide +kernel
theorem dX12_isSign_8 : decode cX12_isSign 8 = .ok (.aload_n 0, 1) := by decide +kernel
theorem dX12_isSign_9 : decode cX12_isSign 9 = .ok (.getfield 7, 3) := by decide +kernel
theorem dX12_isSign_12 : decode cX12_isSign 12 = .ok (.aload_n 0, 1) := by decide +kernel
theorem dX12_isSign_13 : decode cX12_isSign 13 = .ok (.getfield 208, 3) := by decide +kernel
theorem dX12_isSign_16 : decode cX12_isSign 16 = .ok (.iaload, 1) := by decide +kernel
theorem dX12_isSign_17 : decode cX12_isSign 17 = .ok (.iload_n 1, 1) := by decide +kernel
theorem dX12_isSign_18 : decode cX12_isSign 18 = .ok (.if_icmp .ne 7, 3) := by decide +kernel
theorem dX12_isSign_21 : decode cX12_isSign 21 = .ok (.iconst 1, 1) := by decide +kernel
theorem dX12_isSign_22 : decode cX12_isSign 22 = .ok (.goto 4, 3) := by decide +kernel
theorem dX12_isSign_25 : decode cX12_isSign 25 = .ok (.iconst 0, 1) := by decide +kernel
theorem dX12_isSign_26 : decode cX12_isSign 26 = .ok (.ireturn, 1) := by decide +kernel
theorem dX12_fails_0 : decode cX12_fails 0 = .ok (.aload_n 0, 1) := by decide +kernel
theorem dX12_fails_1 : decode cX12_fails 1 = .ok (.iload_n 1, 1) := by decide +kernel
theorem dX12_fails_2 : decode cX12_fails 2 = .ok (.bipush 16, 2) := by decide +kernel
theorem dX12_fails_4 : decode cX12_fails 4 = .ok (.aload_n 0, 1) := by decide +kernel
theorem dX12_fails_5 : decode cX12_fails 5 = .ok (.getfield 208, 3) := by decide +kernel
theorem dX12_fails_8 : decode cX12_fails 8 = .ok (.imul, 1) := by decide +kernel
theorem dX12_fails_9 : decode cX12_fails 9 = .ok (.iadd, 1) := by decide +kernel
theorem dX12_fails_10 : decode cX12_fails 10 = .ok (.putfield 229, 3) := by decide +kernel
theorem dX12_fails_13 : decode cX12_fails 13 = .ok (.iconst 0, 1) := by decide +kernel
theorem dX12_fails_14 : decode cX12_fails 14 = .ok (.ireturn, 1) := by decide +kernel
theorem dX12_plain_0 : decode cX12_plain 0 = .ok (.iconst 0, 1) := by decide +kernel
theorem dX12_plain_1 : decode cX12_plain 1 = .ok (.istore_n 2, 1) := by decide +kernel
theorem dX12_plain_2 : decode cX12_plain 2 = .ok (.iload_n 2, 1) := by decide +kernel
theorem dX12_plain_3 : decode cX12_plain 3 = .ok (.bipush 10, 2) := by decide +kernel
theorem dX12_plain_5 : decode cX12_plain 5 = .ok (.if_icmp .ge 21, 3) := by decide +kernel
theorem dX12_plain_8 : decode cX12_plain 8 = .ok (.aload_n 0, 1) := by decide +kernel
theorem dX12_plain_9 : decode cX12_plain 9 = .ok (.getfield 13, 3) := by decide +kernel
theorem dX12_plain_12 : decode cX12_plain 12 = .ok (.bipush 10, 2) := by decide +kernel
theorem dX12_plain_14 : decode cX12_plain 14 = .ok (.iload_n 1, 1) := by decide +kernel
theorem dX12_plain_15 : decode cX12_plain 15 = .ok (.imul, 1) := by decide +kernel
theorem dX12_plain_16 : decode cX12_plain 16 = .ok (.iload_n 2, 1) := by decide +kernel
theorem dX12_plain_17 : decode cX12_plain 17 = .ok (.iadd, 1) := by decide +kernel
theorem dX12_plain_18 : decode cX12_plain 18 = .ok (.iconst 0, 1) := by decide +kernel
theorem dX12_plain_19 : decode cX12_plain 19 = .ok (.iastore, 1) := by decide +kernel
theorem dX12_plain_20 : decode cX12_plain 20 = .ok (.iinc 2 1, 3) := by decide +kernel
theorem dX12_plain_23 : decode cX12_plain 23 = .ok (.goto (-21), 3) := by decide +kernel
theorem dX12_plain_26 : decode cX12_plain 26 = .ok (.aload_n 0, 1) := by decide +kernel
theorem dX12_plain_27 : decode cX12_plain 27 = .ok (.getfield 13, 3) := by decide +kernel
theorem dX12_plain_30 : decode cX12_plain 30 = .ok (.bipush 10, 2) := by decide +kernel
theorem dX12_plain_32 : decode cX12_plain 32 = .ok (.iload_n 1, 1) := by decide +kernel
theorem dX12_plain_33 : decode cX12_plain 33 = .ok (.imul, 1) := by decide +kernel
theorem dX12_plain_34 : decode cX12_plain 34 = .ok (.iconst 3, 1) := by decide +kernel
theorem dX12_plain_35 : decode cX12_plain 35 = .ok (.iadd, 1) := by decide +kernel
theorem dX12_plain_36 : decode cX12_plain 36 = .ok (.sipush 600, 3) := by decide +kernel
theorem dX12_plain_39 : decode cX12_plain 39 = .ok (.iastore, 1) := by decide +kernel
theorem dX12_plain_40 : decode cX12_plain 40 = .ok (.aload_n 0, 1) := by decide +kernel
theorem dX12_plain_41 : decode cX12_plain 41 = .ok (.getfield 13, 3) := by decide +kernel
theorem dX12_plain_44 : decode cX12_plain 44 = .ok (.bipush 10, 2) := by decide +kernel
theorem dX12_plain_46 : decode cX12_plain 46 = .ok (.iload_n 1, 1) := by decide +kernel
theorem dX12_plain_47 : decode cX12_plain 47 = .ok (.imul, 1) := by decide +kernel
theorem dX12_plain_48 : decode cX12_plain 48 = .ok (.iconst 4, 1) := by decide +kernel
theorem dX12_plain_49 : decode cX12_plain 49 = .ok (.iadd, 1) := by decide +kernel
theorem dX12_plain_50 : decode cX12_plain 50 = .ok (.sipush 540, 3) := by decide +kernel
theorem dX12_plain_53 : decode cX12_plain 53 = .ok (.iastore, 1) := by decide +kernel
theorem dX12_plain_54 : decode cX12_plain 54 = .ok (.aload_n 0, 1) := by decide +kernel
theorem dX12_plain_55 : decode cX12_plain 55 = .ok (.getfield 13, 3) := by decide +kernel
theorem dX12_plain_58 : decode cX12_plain 58 = .ok (.bipush 10, 2) := by decide +kernel
theorem dX12_plain_60 : decode cX12_plain 60 = .ok (.iload_n 1, 1) := by decide +kernel
theorem dX12_plain_61 : decode cX12_plain 61 = .ok (.imul, 1) := by decide +kernel
theorem dX12_plain_62 : decode cX12_plain 62 = .ok (.iconst 5, 1) := by decide +kernel
theorem dX12_plain_63 : decode cX12_plain 63 = .ok (.iadd, 1) := by decide +kernel
theorem dX12_plain_64 : decode cX12_plain 64 = .ok (.iconst 2, 1) := by decide +kernel
theorem dX12_plain_65 : decode cX12_plain 65 = .ok (.iastore, 1) := by decide +kernel
theorem dX12_plain_66 : decode cX12_plain 66 = .ok (.aload_n 0, 1) := by decide +kernel
theorem dX12_plain_67 : decode cX12_plain 67 = .ok (.getfield 13, 3) := by decide +kernel
theorem dX12_plain_70 : decode cX12_plain 70 = .ok (.bipush 10, 2) := by decide +kernel
theorem dX12_plain_72 : decode cX12_plain 72 = .ok (.iload_n 1, 1) := by decide +kernel
theorem dX12_plain_73 : decode cX12_plain 73 = .ok (.imul, 1) := by decide +kernel
theorem dX12_plain_74 : decode cX12_plain 74 = .ok (.bipush 6, 2) := by decide +kernel
theorem dX12_plain_76 : decode cX12_plain 76 = .ok (.iadd, 1) := by decide +kernel
theorem dX12_plain_77 : decode cX12_plain 77 = .ok (.bipush 10, 2) := by decide +kernel
theorem dX12_plain_79 : decode cX12_plain 79 = .ok (.iastore, 1) := by decide +kernel
theorem dX12_plain_80 : decode cX12_plain 80 = .ok (.aload_n 0, 1) := by decide +kernel
theorem dX12_plain_81 : decode cX12_plain 81 = .ok (.getfield 13, 3) := by decide +kernel
theorem dX12_plain_84 : decode cX12_plain 84 = .ok (.bipush 10, 2) := by decide +kernel
theorem dX12_plain_86 : decode cX12_plain 86 = .ok (.iload_n 1, 1) := by decide +kernel
theorem dX12_plain_87 : decode cX12_plain 87 = .ok (.imul, 1) := by decide +kernel
theorem dX12_plain_88 : decode cX12_plain 88 = .ok (.bipush 7, 2) := by decide +kernel
theorem dX12_plain_90 : decode cX12_plain 90 = .ok (.iadd, 1) := by decide +kernel
theorem dX12_plain_91 : decode cX12_plain 91 = .ok (.bipush 60, 2) := by decide +kernel
theorem dX12_plain_93 : decode cX12_plain 93 = .ok (.iastore, 1) := by decide +kernel
theorem dX12_plain_94 : decode cX12_plain 94 = .ok (.aload_n 0, 1) := by decide +kernel
theorem dX12_plain_95 : decode cX12_plain 95 = .ok (.getfield 13, 3) := by decide +kernel
theorem dX12_plain_98 : decode cX12_plain 98 = .ok (.bipush 10, 2) := by decide +kernel
theorem dX12_plain_100 : decode cX12_plain 100 = .ok (.iload_n 1, 1) := by decide +kernel
theorem dX12_plain_101 : decode cX12_plain 101 = .ok (.imul, 1) := by decide +kernel
theorem dX12_plain_102 : decode cX12_plain 102 = .ok (.bipush 8, 2) := by decide +kernel
theorem dX12_plain_104 : decode cX12_plain 104 = .ok (.iadd, 1) := by decide +kernel
theorem dX12_plain_105 : decode cX12_plain 105 = .ok (.bipush 30, 2) := by decide +kernel
theorem dX12_plain_107 : decode cX12_plain 107 = .ok (.iastore, 1) := by decide +kernel
theorem dX12_plain_108 : decode cX12_plain 108 = .ok (.aload_n 0, 1) := by decide +kernel
theorem dX12_plain_109 : decode cX12_plain 109 = .ok (.getfield 13, 3) := by decide +kernel
theorem dX12_plain_112 : decode cX12_plain 112 = .ok (.bipush 10, 2) := by decide +kernel
theorem dX12_plain_114 : decode cX12_plain 114 = .ok (.iload_n 1, 1) := by decide +kernel
theorem dX12_plain_115 : decode cX12_plain 115 = .ok (.imul, 1) := by decide +kernel
theorem dX12_plain_116 : decode cX12_plain 116 = .ok (.bipush 9, 2) := by decide +kernel
theorem dX12_plain_118 : decode cX12_plain 118 = .ok (.iadd, 1) := by decide +kernel
theorem dX12_plain_119 : decode cX12_plain 119 = .ok (.iconst 5, 1) := by decide +kernel
theorem dX12_plain_120 : decode cX12_plain 120 = .ok (.iastore, 1) := by decide +kernel
theorem dX12_plain_121 : decode cX12_plain 121 = .ok (.iconst 0, 1) := by decide +kernel
theorem dX12_plain_122 : decode cX12_plain 122 = .ok (.istore_n 2, 1) := by decide +kernel
theorem dX12_plain_123 : decode cX12_plain 123 = .ok (.iload_n 2, 1) := by decide +kernel
theorem dX12_plain_124 : decode cX12_plain 124 = .ok (.iconst 4, 1) := by decide +kernel
theorem dX12_plain_125 : decode cX12_plain 125 = .ok (.if_icmp .ge 29, 3) := by decide +kernel
theorem dX12_plain_128 : decode cX12_plain 128 = .ok (.aload_n 0, 1) := by decide +kernel
theorem dX12_plain_129 : decode cX12_plain 129 = .ok (.getfield 62, 3) := by decide +kernel
theorem dX12_plain_132 : decode cX12_plain 132 = .ok (.iconst 4, 1) := by decide +kernel
theorem dX12_plain_133 : decode cX12_plain 133 = .ok (.iload_n 1, 1) := by decide +kernel
theorem dX12_plain_134 : decode cX12_plain 134 = .ok (.imul, 1) := by decide +kernel
theorem dX12_plain_135 : decode cX12_plain 135 = .ok (.iload_n 2, 1) := by decide +kernel
theorem dX12_plain_136 : decode cX12_plain 136 = .ok (.iadd, 1) := by decide +kernel
theorem dX12_plain_137 : decode cX12_plain 137 = .ok (.iload_n 2, 1) := by decide +kernel
theorem dX12_plain_138 : decode cX12_plain 138 = .ok (.ifCond .ne 8, 3) := by decide +kernel
theorem dX12_plain_141 : decode cX12_plain 141 = .ok (.bipush 10, 2) := by decide +kernel
theorem dX12_plain_143 : decode cX12_plain 143 = .ok (.goto 4, 3) := by decide +kernel
theorem dX12_plain_146 : decode cX12_plain 146 = .ok (.iconst 0, 1) := by decide +kernel
theorem dX12_plain_147 : decode cX12_plain 147 = .ok (.iastore, 1) := by decide +kernel
theorem dX12_plain_148 : decode cX12_plain 148 = .ok (.iinc 2 1, 3) := by decide +kernel
theorem dX12_plain_151 : decode cX12_plain 151 = .ok (.goto (-28), 3) := by decide +kernel
theorem dX12_plain_154 : decode cX12_plain 154 = .ok (.aload_n 0, 1) := by decide +kernel
theorem dX12_plain_155 : decode cX12_plain 155 = .ok (.getfield 65, 3) := by decide +kernel
theorem dX12_plain_158 : decode cX12_plain 158 = .ok (.iload_n 1, 1) := by decide +kernel
theorem dX12_plain_159 : decode cX12_plain 159 = .ok (.sipush 1000, 3) := by decide +kernel
theorem dX12_plain_162 : decode cX12_plain 162 = .ok (.iload_n 1, 1) := by decide +kernel
theorem dX12_plain_163 : decode cX12_plain 163 = .ok (.imul, 1) := by decide +kernel
theorem dX12_plain_164 : decode cX12_plain 164 = .ok (.iastore, 1) := by decide +kernel
theorem dX12_plain_165 : decode cX12_plain 165 = .ok (.aload_n 0, 1) := by decide +kernel
theorem dX12_plain_166 : decode cX12_plain 166 = .ok (.getfield 68, 3) := by decide +kernel
theorem dX12_plain_169 : decode cX12_plain 169 = .ok (.iload_n 1, 1) := by decide +kernel
theorem dX12_plain_170 : decode cX12_plain 170 = .ok (.sipush 1000, 3) := by decide +kernel
theorem dX12_plain_173 : decode cX12_plain 173 = .ok (.iload_n 1, 1) := by decide +kernel
theorem dX12_plain_174 : decode cX12_plain 174 = .ok (.imul, 1) := by decide +kernel
theorem dX12_plain_175 : decode cX12_plain 175 = .ok (.iastore, 1) := by decide +kernel
theorem dX12_plain_176 : decode cX12_plain 176 = .ok (.return_, 1) := by decide +kernel
theorem dX12_puts_0 : decode cX12_puts 0 = .ok (.aload_n 0, 1) := by decide +kernel
theorem dX12_puts_1 : decode cX12_puts 1 = .ok (.getfield 71, 3) := by decide +kernel
theorem dX12_puts_4 : decode cX12_puts 4 = .ok (.aload_n 0, 1) := by decide +kernel
theorem dX12_puts_5 : decode cX12_puts 5 = .ok (.getfield 232, 3) := by decide +kernel
theorem dX12_puts_8 : decode cX12_puts 8 = .ok (.iload_n 1, 1) := by decide +kernel
theorem dX12_puts_9 : decode cX12_puts 9 = .ok (.iastore, 1) := by decide +kernel
theorem dX12_puts_10 : decode cX12_puts 10 = .ok (.aload_n 0, 1) := by decide +kernel
theorem dX12_puts_11 : decode cX12_puts 11 = .ok (.dup, 1) := by decide +kernel
theorem dX12_puts_12 : decode cX12_puts 12 = .ok (.getfield 232, 3) := by decide +kernel
theorem dX12_puts_15 : decode cX12_puts 15 = .ok (.iconst 1, 1) := by decide +kernel
theorem dX12_puts_16 : decode cX12_puts 16 = .ok (.iadd, 1) := by decide +kernel
theorem dX12_puts_17 : decode cX12_puts 17 = .ok (.putfield 232, 3) := by decide +kernel
theorem dX12_puts_20 : decode cX12_puts 20 = .ok (.return_, 1) := by decide +kernel
theorem dX12_fact_0 : decode cX12_fact 0 = .ok (.aload_n 0, 1) := by decide +kernel
theorem dX12_fact_1 : decode cX12_fact 1 = .ok (.getfield 218, 3) := by decide +kernel
theorem dX12_fact_4 : decode cX12_fact 4 = .ok (.iconst 1, 1) := by decide +kernel
theorem dX12_fact_5 : decode cX12_fact 5 = .ok (.if_icmp .eq 5, 3) := by decide +kernel
theorem dX12_fact_8 : decode cX12_fact 8 = .ok (.iconst 0, 1) := by decide +kernel
theorem dX12_fact_9 : decode cX12_fact 9 = .ok (.ireturn, 1) := by decide +kernel
theorem dX12_fact_10 : decode cX12_fact 10 = .ok (.aload_n 0, 1) := by decide +kernel
theorem dX12_fact_11 : decode cX12_fact 11 = .ok (.getfield 211, 3) := by decide +kernel
theorem dX12_fact_14 : decode cX12_fact 14 = .ok (.ldc2_w 235, 3) := by decide +kernel
theorem dX12_fact_17 : decode cX12_fact 17 = .ok (.lcmp, 1) := by decide +kernel
theorem dX12_fact_18 : decode cX12_fact 18 = .ok (.ifCond .ne 7, 3) := by decide +kernel
theorem dX12_fact_21 : decode cX12_fact 21 = .ok (.iconst 1, 1) := by decide +kernel
theorem dX12_fact_22 : decode cX12_fact 22 = .ok (.goto 49, 3) := by decide +kernel
theorem dX12_fact_25 : decode cX12_fact 25 = .ok (.aload_n 0, 1) := by decide +kernel
theorem dX12_fact_26 : decode cX12_fact 26 = .ok (.getfield 211, 3) := by decide +kernel
theorem dX12_fact_29 : decode cX12_fact 29 = .ok (.ldc2_w 237, 3) := by decide +kernel
theorem dX12_fact_32 : decode cX12_fact 32 = .ok (.lcmp, 1) := by decide +kernel
theorem dX12_fact_33 : decode cX12_fact 33 = .ok (.ifCond .ne 7, 3) := by decide +kernel
theorem dX12_fact_36 : decode cX12_fact 36 = .ok (.iconst 2, 1) := by decide +kernel
theorem dX12_fact_37 : decode cX12_fact 37 = .ok (.goto 34, 3) := by decide +kernel
theorem dX12_fact_40 : decode cX12_fact 40 = .ok (.aload_n 0, 1) := by decide +kernel
theorem dX12_fact_41 : decode cX12_fact 41 = .ok (.getfield 211, 3) := by decide +kernel
theorem dX12_fact_44 : decode cX12_fact 44 = .ok (.ldc2_w 239, 3) := by decide +kernel
theorem dX12_fact_47 : decode cX12_fact 47 = .ok (.lcmp, 1) := by decide +kernel
theorem dX12_fact_48 : decode cX12_fact 48 = .ok (.ifCond .ne 7, 3) := by decide +kernel
theorem dX12_fact_51 : decode cX12_fact 51 = .ok (.iconst 3, 1) := by decide +kernel
theorem dX12_fact_52 : decode cX12_fact 52 = .ok (.goto 19, 3) := by decide +kernel
theorem dX12_fact_55 : decode cX12_fact 55 = .ok (.aload_n 0, 1) := by decide +kernel
theorem dX12_fact_56 : decode cX12_fact 56 = .ok (.getfield 211, 3) := by decide +kernel
theorem dX12_fact_59 : decode cX12_fact 59 = .ok (.ldc2_w 241, 3) := by decide +kernel
theorem dX12_fact_62 : decode cX12_fact 62 = .ok (.lcmp, 1) := by decide +kernel
theorem dX12_fact_63 : decode cX12_fact 63 = .ok (.ifCond .ne 7, 3) := by decide +kernel
theorem dX12_fact_66 : decode cX12_fact 66 = .ok (.iconst 4, 1) := by decide +kernel
theorem dX12_fact_67 : decode cX12_fact 67 = .ok (.goto 4, 3) := by decide +kernel
theorem dX12_fact_70 : decode cX12_fact 70 = .ok (.iconst 0, 1) := by decide +kernel
theorem dX12_fact_71 : decode cX12_fact 71 = .ok (.ireturn, 1) := by decide +kernel
theorem dX12_reads_0 : decode cX12_reads 0 = .ok (.iconst 0, 1) := by decide +kernel
theorem dX12_reads_1 : decode cX12_reads 1 = .ok (.istore_n 1, 1) := by decide +kernel
theorem dX12_reads_2 : decode cX12_reads 2 = .ok (.iconst 1, 1) := by decide +kernel
theorem dX12_reads_3 : decode cX12_reads 3 = .ok (.istore_n 2, 1) := by decide +kernel
theorem dX12_reads_4 : decode cX12_reads 4 = .ok (.aload_n 0, 1) := by decide +kernel
theorem dX12_reads_5 : decode cX12_reads 5 = .ok (.getfield 77, 3) := by decide +kernel
theorem dX12_reads_8 : decode cX12_reads 8 = .ok (.iconst 0, 1) := by decide +kernel
theorem dX12_reads_9 : decode cX12_reads 9 = .ok (.iconst 0, 1) := by decide +kernel
theorem dX12_reads_10 : decode cX12_reads 10 = .ok (.bastore, 1) := by decide +kernel
theorem dX12_reads_11 : decode cX12_reads 11 = .ok (.iload_n 2, 1) := by decide +kernel
theorem dX12_reads_12 : decode cX12_reads 12 = .ok (.ifCond .eq 167, 3) := by decide +kernel
theorem dX12_reads_15 : decode cX12_reads 15 = .ok (.aload_n 0, 1) := by decide +kernel
theorem dX12_reads_16 : decode cX12_reads 16 = .ok (.invokevirtual 243, 3) := by decide +kernel
theorem dX12_reads_19 : decode cX12_reads 19 = .ok (.istore_n 3, 1) := by decide +kernel
theorem dX12_reads_20 : decode cX12_reads 20 = .ok (.aload_n 0, 1) := by decide +kernel
theorem dX12_reads_21 : decode cX12_reads 21 = .ok (.ldc2_w 247, 3) := by decide +kernel
theorem dX12_reads_24 : decode cX12_reads 24 = .ok (.invokevirtual 249, 3) := by decide +kernel
theorem dX12_reads_27 : decode cX12_reads 27 = .ok (.istore 4, 2) := by decide +kernel
theorem dX12_reads_29 : decode cX12_reads 29 = .ok (.aload_n 0, 1) := by decide +kernel
theorem dX12_reads_30 : decode cX12_reads 30 = .ok (.bipush 40, 2) := by decide +kernel
theorem dX12_reads_32 : decode cX12_reads 32 = .ok (.invokevirtual 253, 3) := by decide +kernel
theorem dX12_reads_35 : decode cX12_reads 35 = .ok (.istore 5, 2) := by decide +kernel
theorem dX12_reads_37 : decode cX12_reads 37 = .ok (.iload_n 3, 1) := by decide +kernel
theorem dX12_reads_38 : decode cX12_reads 38 = .ok (.ifCond .ne 27, 3) := by decide +kernel
theorem dX12_reads_41 : decode cX12_reads 41 = .ok (.iload 4, 2) := by decide +kernel
theorem dX12_reads_43 : decode cX12_reads 43 = .ok (.ifCond .ne 22, 3) := by decide +kernel
theorem dX12_reads_46 : decode cX12_reads 46 = .ok (.iload 5, 2) := by decide +kernel
theorem dX12_reads_48 : decode cX12_reads 48 = .ok (.ifCond .ne 17, 3) := by decide +kernel
theorem dX12_reads_51 : decode cX12_reads 51 = .ok (.aload_n 0, 1) := by decide +kernel
theorem dX12_reads_52 : decode cX12_reads 52 = .ok (.getfield 218, 3) := by decide +kernel
theorem dX12_reads_55 : decode cX12_reads 55 = .ok (.iconst 2, 1) := by decide +kernel
theorem dX12_reads_56 : decode cX12_reads 56 = .ok (.if_icmp .eq 9, 3) := by decide +kernel
theorem dX12_reads_59 : decode cX12_reads 59 = .ok (.aload_n 0, 1) := by decide +kernel
theorem dX12_reads_60 : decode cX12_reads 60 = .ok (.iconst 1, 1) := by decide +kernel
theorem dX12_reads_61 : decode cX12_reads 61 = .ok (.invokevirtual 257, 3) := by decide +kernel
theorem dX12_reads_64 : decode cX12_reads 64 = .ok (.ireturn, 1) := by decide +kernel
theorem dX12_reads_65 : decode cX12_reads 65 = .ok (.iload_n 1, 1) := by decide +kernel
theorem dX12_reads_66 : decode cX12_reads 66 = .ok (.iconst 5, 1) := by decide +kernel
theorem dX12_reads_67 : decode cX12_reads 67 = .ok (.if_icmp .ne 9, 3) := by decide +kernel
theorem dX12_reads_70 : decode cX12_reads 70 = .ok (.aload_n 0, 1) := by decide +kernel
theorem dX12_reads_71 : decode cX12_reads 71 = .ok (.iconst 5, 1) := by decide +kernel
theorem dX12_reads_72 : decode cX12_reads 72 = .ok (.invokevirtual 257, 3) := by decide +kernel
theorem dX12_reads_75 : decode cX12_reads 75 = .ok (.ireturn, 1) := by decide +kernel
theorem dX12_reads_76 : decode cX12_reads 76 = .ok (.iload 4, 2) := by decide +kernel
theorem dX12_reads_78 : decode cX12_reads 78 = .ok (.ifCond .ne 8, 3) := by decide +kernel
theorem dX12_reads_81 : decode cX12_reads 81 = .ok (.iload 5, 2) := by decide +kernel
theorem dX12_reads_83 : decode cX12_reads 83 = .ok (.ifCond .eq 48, 3) := by decide +kernel
theorem dX12_reads_86 : decode cX12_reads 86 = .ok (.aload_n 0, 1) := by decide +kernel
theorem dX12_reads_87 : decode cX12_reads 87 = .ok (.iload 4, 2) := by decide +kernel
theorem dX12_reads_89 : decode cX12_reads 89 = .ok (.ifCond .eq 8, 3) := by decide +kernel
theorem dX12_reads_92 : decode cX12_reads 92 = .ok (.bipush 30, 2) := by decide +kernel
theorem dX12_reads_94 : decode cX12_reads 94 = .ok (.goto 5, 3) := by decide +kernel
theorem dX12_reads_97 : decode cX12_reads 97 = .ok (.bipush 28, 2) := by decide +kernel
theorem dX12_reads_99 : decode cX12_reads 99 = .ok (.invokevirtual 260, 3) := by decide +kernel
theorem dX12_reads_102 : decode cX12_reads 102 = .ok (.iinc 1 1, 3) := by decide +kernel
theorem dX12_reads_105 : decode cX12_reads 105 = .ok (.aload_n 0, 1) := by decide +kernel
theorem dX12_reads_106 : decode cX12_reads 106 = .ok (.getfield 74, 3) := by decide +kernel
theorem dX12_reads_109 : decode cX12_reads 109 = .ok (.iload_n 1, 1) := by decide +kernel
theorem dX12_reads_110 : decode cX12_reads 110 = .ok (.iload 4, 2) := by decide +kernel
theorem dX12_reads_112 : decode cX12_reads 112 = .ok (.ifCond .eq 7, 3) := by decide +kernel
theorem dX12_reads_115 : decode cX12_reads 115 = .ok (.iconst 1, 1) := by decide +kernel
theorem dX12_reads_116 : decode cX12_reads 116 = .ok (.goto 4, 3) := by decide +kernel
theorem dX12_reads_119 : decode cX12_reads 119 = .ok (.iconst 2, 1) := by decide +kernel
theorem dX12_reads_120 : decode cX12_reads 120 = .ok (.iastore, 1) := by decide +kernel
theorem dX12_reads_121 : decode cX12_reads 121 = .ok (.aload_n 0, 1) := by decide +kernel
theorem dX12_reads_122 : decode cX12_reads 122 = .ok (.getfield 77, 3) := by decide +kernel
theorem dX12_reads_125 : decode cX12_reads 125 = .ok (.iload_n 1, 1) := by decide +kernel
theorem dX12_reads_126 : decode cX12_reads 126 = .ok (.iconst 0, 1) := by decide +kernel
theorem dX12_reads_127 : decode cX12_reads 127 = .ok (.bastore, 1) := by decide +kernel
theorem dX12_reads_128 : decode cX12_reads 128 = .ok (.goto 44, 3) := by decide +kernel
theorem dX12_reads_131 : decode cX12_reads 131 = .ok (.aload_n 0, 1) := by decide +kernel
theorem dX12_reads_132 : decode cX12_reads 132 = .ok (.iload_n 3, 1) := by decide +kernel
theorem dX12_reads_133 : decode cX12_reads 133 = .ok (.ifCond .le 7, 3) := by decide +kernel
theorem dX12_reads_136 : decode cX12_reads 136 = .ok (.iload_n 3, 1) := by decide +kernel
theorem dX12_reads_137 : decode cX12_reads 137 = .ok (.goto 10, 3) := by decide +kernel
theorem dX12_reads_140 : decode cX12_reads 140 = .ok (.bipush 100, 2) := by decide +kernel
theorem dX12_reads_142 : decode cX12_reads 142 = .ok (.aload_n 0, 1) := by decide +kernel
theorem dX12_reads_143 : decode cX12_reads 143 = .ok (.getfield 215, 3) := by decide +kernel
theorem dX12_reads_146 : decode cX12_reads 146 = .ok (.iadd, 1) := by decide +kernel
theorem dX12_reads_147 : decode cX12_reads 147 = .ok (.invokevirtual 260, 3) := by decide +kernel
theorem dX12_reads_150 : decode cX12_reads 150 = .ok (.iconst 0, 1) := by decide +kernel
theorem dX12_reads_151 : decode cX12_reads 151 = .ok (.istore_n 2, 1) := by decide +kernel
theorem dX12_reads_152 : decode cX12_reads 152 = .ok (.iload_n 1, 1) := by decide +kernel
theorem dX12_reads_153 : decode cX12_reads 153 = .ok (.ifCond .le 19, 3) := by decide +kernel
theorem dX12_reads_156 : decode cX12_reads 156 = .ok (.aload_n 0, 1) := by decide +kernel
theorem dX12_reads_157 : decode cX12_reads 157 = .ok (.getfield 74, 3) := by decide +kernel
theorem dX12_reads_160 : decode cX12_reads 160 = .ok (.iload_n 1, 1) := by decide +kernel
theorem dX12_reads_161 : decode cX12_reads 161 = .ok (.iaload, 1) := by decide +kernel
theorem dX12_reads_162 : decode cX12_reads 162 = .ok (.iconst 1, 1) := by decide +kernel
theorem dX12_reads_163 : decode cX12_reads 163 = .ok (.if_icmp .ne 9, 3) := by decide +kernel
theorem dX12_reads_166 : decode cX12_reads 166 = .ok (.iinc 1 (-1), 3) := by decide +kernel
theorem dX12_reads_169 : decode cX12_reads 169 = .ok (.goto (-17), 3) := by decide +kernel
theorem dX12_reads_172 : decode cX12_reads 172 = .ok (.aload_n 0, 1) := by decide +kernel
theorem dX12_reads_173 : decode cX12_reads 173 = .ok (.invokevirtual 263, 3) := by decide +kernel
theorem dX12_reads_176 : decode cX12_reads 176 = .ok (.goto (-165), 3) := by decide +kernel
theorem dX12_reads_179 : decode cX12_reads 179 = .ok (.aload_n 0, 1) := by decide +kernel
theorem dX12_reads_180 : decode cX12_reads 180 = .ok (.bipush 43, 2) := by decide +kernel
theorem dX12_reads_182 : decode cX12_reads 182 = .ok (.invokevirtual 253, 3) := by decide +kernel
theorem dX12_reads_185 : decode cX12_reads 185 = .ok (.ifCond .ne 21, 3) := by decide +kernel
theorem dX12_reads_188 : decode cX12_reads 188 = .ok (.aload_n 0, 1) := by decide +kernel
theorem dX12_reads_189 : decode cX12_reads 189 = .ok (.bipush 45, 2) := by decide +kernel
theorem dX12_reads_191 : decode cX12_reads 191 = .ok (.invokevirtual 253, 3) := by decide +kernel
theorem dX12_reads_194 : decode cX12_reads 194 = .ok (.ifCond .ne 12, 3) := by decide +kernel
theorem dX12_reads_197 : decode cX12_reads 197 = .ok (.aload_n 0, 1) := by decide +kernel
theorem dX12_reads_198 : decode cX12_reads 198 = .ok (.bipush 42, 2) := by decide +kernel
theorem dX12_reads_200 : decode cX12_reads 200 = .ok (.invokevirtual 253, 3) := by decide +kernel
theorem dX12_reads_203 : decode cX12_reads 203 = .ok (.ifCond .eq 42, 3) := by decide +kernel
theorem dX12_reads_206 : decode cX12_reads 206 = .ok (.aload_n 0, 1) := by decide +kernel
theorem dX12_reads_207 : decode cX12_reads 207 = .ok (.aload_n 0, 1) := by decide +kernel
theorem dX12_reads_208 : decode cX12_reads 208 = .ok (.bipush 43, 2) := by decide +kernel
theorem dX12_reads_210 : decode cX12_reads 210 = .ok (.invokevirtual 253, 3) := by decide +kernel
theorem dX12_reads_213 : decode cX12_reads 213 = .ok (.ifCond .eq 8, 3) := by decide +kernel
theorem dX12_reads_216 : decode cX12_reads 216 = .ok (.bipush 20, 2) := by decide +kernel
theorem dX12_reads_218 : decode cX12_reads 218 = .ok (.goto 19, 3) := by decide +kernel
theorem dX12_reads_221 : decode cX12_reads 221 = .ok (.aload_n 0, 1) := by decide +kernel
theorem dX12_reads_222 : decode cX12_reads 222 = .ok (.bipush 45, 2) := by decide +kernel
theorem dX12_reads_224 : decode cX12_reads 224 = .ok (.invokevirtual 253, 3) := by decide +kernel
theorem dX12_reads_227 : decode cX12_reads 227 = .ok (.ifCond .eq 8, 3) := by decide +kernel
theorem dX12_reads_230 : decode cX12_reads 230 = .ok (.bipush 21, 2) := by decide +kernel
theorem dX12_reads_232 : decode cX12_reads 232 = .ok (.goto 5, 3) := by decide +kernel
theorem dX12_reads_235 : decode cX12_reads 235 = .ok (.bipush 22, 2) := by decide +kernel
theorem dX12_reads_237 : decode cX12_reads 237 = .ok (.invokevirtual 260, 3) := by decide +kernel
theorem dX12_reads_240 : decode cX12_reads 240 = .ok (.iconst 1, 1) := by decide +kernel
theorem dX12_reads_241 : decode cX12_reads 241 = .ok (.istore_n 2, 1) := by decide +kernel
theorem dX12_reads_242 : decode cX12_reads 242 = .ok (.goto 182, 3) := by decide +kernel
theorem dX12_reads_245 : decode cX12_reads 245 = .ok (.aload_n 0, 1) := by decide +kernel
theorem dX12_reads_246 : decode cX12_reads 246 = .ok (.bipush 60, 2) := by decide +kernel
theorem dX12_reads_248 : decode cX12_reads 248 = .ok (.invokevirtual 253, 3) := by decide +kernel
theorem dX12_reads_251 : decode cX12_reads 251 = .ok (.ifCond .ne 12, 3) := by decide +kernel
theorem dX12_reads_254 : decode cX12_reads 254 = .ok (.aload_n 0, 1) := by decide +kernel
theorem dX12_reads_255 : decode cX12_reads 255 = .ok (.bipush 61, 2) := by decide +kernel
theorem dX12_reads_257 : decode cX12_reads 257 = .ok (.invokevirtual 253, 3) := by decide +kernel
theorem dX12_reads_260 : decode cX12_reads 260 = .ok (.ifCond .eq 44, 3) := by decide +kernel
theorem dX12_reads_263 : decode cX12_reads 263 = .ok (.aload_n 0, 1) := by decide +kernel
theorem dX12_reads_264 : decode cX12_reads 264 = .ok (.getfield 77, 3) := by decide +kernel
theorem dX12_reads_267 : decode cX12_reads 267 = .ok (.iload_n 1, 1) := by decide +kernel
theorem dX12_reads_268 : decode cX12_reads 268 = .ok (.baload, 1) := by decide +kernel
theorem dX12_reads_269 : decode cX12_reads 269 = .ok (.ifCond .ne 35, 3) := by decide +kernel
theorem dX12_reads_272 : decode cX12_reads 272 = .ok (.aload_n 0, 1) := by decide +kernel
theorem dX12_reads_273 : decode cX12_reads 273 = .ok (.aload_n 0, 1) := by decide +kernel
theorem dX12_reads_274 : decode cX12_reads 274 = .ok (.bipush 60, 2) := by decide +kernel
theorem dX12_reads_276 : decode cX12_reads 276 = .ok (.invokevirtual 253, 3) := by decide +kernel
theorem dX12_reads_279 : decode cX12_reads 279 = .ok (.ifCond .eq 8, 3) := by decide +kernel
theorem dX12_reads_282 : decode cX12_reads 282 = .ok (.bipush 24, 2) := by decide +kernel
theorem dX12_reads_284 : decode cX12_reads 284 = .ok (.goto 5, 3) := by decide +kernel
theorem dX12_reads_287 : decode cX12_reads 287 = .ok (.bipush 25, 2) := by decide +kernel
theorem dX12_reads_289 : decode cX12_reads 289 = .ok (.invokevirtual 260, 3) := by decide +kernel
theorem dX12_reads_292 : decode cX12_reads 292 = .ok (.aload_n 0, 1) := by decide +kernel
theorem dX12_reads_293 : decode cX12_reads 293 = .ok (.getfield 77, 3) := by decide +kernel
theorem dX12_reads_296 : decode cX12_reads 296 = .ok (.iload_n 1, 1) := by decide +kernel
theorem dX12_reads_297 : decode cX12_reads 297 = .ok (.iconst 1, 1) := by decide +kernel
theorem dX12_reads_298 : decode cX12_reads 298 = .ok (.bastore, 1) := by decide +kernel
theorem dX12_reads_299 : decode cX12_reads 299 = .ok (.iconst 1, 1) := by decide +kernel
theorem dX12_reads_300 : decode cX12_reads 300 = .ok (.istore_n 2, 1) := by decide +kernel
theorem dX12_reads_301 : decode cX12_reads 301 = .ok (.goto 123, 3) := by decide +kernel
theorem dX12_reads_304 : decode cX12_reads 304 = .ok (.aload_n 0, 1) := by decide +kernel
theorem dX12_reads_305 : decode cX12_reads 305 = .ok (.ldc2_w 266, 3) := by decide +kernel
theorem dX12_reads_308 : decode cX12_reads 308 = .ok (.invokevirtual 249, 3) := by decide +kernel
theorem dX12_reads_311 : decode cX12_reads 311 = .ok (.ifCond .ne 13, 3) := by decide +kernel
theorem dX12_reads_314 : decode cX12_reads 314 = .ok (.aload_n 0, 1) := by decide +kernel
theorem dX12_reads_315 : decode cX12_reads 315 = .ok (.ldc2_w 268, 3) := by decide +kernel
theorem dX12_reads_318 : decode cX12_reads 318 = .ok (.invokevirtual 249, 3) := by decide +kernel
theorem dX12_reads_321 : decode cX12_reads 321 = .ok (.ifCond .eq 36, 3) := by decide +kernel
theorem dX12_reads_324 : decode cX12_reads 324 = .ok (.aload_n 0, 1) := by decide +kernel
theorem dX12_reads_325 : decode cX12_reads 325 = .ok (.aload_n 0, 1) := by decide +kernel
theorem dX12_reads_326 : decode cX12_reads 326 = .ok (.ldc2_w 266, 3) := by decide +kernel
theorem dX12_reads_329 : decode cX12_reads 329 = .ok (.invokevirtual 249, 3) := by decide +kernel
theorem dX12_reads_332 : decode cX12_reads 332 = .ok (.ifCond .eq 8, 3) := by decide +kernel
theorem dX12_reads_335 : decode cX12_reads 335 = .ok (.bipush 26, 2) := by decide +kernel
theorem dX12_reads_337 : decode cX12_reads 337 = .ok (.goto 5, 3) := by decide +kernel
theorem dX12_reads_340 : decode cX12_reads 340 = .ok (.bipush 27, 2) := by decide +kernel
theorem dX12_reads_342 : decode cX12_reads 342 = .ok (.invokevirtual 260, 3) := by decide +kernel
theorem dX12_reads_345 : decode cX12_reads 345 = .ok (.aload_n 0, 1) := by decide +kernel
theorem dX12_reads_346 : decode cX12_reads 346 = .ok (.getfield 77, 3) := by decide +kernel
theorem dX12_reads_349 : decode cX12_reads 349 = .ok (.iload_n 1, 1) := by decide +kernel
theorem dX12_reads_350 : decode cX12_reads 350 = .ok (.iconst 0, 1) := by decide +kernel
theorem dX12_reads_351 : decode cX12_reads 351 = .ok (.bastore, 1) := by decide +kernel
theorem dX12_reads_352 : decode cX12_reads 352 = .ok (.iconst 1, 1) := by decide +kernel
theorem dX12_reads_353 : decode cX12_reads 353 = .ok (.istore_n 2, 1) := by decide +kernel
theorem dX12_reads_354 : decode cX12_reads 354 = .ok (.goto 70, 3) := by decide +kernel
theorem dX12_reads_357 : decode cX12_reads 357 = .ok (.aload_n 0, 1) := by decide +kernel
theorem dX12_reads_358 : decode cX12_reads 358 = .ok (.bipush 41, 2) := by decide +kernel
theorem dX12_reads_360 : decode cX12_reads 360 = .ok (.invokevirtual 253, 3) := by decide +kernel
theorem dX12_reads_363 : decode cX12_reads 363 = .ok (.ifCond .eq 36, 3) := by decide +kernel
theorem dX12_reads_366 : decode cX12_reads 366 = .ok (.iload_n 1, 1) := by decide +kernel
theorem dX12_reads_367 : decode cX12_reads 367 = .ok (.ifCond .le 32, 3) := by decide +kernel
theorem dX12_reads_370 : decode cX12_reads 370 = .ok (.aload_n 0, 1) := by decide +kernel
theorem dX12_reads_371 : decode cX12_reads 371 = .ok (.bipush 29, 2) := by decide +kernel
theorem dX12_reads_373 : decode cX12_reads 373 = .ok (.invokevirtual 260, 3) := by decide +kernel
theorem dX12_reads_376 : decode cX12_reads 376 = .ok (.iinc 1 (-1), 3) := by decide +kernel
theorem dX12_reads_379 : decode cX12_reads 379 = .ok (.iload_n 1, 1) := by decide +kernel
theorem dX12_reads_380 : decode cX12_reads 380 = .ok (.ifCond .le 44, 3) := by decide +kernel
theorem dX12_reads_383 : decode cX12_reads 383 = .ok (.aload_n 0, 1) := by decide +kernel
theorem dX12_reads_384 : decode cX12_reads 384 = .ok (.getfield 74, 3) := by decide +kernel
theorem dX12_reads_387 : decode cX12_reads 387 = .ok (.iload_n 1, 1) := by decide +kernel
theorem dX12_reads_388 : decode cX12_reads 388 = .ok (.iaload, 1) := by decide +kernel
theorem dX12_reads_389 : decode cX12_reads 389 = .ok (.iconst 1, 1) := by decide +kernel
theorem dX12_reads_390 : decode cX12_reads 390 = .ok (.if_icmp .ne 34, 3) := by decide +kernel
theorem dX12_reads_393 : decode cX12_reads 393 = .ok (.iinc 1 (-1), 3) := by decide +kernel
theorem dX12_reads_396 : decode cX12_reads 396 = .ok (.goto (-17), 3) := by decide +kernel
theorem dX12_reads_399 : decode cX12_reads 399 = .ok (.iload_n 1, 1) := by decide +kernel
theorem dX12_reads_400 : decode cX12_reads 400 = .ok (.ifCond .ne 18, 3) := by decide +kernel
theorem dX12_reads_403 : decode cX12_reads 403 = .ok (.aload_n 0, 1) := by decide +kernel
theorem dX12_reads_404 : decode cX12_reads 404 = .ok (.bipush 59, 2) := by decide +kernel
theorem dX12_reads_406 : decode cX12_reads 406 = .ok (.invokevirtual 253, 3) := by decide +kernel
theorem dX12_reads_409 : decode cX12_reads 409 = .ok (.ifCond .eq 9, 3) := by decide +kernel
theorem dX12_reads_412 : decode cX12_reads 412 = .ok (.aload_n 0, 1) := by decide +kernel
theorem dX12_reads_413 : decode cX12_reads 413 = .ok (.invokevirtual 263, 3) := by decide +kernel
theorem dX12_reads_416 : decode cX12_reads 416 = .ok (.iconst 1, 1) := by decide +kernel
theorem dX12_reads_417 : decode cX12_reads 417 = .ok (.ireturn, 1) := by decide +kernel
theorem dX12_reads_418 : decode cX12_reads 418 = .ok (.aload_n 0, 1) := by decide +kernel
theorem dX12_reads_419 : decode cX12_reads 419 = .ok (.iconst 1, 1) := by decide +kernel
theorem dX12_reads_420 : decode cX12_reads 420 = .ok (.invokevirtual 257, 3) := by decide +kernel
theorem dX12_reads_423 : decode cX12_reads 423 = .ok (.ireturn, 1) := by decide +kernel
theorem dX12_reads_424 : decode cX12_reads 424 = .ok (.aload_n 0, 1) := by decide +kernel
theorem dX12_reads_425 : decode cX12_reads 425 = .ok (.invokevirtual 263, 3) := by decide +kernel
theorem dX12_reads_428 : decode cX12_reads 428 = .ok (.goto (-417), 3) := by decide +kernel
theorem dX12_opens_0 : decode cX12_opens 0 = .ok (.aload_n 0, 1) := by decide +kernel
theorem dX12_opens_1 : decode cX12_opens 1 = .ok (.getfield 84, 3) := by decide +kernel
theorem dX12_opens_4 : decode cX12_opens 4 = .ok (.iload_n 1, 1) := by decide +kernel
theorem dX12_opens_5 : decode cX12_opens 5 = .ok (.iconst 0, 1) := by decide +kernel
theorem dX12_opens_6 : decode cX12_opens 6 = .ok (.iastore, 1) := by decide +kernel
theorem dX12_opens_7 : decode cX12_opens 7 = .ok (.aload_n 0, 1) := by decide +kernel
theorem dX12_opens_8 : decode cX12_opens 8 = .ok (.getfield 90, 3) := by decide +kernel
theorem dX12_opens_11 : decode cX12_opens 11 = .ok (.iload_n 1, 1) := by decide +kernel
theorem dX12_opens_12 : decode cX12_opens 12 = .ok (.iconst 0, 1) := by decide +kernel
theorem dX12_opens_13 : decode cX12_opens 13 = .ok (.iastore, 1) := by decide +kernel
theorem dX12_opens_14 : decode cX12_opens 14 = .ok (.aload_n 0, 1) := by decide +kernel
theorem dX12_opens_15 : decode cX12_opens 15 = .ok (.getfield 93, 3) := by decide +kernel
theorem dX12_opens_18 : decode cX12_opens 18 = .ok (.iload_n 1, 1) := by decide +kernel
theorem dX12_opens_19 : decode cX12_opens 19 = .ok (.iconst 0, 1) := by decide +kernel
theorem dX12_opens_20 : decode cX12_opens 20 = .ok (.iastore, 1) := by decide +kernel
theorem dX12_opens_21 : decode cX12_opens 21 = .ok (.aload_n 0, 1) := by decide +kernel
theorem dX12_opens_22 : decode cX12_opens 22 = .ok (.getfield 96, 3) := by decide +kernel
theorem dX12_opens_25 : decode cX12_opens 25 = .ok (.iload_n 1, 1) := by decide +kernel
theorem dX12_opens_26 : decode cX12_opens 26 = .ok (.bipush 20, 2) := by decide +kernel
theorem dX12_opens_28 : decode cX12_opens 28 = .ok (.iastore, 1) := by decide +kernel
theorem dX12_opens_29 : decode cX12_opens 29 = .ok (.aload_n 0, 1) := by decide +kernel
theorem dX12_opens_30 : decode cX12_opens 30 = .ok (.getfield 102, 3) := by decide +kernel
theorem dX12_opens_33 : decode cX12_opens 33 = .ok (.iload_n 1, 1) := by decide +kernel
theorem dX12_opens_34 : decode cX12_opens 34 = .ok (.iconst 0, 1) := by decide +kernel
theorem dX12_opens_35 : decode cX12_opens 35 = .ok (.iastore, 1) := by decide +kernel
theorem dX12_opens_36 : decode cX12_opens 36 = .ok (.return_, 1) := by decide +kernel
theorem dX12_sums_0 : decode cX12_sums 0 = .ok (.aload_n 0, 1) := by decide +kernel
theorem dX12_sums_1 : decode cX12_sums 1 = .ok (.getfield 93, 3) := by decide +kernel
theorem dX12_sums_4 : decode cX12_sums 4 = .ok (.iload_n 1, 1) := by decide +kernel
theorem dX12_sums_5 : decode cX12_sums 5 = .ok (.aload_n 0, 1) := by decide +kernel
theorem dX12_sums_6 : decode cX12_sums 6 = .ok (.getfield 96, 3) := by decide +kernel
theorem dX12_sums_9 : decode cX12_sums 9 = .ok (.iload_n 1, 1) := by decide +kernel
theorem dX12_sums_10 : decode cX12_sums 10 = .ok (.iaload, 1) := by decide +kernel
theorem dX12_sums_11 : decode cX12_sums 11 = .ok (.bipush 21, 2) := by decide +kernel
theorem dX12_sums_13 : decode cX12_sums 13 = .ok (.if_icmp .ne 19, 3) := by decide +kernel
theorem dX12_sums_16 : decode cX12_sums 16 = .ok (.aload_n 0, 1) := by decide +kernel
theorem dX12_sums_17 : decode cX12_sums 17 = .ok (.getfield 93, 3) := by decide +kernel
theorem dX12_sums_20 : decode cX12_sums 20 = .ok (.iload_n 1, 1) := by decide +kernel
theorem dX12_sums_21 : decode cX12_sums 21 = .ok (.iaload, 1) := by decide +kernel
theorem dX12_sums_22 : decode cX12_sums 22 = .ok (.aload_n 0, 1) := by decide +kernel
theorem dX12_sums_23 : decode cX12_sums 23 = .ok (.getfield 99, 3) := by decide +kernel
theorem dX12_sums_26 : decode cX12_sums 26 = .ok (.iload_n 1, 1) := by decide +kernel
theorem dX12_sums_27 : decode cX12_sums 27 = .ok (.iaload, 1) := by decide +kernel
theorem dX12_sums_28 : decode cX12_sums 28 = .ok (.isub, 1) := by decide +kernel
theorem dX12_sums_29 : decode cX12_sums 29 = .ok (.goto 16, 3) := by decide +kernel
theorem dX12_sums_32 : decode cX12_sums 32 = .ok (.aload_n 0, 1) := by decide +kernel
theorem dX12_sums_33 : decode cX12_sums 33 = .ok (.getfield 93, 3) := by decide +kernel
theorem dX12_sums_36 : decode cX12_sums 36 = .ok (.iload_n 1, 1) := by decide +kernel
theorem dX12_sums_37 : decode cX12_sums 37 = .ok (.iaload, 1) := by decide +kernel
theorem dX12_sums_38 : decode cX12_sums 38 = .ok (.aload_n 0, 1) := by decide +kernel
theorem dX12_sums_39 : decode cX12_sums 39 = .ok (.getfield 99, 3) := by decide +kernel
theorem dX12_sums_42 : decode cX12_sums 42 = .ok (.iload_n 1, 1) := by decide +kernel
theorem dX12_sums_43 : decode cX12_sums 43 = .ok (.iaload, 1) := by decide +kernel
theorem dX12_sums_44 : decode cX12_sums 44 = .ok (.iadd, 1) := by decide +kernel
theorem dX12_sums_45 : decode cX12_sums 45 = .ok (.iastore, 1) := by decide +kernel
theorem dX12_sums_46 : decode cX12_sums 46 = .ok (.aload_n 0, 1) := by decide +kernel
theorem dX12_sums_47 : decode cX12_sums 47 = .ok (.getfield 102, 3) := by decide +kernel
theorem dX12_sums_50 : decode cX12_sums 50 = .ok (.iload_n 1, 1) := by decide +kernel
theorem dX12_sums_51 : decode cX12_sums 51 = .ok (.iconst 0, 1) := by decide +kernel
theorem dX12_sums_52 : decode cX12_sums 52 = .ok (.iastore, 1) := by decide +kernel
theorem dX12_sums_53 : decode cX12_sums 53 = .ok (.return_, 1) := by decide +kernel
theorem dX12_tests_0 : decode cX12_tests 0 = .ok (.aload_n 0, 1) := by decide +kernel
theorem dX12_tests_1 : decode cX12_tests 1 = .ok (.iload_n 1, 1) := by decide +kernel
theorem dX12_tests_2 : decode cX12_tests 2 = .ok (.invokevirtual 270, 3) := by decide +kernel
theorem dX12_tests_5 : decode cX12_tests 5 = .ok (.aload_n 0, 1) := by decide +kernel
theorem dX12_tests_6 : decode cX12_tests 6 = .ok (.getfield 93, 3) := by decide +kernel
theorem dX12_tests_9 : decode cX12_tests 9 = .ok (.iload_n 1, 1) := by decide +kernel
theorem dX12_tests_10 : decode cX12_tests 10 = .ok (.iaload, 1) := by decide +kernel
theorem dX12_tests_11 : decode cX12_tests 11 = .ok (.istore_n 2, 1) := by decide +kernel
theorem dX12_tests_12 : decode cX12_tests 12 = .ok (.aload_n 0, 1) := by decide +kernel
theorem dX12_tests_13 : decode cX12_tests 13 = .ok (.getfield 90, 3) := by decide +kernel
theorem dX12_tests_16 : decode cX12_tests 16 = .ok (.iload_n 1, 1) := by decide +kernel
theorem dX12_tests_17 : decode cX12_tests 17 = .ok (.iaload, 1) := by decide +kernel
theorem dX12_tests_18 : decode cX12_tests 18 = .ok (.bipush 24, 2) := by decide +kernel
theorem dX12_tests_20 : decode cX12_tests 20 = .ok (.if_icmp .ne 24, 3) := by decide +kernel
theorem dX12_tests_23 : decode cX12_tests 23 = .ok (.aload_n 0, 1) := by decide +kernel
theorem dX12_tests_24 : decode cX12_tests 24 = .ok (.getfield 87, 3) := by decide +kernel
theorem dX12_tests_27 : decode cX12_tests 27 = .ok (.iload_n 1, 1) := by decide +kernel
theorem dX12_tests_28 : decode cX12_tests 28 = .ok (.iaload, 1) := by decide +kernel
theorem dX12_tests_29 : decode cX12_tests 29 = .ok (.aload_n 0, 1) := by decide +kernel
theorem dX12_tests_30 : decode cX12_tests 30 = .ok (.getfield 93, 3) := by decide +kernel
theorem dX12_tests_33 : decode cX12_tests 33 = .ok (.iload_n 1, 1) := by decide +kernel
theorem dX12_tests_34 : decode cX12_tests 34 = .ok (.iaload, 1) := by decide +kernel
theorem dX12_tests_35 : decode cX12_tests 35 = .ok (.if_icmp .ge 7, 3) := by decide +kernel
theorem dX12_tests_38 : decode cX12_tests 38 = .ok (.iconst 1, 1) := by decide +kernel
theorem dX12_tests_39 : decode cX12_tests 39 = .ok (.goto 4, 3) := by decide +kernel
theorem dX12_tests_42 : decode cX12_tests 42 = .ok (.iconst 0, 1) := by decide +kernel
theorem dX12_tests_43 : decode cX12_tests 43 = .ok (.istore_n 2, 1) := by decide +kernel
theorem dX12_tests_44 : decode cX12_tests 44 = .ok (.aload_n 0, 1) := by decide +kernel
theorem dX12_tests_45 : decode cX12_tests 45 = .ok (.getfield 90, 3) := by decide +kernel
theorem dX12_tests_48 : decode cX12_tests 48 = .ok (.iload_n 1, 1) := by decide +kernel
theorem dX12_tests_49 : decode cX12_tests 49 = .ok (.iaload, 1) := by decide +kernel
theorem dX12_tests_50 : decode cX12_tests 50 = .ok (.bipush 25, 2) := by decide +kernel
theorem dX12_tests_52 : decode cX12_tests 52 = .ok (.if_icmp .ne 24, 3) := by decide +kernel
theorem dX12_tests_55 : decode cX12_tests 55 = .ok (.aload_n 0, 1) := by decide +kernel
theorem dX12_tests_56 : decode cX12_tests 56 = .ok (.getfield 87, 3) := by decide +kernel
theorem dX12_tests_59 : decode cX12_tests 59 = .ok (.iload_n 1, 1) := by decide +kernel
theorem dX12_tests_60 : decode cX12_tests 60 = .ok (.iaload, 1) := by decide +kernel
theorem dX12_tests_61 : decode cX12_tests 61 = .ok (.aload_n 0, 1) := by decide +kernel
theorem dX12_tests_62 : decode cX12_tests 62 = .ok (.getfield 93, 3) := by decide +kernel
theorem dX12_tests_65 : decode cX12_tests 65 = .ok (.iload_n 1, 1) := by decide +kernel
theorem dX12_tests_66 : decode cX12_tests 66 = .ok (.iaload, 1) := by decide +kernel
theorem dX12_tests_67 : decode cX12_tests 67 = .ok (.if_icmp .ne 7, 3) := by decide +kernel
theorem dX12_tests_70 : decode cX12_tests 70 = .ok (.iconst 1, 1) := by decide +kernel
theorem dX12_tests_71 : decode cX12_tests 71 = .ok (.goto 4, 3) := by decide +kernel
theorem dX12_tests_74 : decode cX12_tests 74 = .ok (.iconst 0, 1) := by decide +kernel
theorem dX12_tests_75 : decode cX12_tests 75 = .ok (.istore_n 2, 1) := by decide +kernel
theorem dX12_tests_76 : decode cX12_tests 76 = .ok (.aload_n 0, 1) := by decide +kernel
theorem dX12_tests_77 : decode cX12_tests 77 = .ok (.getfield 84, 3) := by decide +kernel
theorem dX12_tests_80 : decode cX12_tests 80 = .ok (.iload_n 1, 1) := by decide +kernel
theorem dX12_tests_81 : decode cX12_tests 81 = .ok (.iaload, 1) := by decide +kernel
theorem dX12_tests_82 : decode cX12_tests 82 = .ok (.bipush 26, 2) := by decide +kernel
theorem dX12_tests_84 : decode cX12_tests 84 = .ok (.if_icmp .ne 22, 3) := by decide +kernel
theorem dX12_tests_87 : decode cX12_tests 87 = .ok (.aload_n 0, 1) := by decide +kernel
theorem dX12_tests_88 : decode cX12_tests 88 = .ok (.getfield 81, 3) := by decide +kernel
theorem dX12_tests_91 : decode cX12_tests 91 = .ok (.iload_n 1, 1) := by decide +kernel
theorem dX12_tests_92 : decode cX12_tests 92 = .ok (.iaload, 1) := by decide +kernel
theorem dX12_tests_93 : decode cX12_tests 93 = .ok (.ifCond .eq 11, 3) := by decide +kernel
theorem dX12_tests_96 : decode cX12_tests 96 = .ok (.iload_n 2, 1) := by decide +kernel
theorem dX12_tests_97 : decode cX12_tests 97 = .ok (.ifCond .eq 7, 3) := by decide +kernel
theorem dX12_tests_100 : decode cX12_tests 100 = .ok (.iconst 1, 1) := by decide +kernel
theorem dX12_tests_101 : decode cX12_tests 101 = .ok (.goto 4, 3) := by decide +kernel
theorem dX12_tests_104 : decode cX12_tests 104 = .ok (.iconst 0, 1) := by decide +kernel
theorem dX12_tests_105 : decode cX12_tests 105 = .ok (.istore_n 2, 1) := by decide +kernel
theorem dX12_tests_106 : decode cX12_tests 106 = .ok (.aload_n 0, 1) := by decide +kernel
theorem dX12_tests_107 : decode cX12_tests 107 = .ok (.getfield 84, 3) := by decide +kernel
theorem dX12_tests_110 : decode cX12_tests 110 = .ok (.iload_n 1, 1) := by decide +kernel
theorem dX12_tests_111 : decode cX12_tests 111 = .ok (.iaload, 1) := by decide +kernel
theorem dX12_tests_112 : decode cX12_tests 112 = .ok (.bipush 27, 2) := by decide +kernel
theorem dX12_tests_114 : decode cX12_tests 114 = .ok (.if_icmp .ne 22, 3) := by decide +kernel
theorem dX12_tests_117 : decode cX12_tests 117 = .ok (.aload_n 0, 1) := by decide +kernel
theorem dX12_tests_118 : decode cX12_tests 118 = .ok (.getfield 81, 3) := by decide +kernel
theorem dX12_tests_121 : decode cX12_tests 121 = .ok (.iload_n 1, 1) := by decide +kernel
theorem dX12_tests_122 : decode cX12_tests 122 = .ok (.iaload, 1) := by decide +kernel
theorem dX12_tests_123 : decode cX12_tests 123 = .ok (.ifCond .ne 7, 3) := by decide +kernel
theorem dX12_tests_126 : decode cX12_tests 126 = .ok (.iload_n 2, 1) := by decide +kernel
theorem dX12_tests_127 : decode cX12_tests 127 = .ok (.ifCond .eq 7, 3) := by decide +kernel
theorem dX12_tests_130 : decode cX12_tests 130 = .ok (.iconst 1, 1) := by decide +kernel
theorem dX12_tests_131 : decode cX12_tests 131 = .ok (.goto 4, 3) := by decide +kernel
theorem dX12_tests_134 : decode cX12_tests 134 = .ok (.iconst 0, 1) := by decide +kernel
theorem dX12_tests_135 : decode cX12_tests 135 = .ok (.istore_n 2, 1) := by decide +kernel
theorem dX12_tests_136 : decode cX12_tests 136 = .ok (.aload_n 0, 1) := by decide +kernel
theorem dX12_tests_137 : decode cX12_tests 137 = .ok (.getfield 81, 3) := by decide +kernel
theorem dX12_tests_140 : decode cX12_tests 140 = .ok (.iload_n 1, 1) := by decide +kernel
theorem dX12_tests_141 : decode cX12_tests 141 = .ok (.iload_n 2, 1) := by decide +kernel
theorem dX12_tests_142 : decode cX12_tests 142 = .ok (.iastore, 1) := by decide +kernel
theorem dX12_tests_143 : decode cX12_tests 143 = .ok (.aload_n 0, 1) := by decide +kernel
theorem dX12_tests_144 : decode cX12_tests 144 = .ok (.getfield 90, 3) := by decide +kernel
theorem dX12_tests_147 : decode cX12_tests 147 = .ok (.iload_n 1, 1) := by decide +kernel
theorem dX12_tests_148 : decode cX12_tests 148 = .ok (.iconst 0, 1) := by decide +kernel
theorem dX12_tests_149 : decode cX12_tests 149 = .ok (.iastore, 1) := by decide +kernel
theorem dX12_tests_150 : decode cX12_tests 150 = .ok (.aload_n 0, 1) := by decide +kernel
theorem dX12_tests_151 : decode cX12_tests 151 = .ok (.getfield 93, 3) := by decide +kernel
theorem dX12_tests_154 : decode cX12_tests 154 = .ok (.iload_n 1, 1) := by decide +kernel
theorem dX12_tests_155 : decode cX12_tests 155 = .ok (.iconst 0, 1) := by decide +kernel
theorem dX12_tests_156 : decode cX12_tests 156 = .ok (.iastore, 1) := by decide +kernel
theorem dX12_tests_157 : decode cX12_tests 157 = .ok (.aload_n 0, 1) := by decide +kernel
theorem dX12_tests_158 : decode cX12_tests 158 = .ok (.getfield 96, 3) := by decide +kernel
theorem dX12_tests_161 : decode cX12_tests 161 = .ok (.iload_n 1, 1) := by decide +kernel
theorem dX12_tests_162 : decode cX12_tests 162 = .ok (.bipush 20, 2) := by decide +kernel
theorem dX12_tests_164 : decode cX12_tests 164 = .ok (.iastore, 1) := by decide +kernel
theorem dX12_tests_165 : decode cX12_tests 165 = .ok (.return_, 1) := by decide +kernel
theorem dX12_worked_0 : decode cX12_worked 0 = .ok (.iconst 0, 1) := by decide +kernel
theorem dX12_worked_1 : decode cX12_worked 1 = .ok (.istore_n 2, 1) := by decide +kernel
theorem dX12_worked_2 : decode cX12_worked 2 = .ok (.aload_n 0, 1) := by decide +kernel
theorem dX12_worked_3 : decode cX12_worked 3 = .ok (.iconst 0, 1) := by decide +kernel
theorem dX12_worked_4 : decode cX12_worked 4 = .ok (.invokevirtual 273, 3) := by decide +kernel
theorem dX12_worked_7 : decode cX12_worked 7 = .ok (.aload_n 0, 1) := by decide +kernel
theorem dX12_worked_8 : decode cX12_worked 8 = .ok (.getfield 65, 3) := by decide +kernel
theorem dX12_worked_11 : decode cX12_worked 11 = .ok (.iload_n 1, 1) := by decide +kernel
theorem dX12_worked_12 : decode cX12_worked 12 = .ok (.iaload, 1) := by decide +kernel
theorem dX12_worked_13 : decode cX12_worked 13 = .ok (.istore_n 3, 1) := by decide +kernel
theorem dX12_worked_14 : decode cX12_worked 14 = .ok (.iload_n 3, 1) := by decide +kernel
theorem dX12_worked_15 : decode cX12_worked 15 = .ok (.aload_n 0, 1) := by decide +kernel
theorem dX12_worked_16 : decode cX12_worked 16 = .ok (.getfield 68, 3) := by decide +kernel
theorem dX12_worked_19 : decode cX12_worked 19 = .ok (.iload_n 1, 1) := by decide +kernel
theorem dX12_worked_20 : decode cX12_worked 20 = .ok (.iaload, 1) := by decide +kernel
theorem dX12_worked_21 : decode cX12_worked 21 = .ok (.if_icmp .ge 314, 3) := by decide +kernel
theorem dX12_worked_24 : decode cX12_worked 24 = .ok (.aload_n 0, 1) := by decide +kernel
theorem dX12_worked_25 : decode cX12_worked 25 = .ok (.getfield 71, 3) := by decide +kernel
theorem dX12_worked_28 : decode cX12_worked 28 = .ok (.iload_n 3, 1) := by decide +kernel
theorem dX12_worked_29 : decode cX12_worked 29 = .ok (.iaload, 1) := by decide +kernel
theorem dX12_worked_30 : decode cX12_worked 30 = .ok (.istore 4, 2) := by decide +kernel
theorem dX12_worked_32 : decode cX12_worked 32 = .ok (.iload 4, 2) := by decide +kernel
theorem dX12_worked_34 : decode cX12_worked 34 = .ok (.bipush 28, 2) := by decide +kernel
theorem dX12_worked_36 : decode cX12_worked 36 = .ok (.if_icmp .eq 10, 3) := by decide +kernel
theorem dX12_worked_39 : decode cX12_worked 39 = .ok (.iload 4, 2) := by decide +kernel
theorem dX12_worked_41 : decode cX12_worked 41 = .ok (.bipush 30, 2) := by decide +kernel
theorem dX12_worked_43 : decode cX12_worked 43 = .ok (.if_icmp .ne 32, 3) := by decide +kernel
theorem dX12_worked_46 : decode cX12_worked 46 = .ok (.iinc 2 1, 3) := by decide +kernel
theorem dX12_worked_49 : decode cX12_worked 49 = .ok (.aload_n 0, 1) := by decide +kernel
theorem dX12_worked_50 : decode cX12_worked 50 = .ok (.getfield 105, 3) := by decide +kernel
theorem dX12_worked_53 : decode cX12_worked 53 = .ok (.iload_n 2, 1) := by decide +kernel
theorem dX12_worked_54 : decode cX12_worked 54 = .ok (.iload 4, 2) := by decide +kernel
theorem dX12_worked_56 : decode cX12_worked 56 = .ok (.bipush 30, 2) := by decide +kernel
theorem dX12_worked_58 : decode cX12_worked 58 = .ok (.if_icmp .ne 7, 3) := by decide +kernel
theorem dX12_worked_61 : decode cX12_worked 61 = .ok (.iconst 1, 1) := by decide +kernel
theorem dX12_worked_62 : decode cX12_worked 62 = .ok (.goto 4, 3) := by decide +kernel
theorem dX12_worked_65 : decode cX12_worked 65 = .ok (.iconst 0, 1) := by decide +kernel
theorem dX12_worked_66 : decode cX12_worked 66 = .ok (.iastore, 1) := by decide +kernel
theorem dX12_worked_67 : decode cX12_worked 67 = .ok (.aload_n 0, 1) := by decide +kernel
theorem dX12_worked_68 : decode cX12_worked 68 = .ok (.iload_n 2, 1) := by decide +kernel
theorem dX12_worked_69 : decode cX12_worked 69 = .ok (.invokevirtual 273, 3) := by decide +kernel
theorem dX12_worked_72 : decode cX12_worked 72 = .ok (.goto 257, 3) := by decide +kernel
theorem dX12_worked_75 : decode cX12_worked 75 = .ok (.iload 4, 2) := by decide +kernel
theorem dX12_worked_77 : decode cX12_worked 77 = .ok (.bipush 20, 2) := by decide +kernel
theorem dX12_worked_79 : decode cX12_worked 79 = .ok (.if_icmp .eq 10, 3) := by decide +kernel
theorem dX12_worked_82 : decode cX12_worked 82 = .ok (.iload 4, 2) := by decide +kernel
theorem dX12_worked_84 : decode cX12_worked 84 = .ok (.bipush 21, 2) := by decide +kernel
theorem dX12_worked_86 : decode cX12_worked 86 = .ok (.if_icmp .ne 19, 3) := by decide +kernel
theorem dX12_worked_89 : decode cX12_worked 89 = .ok (.aload_n 0, 1) := by decide +kernel
theorem dX12_worked_90 : decode cX12_worked 90 = .ok (.iload_n 2, 1) := by decide +kernel
theorem dX12_worked_91 : decode cX12_worked 91 = .ok (.invokevirtual 270, 3) := by decide +kernel
theorem dX12_worked_94 : decode cX12_worked 94 = .ok (.aload_n 0, 1) := by decide +kernel
theorem dX12_worked_95 : decode cX12_worked 95 = .ok (.getfield 96, 3) := by decide +kernel
theorem dX12_worked_98 : decode cX12_worked 98 = .ok (.iload_n 2, 1) := by decide +kernel
theorem dX12_worked_99 : decode cX12_worked 99 = .ok (.iload 4, 2) := by decide +kernel
theorem dX12_worked_101 : decode cX12_worked 101 = .ok (.iastore, 1) := by decide +kernel
theorem dX12_worked_102 : decode cX12_worked 102 = .ok (.goto 227, 3) := by decide +kernel
theorem dX12_worked_105 : decode cX12_worked 105 = .ok (.iload 4, 2) := by decide +kernel
theorem dX12_worked_107 : decode cX12_worked 107 = .ok (.bipush 22, 2) := by decide +kernel
theorem dX12_worked_109 : decode cX12_worked 109 = .ok (.if_icmp .ne 14, 3) := by decide +kernel
theorem dX12_worked_112 : decode cX12_worked 112 = .ok (.aload_n 0, 1) := by decide +kernel
theorem dX12_worked_113 : decode cX12_worked 113 = .ok (.getfield 102, 3) := by decide +kernel
theorem dX12_worked_116 : decode cX12_worked 116 = .ok (.iload_n 2, 1) := by decide +kernel
theorem dX12_worked_117 : decode cX12_worked 117 = .ok (.iload 4, 2) := by decide +kernel
theorem dX12_worked_119 : decode cX12_worked 119 = .ok (.iastore, 1) := by decide +kernel
theorem dX12_worked_120 : decode cX12_worked 120 = .ok (.goto 209, 3) := by decide +kernel
theorem dX12_worked_123 : decode cX12_worked 123 = .ok (.iload 4, 2) := by decide +kernel
theorem dX12_worked_125 : decode cX12_worked 125 = .ok (.bipush 24, 2) := by decide +kernel
theorem dX12_worked_127 : decode cX12_worked 127 = .ok (.if_icmp .eq 10, 3) := by decide +kernel
theorem dX12_worked_130 : decode cX12_worked 130 = .ok (.iload 4, 2) := by decide +kernel
theorem dX12_worked_132 : decode cX12_worked 132 = .ok (.bipush 25, 2) := by decide +kernel
theorem dX12_worked_134 : decode cX12_worked 134 = .ok (.if_icmp .ne 46, 3) := by decide +kernel
theorem dX12_worked_137 : decode cX12_worked 137 = .ok (.aload_n 0, 1) := by decide +kernel
theorem dX12_worked_138 : decode cX12_worked 138 = .ok (.iload_n 2, 1) := by decide +kernel
theorem dX12_worked_139 : decode cX12_worked 139 = .ok (.invokevirtual 270, 3) := by decide +kernel
theorem dX12_worked_142 : decode cX12_worked 142 = .ok (.aload_n 0, 1) := by decide +kernel
theorem dX12_worked_143 : decode cX12_worked 143 = .ok (.getfield 87, 3) := by decide +kernel
theorem dX12_worked_146 : decode cX12_worked 146 = .ok (.iload_n 2, 1) := by decide +kernel
theorem dX12_worked_147 : decode cX12_worked 147 = .ok (.aload_n 0, 1) := by decide +kernel
theorem dX12_worked_148 : decode cX12_worked 148 = .ok (.getfield 93, 3) := by decide +kernel
theorem dX12_worked_151 : decode cX12_worked 151 = .ok (.iload_n 2, 1) := by decide +kernel
theorem dX12_worked_152 : decode cX12_worked 152 = .ok (.iaload, 1) := by decide +kernel
theorem dX12_worked_153 : decode cX12_worked 153 = .ok (.iastore, 1) := by decide +kernel
theorem dX12_worked_154 : decode cX12_worked 154 = .ok (.aload_n 0, 1) := by decide +kernel
theorem dX12_worked_155 : decode cX12_worked 155 = .ok (.getfield 90, 3) := by decide +kernel
theorem dX12_worked_158 : decode cX12_worked 158 = .ok (.iload_n 2, 1) := by decide +kernel
theorem dX12_worked_159 : decode cX12_worked 159 = .ok (.iload 4, 2) := by decide +kernel
theorem dX12_worked_161 : decode cX12_worked 161 = .ok (.iastore, 1) := by decide +kernel
theorem dX12_worked_162 : decode cX12_worked 162 = .ok (.aload_n 0, 1) := by decide +kernel
theorem dX12_worked_163 : decode cX12_worked 163 = .ok (.getfield 93, 3) := by decide +kernel
theorem dX12_worked_166 : decode cX12_worked 166 = .ok (.iload_n 2, 1) := by decide +kernel
theorem dX12_worked_167 : decode cX12_worked 167 = .ok (.iconst 0, 1) := by decide +kernel
theorem dX12_worked_168 : decode cX12_worked 168 = .ok (.iastore, 1) := by decide +kernel
theorem dX12_worked_169 : decode cX12_worked 169 = .ok (.aload_n 0, 1) := by decide +kernel
theorem dX12_worked_170 : decode cX12_worked 170 = .ok (.getfield 96, 3) := by decide +kernel
theorem dX12_worked_173 : decode cX12_worked 173 = .ok (.iload_n 2, 1) := by decide +kernel
theorem dX12_worked_174 : decode cX12_worked 174 = .ok (.bipush 20, 2) := by decide +kernel
theorem dX12_worked_176 : decode cX12_worked 176 = .ok (.iastore, 1) := by decide +kernel
theorem dX12_worked_177 : decode cX12_worked 177 = .ok (.goto 152, 3) := by decide +kernel
theorem dX12_worked_180 : decode cX12_worked 180 = .ok (.iload 4, 2) := by decide +kernel
theorem dX12_worked_182 : decode cX12_worked 182 = .ok (.bipush 26, 2) := by decide +kernel
theorem dX12_worked_184 : decode cX12_worked 184 = .ok (.if_icmp .eq 10, 3) := by decide +kernel
theorem dX12_worked_187 : decode cX12_worked 187 = .ok (.iload 4, 2) := by decide +kernel
theorem dX12_worked_189 : decode cX12_worked 189 = .ok (.bipush 27, 2) := by decide +kernel
theorem dX12_worked_191 : decode cX12_worked 191 = .ok (.if_icmp .ne 19, 3) := by decide +kernel
theorem dX12_worked_194 : decode cX12_worked 194 = .ok (.aload_n 0, 1) := by decide +kernel
theorem dX12_worked_195 : decode cX12_worked 195 = .ok (.iload_n 2, 1) := by decide +kernel
theorem dX12_worked_196 : decode cX12_worked 196 = .ok (.invokevirtual 276, 3) := by decide +kernel
theorem dX12_worked_199 : decode cX12_worked 199 = .ok (.aload_n 0, 1) := by decide +kernel
theorem dX12_worked_200 : decode cX12_worked 200 = .ok (.getfield 84, 3) := by decide +kernel
theorem dX12_worked_203 : decode cX12_worked 203 = .ok (.iload_n 2, 1) := by decide +kernel
theorem dX12_worked_204 : decode cX12_worked 204 = .ok (.iload 4, 2) := by decide +kernel
theorem dX12_worked_206 : decode cX12_worked 206 = .ok (.iastore, 1) := by decide +kernel
theorem dX12_worked_207 : decode cX12_worked 207 = .ok (.goto 122, 3) := by decide +kernel
theorem dX12_worked_210 : decode cX12_worked 210 = .ok (.iload 4, 2) := by decide +kernel
theorem dX12_worked_212 : decode cX12_worked 212 = .ok (.bipush 100, 2) := by decide +kernel
theorem dX12_worked_214 : decode cX12_worked 214 = .ok (.if_icmp .lt 11, 3) := by decide +kernel
theorem dX12_worked_217 : decode cX12_worked 217 = .ok (.iload 4, 2) := by decide +kernel
theorem dX12_worked_219 : decode cX12_worked 219 = .ok (.bipush 100, 2) := by decide +kernel
theorem dX12_worked_221 : decode cX12_worked 221 = .ok (.isub, 1) := by decide +kernel
theorem dX12_worked_222 : decode cX12_worked 222 = .ok (.goto 21, 3) := by decide +kernel
theorem dX12_worked_225 : decode cX12_worked 225 = .ok (.iload 4, 2) := by decide +kernel
theorem dX12_worked_227 : decode cX12_worked 227 = .ok (.bipush 20, 2) := by decide +kernel
theorem dX12_worked_229 : decode cX12_worked 229 = .ok (.if_icmp .ge 13, 3) := by decide +kernel
theorem dX12_worked_232 : decode cX12_worked 232 = .ok (.aload_n 0, 1) := by decide +kernel
theorem dX12_worked_233 : decode cX12_worked 233 = .ok (.getfield 108, 3) := by decide +kernel
theorem dX12_worked_236 : decode cX12_worked 236 = .ok (.iload 4, 2) := by decide +kernel
theorem dX12_worked_238 : decode cX12_worked 238 = .ok (.iaload, 1) := by decide +kernel
theorem dX12_worked_239 : decode cX12_worked 239 = .ok (.goto 4, 3) := by decide +kernel
theorem dX12_worked_242 : decode cX12_worked 242 = .ok (.iconst 0, 1) := by decide +kernel
theorem dX12_worked_243 : decode cX12_worked 243 = .ok (.istore 5, 2) := by decide +kernel
theorem dX12_worked_245 : decode cX12_worked 245 = .ok (.iload 4, 2) := by decide +kernel
theorem dX12_worked_247 : decode cX12_worked 247 = .ok (.bipush 29, 2) := by decide +kernel
theorem dX12_worked_249 : decode cX12_worked 249 = .ok (.if_icmp .ne 19, 3) := by decide +kernel
theorem dX12_worked_252 : decode cX12_worked 252 = .ok (.aload_n 0, 1) := by decide +kernel
theorem dX12_worked_253 : decode cX12_worked 253 = .ok (.iload_n 2, 1) := by decide +kernel
theorem dX12_worked_254 : decode cX12_worked 254 = .ok (.invokevirtual 276, 3) := by decide +kernel
theorem dX12_worked_257 : decode cX12_worked 257 = .ok (.aload_n 0, 1) := by decide +kernel
theorem dX12_worked_258 : decode cX12_worked 258 = .ok (.getfield 81, 3) := by decide +kernel
theorem dX12_worked_261 : decode cX12_worked 261 = .ok (.iload_n 2, 1) := by decide +kernel
theorem dX12_worked_262 : decode cX12_worked 262 = .ok (.iaload, 1) := by decide +kernel
theorem dX12_worked_263 : decode cX12_worked 263 = .ok (.istore 5, 2) := by decide +kernel
theorem dX12_worked_265 : decode cX12_worked 265 = .ok (.iinc 2 (-1), 3) := by decide +kernel
theorem dX12_worked_268 : decode cX12_worked 268 = .ok (.iload_n 2, 1) := by decide +kernel
theorem dX12_worked_269 : decode cX12_worked 269 = .ok (.ifCond .le 31, 3) := by decide +kernel
theorem dX12_worked_272 : decode cX12_worked 272 = .ok (.aload_n 0, 1) := by decide +kernel
theorem dX12_worked_273 : decode cX12_worked 273 = .ok (.getfield 105, 3) := by decide +kernel
theorem dX12_worked_276 : decode cX12_worked 276 = .ok (.iload_n 2, 1) := by decide +kernel
theorem dX12_worked_277 : decode cX12_worked 277 = .ok (.iaload, 1) := by decide +kernel
theorem dX12_worked_278 : decode cX12_worked 278 = .ok (.iconst 1, 1) := by decide +kernel
theorem dX12_worked_279 : decode cX12_worked 279 = .ok (.if_icmp .ne 21, 3) := by decide +kernel
theorem dX12_worked_282 : decode cX12_worked 282 = .ok (.iload 5, 2) := by decide +kernel
theorem dX12_worked_284 : decode cX12_worked 284 = .ok (.ifCond .ne 7, 3) := by decide +kernel
theorem dX12_worked_287 : decode cX12_worked 287 = .ok (.iconst 1, 1) := by decide +kernel
theorem dX12_worked_288 : decode cX12_worked 288 = .ok (.goto 4, 3) := by decide +kernel
theorem dX12_worked_291 : decode cX12_worked 291 = .ok (.iconst 0, 1) := by decide +kernel
theorem dX12_worked_292 : decode cX12_worked 292 = .ok (.istore 5, 2) := by decide +kernel
theorem dX12_worked_294 : decode cX12_worked 294 = .ok (.iinc 2 (-1), 3) := by decide +kernel
theorem dX12_worked_297 : decode cX12_worked 297 = .ok (.goto (-29), 3) := by decide +kernel
theorem dX12_worked_300 : decode cX12_worked 300 = .ok (.aload_n 0, 1) := by decide +kernel
theorem dX12_worked_301 : decode cX12_worked 301 = .ok (.getfield 99, 3) := by decide +kernel
theorem dX12_worked_304 : decode cX12_worked 304 = .ok (.iload_n 2, 1) := by decide +kernel
theorem dX12_worked_305 : decode cX12_worked 305 = .ok (.aload_n 0, 1) := by decide +kernel
theorem dX12_worked_306 : decode cX12_worked 306 = .ok (.getfield 102, 3) := by decide +kernel
theorem dX12_worked_309 : decode cX12_worked 309 = .ok (.iload_n 2, 1) := by decide +kernel
theorem dX12_worked_310 : decode cX12_worked 310 = .ok (.iaload, 1) := by decide +kernel
theorem dX12_worked_311 : decode cX12_worked 311 = .ok (.ifCond .ne 8, 3) := by decide +kernel
theorem dX12_worked_314 : decode cX12_worked 314 = .ok (.iload 5, 2) := by decide +kernel
theorem dX12_worked_316 : decode cX12_worked 316 = .ok (.goto 12, 3) := by decide +kernel
theorem dX12_worked_319 : decode cX12_worked 319 = .ok (.aload_n 0, 1) := by decide +kernel
theorem dX12_worked_320 : decode cX12_worked 320 = .ok (.getfield 99, 3) := by decide +kernel
theorem dX12_worked_323 : decode cX12_worked 323 = .ok (.iload_n 2, 1) := by decide +kernel
theorem dX12_worked_324 : decode cX12_worked 324 = .ok (.iaload, 1) := by decide +kernel
theorem dX12_worked_325 : decode cX12_worked 325 = .ok (.iload 5, 2) := by decide +kernel
theorem dX12_worked_327 : decode cX12_worked 327 = .ok (.imul, 1) := by decide +kernel
theorem dX12_worked_328 : decode cX12_worked 328 = .ok (.iastore, 1) := by decide +kernel
theorem dX12_worked_329 : decode cX12_worked 329 = .ok (.iinc 3 1, 3) := by decide +kernel
theorem dX12_worked_332 : decode cX12_worked 332 = .ok (.goto (-318), 3) := by decide +kernel
theorem dX12_worked_335 : decode cX12_worked 335 = .ok (.aload_n 0, 1) := by decide +kernel
theorem dX12_worked_336 : decode cX12_worked 336 = .ok (.iconst 0, 1) := by decide +kernel
theorem dX12_worked_337 : decode cX12_worked 337 = .ok (.invokevirtual 276, 3) := by decide +kernel
theorem dX12_worked_340 : decode cX12_worked 340 = .ok (.aload_n 0, 1) := by decide +kernel
theorem dX12_worked_341 : decode cX12_worked 341 = .ok (.getfield 81, 3) := by decide +kernel
theorem dX12_worked_344 : decode cX12_worked 344 = .ok (.iconst 0, 1) := by decide +kernel
theorem dX12_worked_345 : decode cX12_worked 345 = .ok (.iaload, 1) := by decide +kernel
theorem dX12_worked_346 : decode cX12_worked 346 = .ok (.ireturn, 1) := by decide +kernel
theorem dX12_isKept_0 : decode cX12_isKept 0 = .ok (.aload_n 0, 1) := by decide +kernel
theorem dX12_isKept_1 : decode cX12_isKept 1 = .ok (.getfield 218, 3) := by decide +kernel
theorem dX12_isKept_4 : decode cX12_isKept 4 = .ok (.iconst 1, 1) := by decide +kernel
theorem dX12_isKept_5 : decode cX12_isKept 5 = .ok (.if_icmp .eq 5, 3) := by decide +kernel
theorem dX12_isKept_8 : decode cX12_isKept 8 = .ok (.iconst 1, 1) := by decide +kernel
theorem dX12_isKept_9 : decode cX12_isKept 9 = .ok (.ireturn, 1) := by decide +kernel
theorem dX12_isKept_10 : decode cX12_isKept 10 = .ok (.aload_n 0, 1) := by decide +kernel
theorem dX12_isKept_11 : decode cX12_isKept 11 = .ok (.getfield 211, 3) := by decide +kernel
theorem dX12_isKept_14 : decode cX12_isKept 14 = .ok (.ldc2_w 279, 3) := by decide +kernel
theorem dX12_isKept_17 : decode cX12_isKept 17 = .ok (.lcmp, 1) := by decide +kernel
theorem dX12_isKept_18 : decode cX12_isKept 18 = .ok (.ifCond .eq 355, 3) := by decide +kernel
theorem dX12_isKept_21 : decode cX12_isKept 21 = .ok (.aload_n 0, 1) := by decide +kernel
theorem dX12_isKept_22 : decode cX12_isKept 22 = .ok (.getfield 211, 3) := by decide +kernel
theorem dX12_isKept_25 : decode cX12_isKept 25 = .ok (.ldc2_w 281, 3) := by decide +kernel
theorem dX12_isKept_28 : decode cX12_isKept 28 = .ok (.lcmp, 1) := by decide +kernel
theorem dX12_isKept_29 : decode cX12_isKept 29 = .ok (.ifCond .eq 344, 3) := by decide +kernel
theorem dX12_isKept_32 : decode cX12_isKept 32 = .ok (.aload_n 0, 1) := by decide +kernel
theorem dX12_isKept_33 : decode cX12_isKept 33 = .ok (.getfield 211, 3) := by decide +kernel
theorem dX12_isKept_36 : decode cX12_isKept 36 = .ok (.ldc2_w 283, 3) := by decide +kernel
theorem dX12_isKept_39 : decode cX12_isKept 39 = .ok (.lcmp, 1) := by decide +kernel
theorem dX12_isKept_40 : decode cX12_isKept 40 = .ok (.ifCond .eq 333, 3) := by decide +kernel
theorem dX12_isKept_43 : decode cX12_isKept 43 = .ok (.aload_n 0, 1) := by decide +kernel
theorem dX12_isKept_44 : decode cX12_isKept 44 = .ok (.getfield 211, 3) := by decide +kernel
theorem dX12_isKept_47 : decode cX12_isKept 47 = .ok (.ldc2_w 285, 3) := by decide +kernel
theorem dX12_isKept_50 : decode cX12_isKept 50 = .ok (.lcmp, 1) := by decide +kernel
theorem dX12_isKept_51 : decode cX12_isKept 51 = .ok (.ifCond .eq 322, 3) := by decide +kernel
theorem dX12_isKept_54 : decode cX12_isKept 54 = .ok (.aload_n 0, 1) := by decide +kernel
theorem dX12_isKept_55 : decode cX12_isKept 55 = .ok (.getfield 211, 3) := by decide +kernel
theorem dX12_isKept_58 : decode cX12_isKept 58 = .ok (.ldc2_w 287, 3) := by decide +kernel
theorem dX12_isKept_61 : decode cX12_isKept 61 = .ok (.lcmp, 1) := by decide +kernel
theorem dX12_isKept_62 : decode cX12_isKept 62 = .ok (.ifCond .eq 311, 3) := by decide +kernel
theorem dX12_isKept_65 : decode cX12_isKept 65 = .ok (.aload_n 0, 1) := by decide +kernel
theorem dX12_isKept_66 : decode cX12_isKept 66 = .ok (.getfield 211, 3) := by decide +kernel
theorem dX12_isKept_69 : decode cX12_isKept 69 = .ok (.ldc2_w 289, 3) := by decide +kernel
theorem dX12_isKept_72 : decode cX12_isKept 72 = .ok (.lcmp, 1) := by decide +kernel
theorem dX12_isKept_73 : decode cX12_isKept 73 = .ok (.ifCond .eq 300, 3) := by decide +kernel
theorem dX12_isKept_76 : decode cX12_isKept 76 = .ok (.aload_n 0, 1) := by decide +kernel
theorem dX12_isKept_77 : decode cX12_isKept 77 = .ok (.getfield 211, 3) := by decide +kernel
theorem dX12_isKept_80 : decode cX12_isKept 80 = .ok (.ldc2_w 291, 3) := by decide +kernel
theorem dX12_isKept_83 : decode cX12_isKept 83 = .ok (.lcmp, 1) := by decide +kernel
theorem dX12_isKept_84 : decode cX12_isKept 84 = .ok (.ifCond .eq 289, 3) := by decide +kernel
theorem dX12_isKept_87 : decode cX12_isKept 87 = .ok (.aload_n 0, 1) := by decide +kernel
theorem dX12_isKept_88 : decode cX12_isKept 88 = .ok (.getfield 211, 3) := by decide +kernel
theorem dX12_isKept_91 : decode cX12_isKept 91 = .ok (.ldc2_w 293, 3) := by decide +kernel
theorem dX12_isKept_94 : decode cX12_isKept 94 = .ok (.lcmp, 1) := by decide +kernel
theorem dX12_isKept_95 : decode cX12_isKept 95 = .ok (.ifCond .eq 278, 3) := by decide +kernel
theorem dX12_isKept_98 : decode cX12_isKept 98 = .ok (.aload_n 0, 1) := by decide +kernel
theorem dX12_isKept_99 : decode cX12_isKept 99 = .ok (.getfield 211, 3) := by decide +kernel
theorem dX12_isKept_102 : decode cX12_isKept 102 = .ok (.ldc2_w 295, 3) := by decide +kernel
theorem dX12_isKept_105 : decode cX12_isKept 105 = .ok (.lcmp, 1) := by decide +kernel
theorem dX12_isKept_106 : decode cX12_isKept 106 = .ok (.ifCond .eq 267, 3) := by decide +kernel
theorem dX12_isKept_109 : decode cX12_isKept 109 = .ok (.aload_n 0, 1) := by decide +kernel
theorem dX12_isKept_110 : decode cX12_isKept 110 = .ok (.getfield 211, 3) := by decide +kernel
theorem dX12_isKept_113 : decode cX12_isKept 113 = .ok (.ldc2_w 297, 3) := by decide +kernel
theorem dX12_isKept_116 : decode cX12_isKept 116 = .ok (.lcmp, 1) := by decide +kernel
theorem dX12_isKept_117 : decode cX12_isKept 117 = .ok (.ifCond .eq 256, 3) := by decide +kernel
theorem dX12_isKept_120 : decode cX12_isKept 120 = .ok (.aload_n 0, 1) := by decide +kernel
theorem dX12_isKept_121 : decode cX12_isKept 121 = .ok (.getfield 211, 3) := by decide +kernel
theorem dX12_isKept_124 : decode cX12_isKept 124 = .ok (.ldc2_w 299, 3) := by decide +kernel
theorem dX12_isKept_127 : decode cX12_isKept 127 = .ok (.lcmp, 1) := by decide +kernel
theorem dX12_isKept_128 : decode cX12_isKept 128 = .ok (.ifCond .eq 245, 3) := by decide +kernel
theorem dX12_isKept_131 : decode cX12_isKept 131 = .ok (.aload_n 0, 1) := by decide +kernel
theorem dX12_isKept_132 : decode cX12_isKept 132 = .ok (.getfield 211, 3) := by decide +kernel
theorem dX12_isKept_135 : decode cX12_isKept 135 = .ok (.ldc2_w 301, 3) := by decide +kernel
theorem dX12_isKept_138 : decode cX12_isKept 138 = .ok (.lcmp, 1) := by decide +kernel
theorem dX12_isKept_139 : decode cX12_isKept 139 = .ok (.ifCond .eq 234, 3) := by decide +kernel
theorem dX12_isKept_142 : decode cX12_isKept 142 = .ok (.aload_n 0, 1) := by decide +kernel
theorem dX12_isKept_143 : decode cX12_isKept 143 = .ok (.getfield 211, 3) := by decide +kernel
theorem dX12_isKept_146 : decode cX12_isKept 146 = .ok (.ldc2_w 303, 3) := by decide +kernel
theorem dX12_isKept_149 : decode cX12_isKept 149 = .ok (.lcmp, 1) := by decide +kernel
theorem dX12_isKept_150 : decode cX12_isKept 150 = .ok (.ifCond .eq 223, 3) := by decide +kernel
theorem dX12_isKept_153 : decode cX12_isKept 153 = .ok (.aload_n 0, 1) := by decide +kernel
theorem dX12_isKept_154 : decode cX12_isKept 154 = .ok (.getfield 211, 3) := by decide +kernel
theorem dX12_isKept_157 : decode cX12_isKept 157 = .ok (.ldc2_w 305, 3) := by decide +kernel
theorem dX12_isKept_160 : decode cX12_isKept 160 = .ok (.lcmp, 1) := by decide +kernel
theorem dX12_isKept_161 : decode cX12_isKept 161 = .ok (.ifCond .eq 212, 3) := by decide +kernel
theorem dX12_isKept_164 : decode cX12_isKept 164 = .ok (.aload_n 0, 1) := by decide +kernel
theorem dX12_isKept_165 : decode cX12_isKept 165 = .ok (.getfield 211, 3) := by decide +kernel
theorem dX12_isKept_168 : decode cX12_isKept 168 = .ok (.ldc2_w 307, 3) := by decide +kernel
theorem dX12_isKept_171 : decode cX12_isKept 171 = .ok (.lcmp, 1) := by decide +kernel
theorem dX12_isKept_172 : decode cX12_isKept 172 = .ok (.ifCond .eq 201, 3) := by decide +kernel
theorem dX12_isKept_175 : decode cX12_isKept 175 = .ok (.aload_n 0, 1) := by decide +kernel
theorem dX12_isKept_176 : decode cX12_isKept 176 = .ok (.getfield 211, 3) := by decide +kernel
theorem dX12_isKept_179 : decode cX12_isKept 179 = .ok (.ldc2_w 309, 3) := by decide +kernel
theorem dX12_isKept_182 : decode cX12_isKept 182 = .ok (.lcmp, 1) := by decide +kernel
theorem dX12_isKept_183 : decode cX12_isKept 183 = .ok (.ifCond .eq 190, 3) := by decide +kernel
theorem dX12_isKept_186 : decode cX12_isKept 186 = .ok (.aload_n 0, 1) := by decide +kernel
theorem dX12_isKept_187 : decode cX12_isKept 187 = .ok (.getfield 211, 3) := by decide +kernel
theorem dX12_isKept_190 : decode cX12_isKept 190 = .ok (.ldc2_w 311, 3) := by decide +kernel
theorem dX12_isKept_193 : decode cX12_isKept 193 = .ok (.lcmp, 1) := by decide +kernel
theorem dX12_isKept_194 : decode cX12_isKept 194 = .ok (.ifCond .eq 179, 3) := by decide +kernel
theorem dX12_isKept_197 : decode cX12_isKept 197 = .ok (.aload_n 0, 1) := by decide +kernel
theorem dX12_isKept_198 : decode cX12_isKept 198 = .ok (.getfield 211, 3) := by decide +kernel
theorem dX12_isKept_201 : decode cX12_isKept 201 = .ok (.ldc2_w 313, 3) := by decide +kernel
theorem dX12_isKept_204 : decode cX12_isKept 204 = .ok (.lcmp, 1) := by decide +kernel
theorem dX12_isKept_205 : decode cX12_isKept 205 = .ok (.ifCond .eq 168, 3) := by decide +kernel
theorem dX12_isKept_208 : decode cX12_isKept 208 = .ok (.aload_n 0, 1) := by decide +kernel
theorem dX12_isKept_209 : decode cX12_isKept 209 = .ok (.getfield 211, 3) := by decide +kernel
theorem dX12_isKept_212 : decode cX12_isKept 212 = .ok (.ldc2_w 315, 3) := by decide +kernel
theorem dX12_isKept_215 : decode cX12_isKept 215 = .ok (.lcmp, 1) := by decide +kernel
theorem dX12_isKept_216 : decode cX12_isKept 216 = .ok (.ifCond .eq 157, 3) := by decide +kernel
theorem dX12_isKept_219 : decode cX12_isKept 219 = .ok (.aload_n 0, 1) := by decide +kernel
theorem dX12_isKept_220 : decode cX12_isKept 220 = .ok (.getfield 211, 3) := by decide +kernel
theorem dX12_isKept_223 : decode cX12_isKept 223 = .ok (.ldc2_w 317, 3) := by decide +kernel
theorem dX12_isKept_226 : decode cX12_isKept 226 = .ok (.lcmp, 1) := by decide +kernel
theorem dX12_isKept_227 : decode cX12_isKept 227 = .ok (.ifCond .eq 146, 3) := by decide +kernel
theorem dX12_isKept_230 : decode cX12_isKept 230 = .ok (.aload_n 0, 1) := by decide +kernel
theorem dX12_isKept_231 : decode cX12_isKept 231 = .ok (.getfield 211, 3) := by decide +kernel
theorem dX12_isKept_234 : decode cX12_isKept 234 = .ok (.ldc2_w 319, 3) := by decide +kernel
theorem dX12_isKept_237 : decode cX12_isKept 237 = .ok (.lcmp, 1) := by decide +kernel
theorem dX12_isKept_238 : decode cX12_isKept 238 = .ok (.ifCond .eq 135, 3) := by decide +kernel
theorem dX12_isKept_241 : decode cX12_isKept 241 = .ok (.aload_n 0, 1) := by decide +kernel
theorem dX12_isKept_242 : decode cX12_isKept 242 = .ok (.getfield 211, 3) := by decide +kernel
theorem dX12_isKept_245 : decode cX12_isKept 245 = .ok (.ldc2_w 321, 3) := by decide +kernel
theorem dX12_isKept_248 : decode cX12_isKept 248 = .ok (.lcmp, 1) := by decide +kernel
theorem dX12_isKept_249 : decode cX12_isKept 249 = .ok (.ifCond .eq 124, 3) := by decide +kernel
theorem dX12_isKept_252 : decode cX12_isKept 252 = .ok (.aload_n 0, 1) := by decide +kernel
theorem dX12_isKept_253 : decode cX12_isKept 253 = .ok (.getfield 211, 3) := by decide +kernel
theorem dX12_isKept_256 : decode cX12_isKept 256 = .ok (.ldc2_w 323, 3) := by decide +kernel
theorem dX12_isKept_259 : decode cX12_isKept 259 = .ok (.lcmp, 1) := by decide +kernel
theorem dX12_isKept_260 : decode cX12_isKept 260 = .ok (.ifCond .eq 113, 3) := by decide +kernel
theorem dX12_isKept_263 : decode cX12_isKept 263 = .ok (.aload_n 0, 1) := by decide +kernel
theorem dX12_isKept_264 : decode cX12_isKept 264 = .ok (.getfield 211, 3) := by decide +kernel
theorem dX12_isKept_267 : decode cX12_isKept 267 = .ok (.ldc2_w 325, 3) := by decide +kernel
theorem dX12_isKept_270 : decode cX12_isKept 270 = .ok (.lcmp, 1) := by decide +kernel
theorem dX12_isKept_271 : decode cX12_isKept 271 = .ok (.ifCond .eq 102, 3) := by decide +kernel
theorem dX12_isKept_274 : decode cX12_isKept 274 = .ok (.aload_n 0, 1) := by decide +kernel
theorem dX12_isKept_275 : decode cX12_isKept 275 = .ok (.getfield 211, 3) := by decide +kernel
theorem dX12_isKept_278 : decode cX12_isKept 278 = .ok (.ldc2_w 327, 3) := by decide +kernel
theorem dX12_isKept_281 : decode cX12_isKept 281 = .ok (.lcmp, 1) := by decide +kernel
theorem dX12_isKept_282 : decode cX12_isKept 282 = .ok (.ifCond .eq 91, 3) := by decide +kernel
theorem dX12_isKept_285 : decode cX12_isKept 285 = .ok (.aload_n 0, 1) := by decide +kernel
theorem dX12_isKept_286 : decode cX12_isKept 286 = .ok (.getfield 211, 3) := by decide +kernel
theorem dX12_isKept_289 : decode cX12_isKept 289 = .ok (.ldc2_w 329, 3) := by decide +kernel
theorem dX12_isKept_292 : decode cX12_isKept 292 = .ok (.lcmp, 1) := by decide +kernel
theorem dX12_isKept_293 : decode cX12_isKept 293 = .ok (.ifCond .eq 80, 3) := by decide +kernel
theorem dX12_isKept_296 : decode cX12_isKept 296 = .ok (.aload_n 0, 1) := by decide +kernel
theorem dX12_isKept_297 : decode cX12_isKept 297 = .ok (.getfield 211, 3) := by decide +kernel
theorem dX12_isKept_300 : decode cX12_isKept 300 = .ok (.ldc2_w 331, 3) := by decide +kernel
theorem dX12_isKept_303 : decode cX12_isKept 303 = .ok (.lcmp, 1) := by decide +kernel
theorem dX12_isKept_304 : decode cX12_isKept 304 = .ok (.ifCond .eq 69, 3) := by decide +kernel
theorem dX12_isKept_307 : decode cX12_isKept 307 = .ok (.aload_n 0, 1) := by decide +kernel
theorem dX12_isKept_308 : decode cX12_isKept 308 = .ok (.getfield 211, 3) := by decide +kernel
theorem dX12_isKept_311 : decode cX12_isKept 311 = .ok (.ldc2_w 333, 3) := by decide +kernel
theorem dX12_isKept_314 : decode cX12_isKept 314 = .ok (.lcmp, 1) := by decide +kernel
theorem dX12_isKept_315 : decode cX12_isKept 315 = .ok (.ifCond .eq 58, 3) := by decide +kernel
theorem dX12_isKept_318 : decode cX12_isKept 318 = .ok (.aload_n 0, 1) := by decide +kernel
theorem dX12_isKept_319 : decode cX12_isKept 319 = .ok (.getfield 211, 3) := by decide +kernel
theorem dX12_isKept_322 : decode cX12_isKept 322 = .ok (.ldc2_w 335, 3) := by decide +kernel
theorem dX12_isKept_325 : decode cX12_isKept 325 = .ok (.lcmp, 1) := by decide +kernel
theorem dX12_isKept_326 : decode cX12_isKept 326 = .ok (.ifCond .eq 47, 3) := by decide +kernel
theorem dX12_isKept_329 : decode cX12_isKept 329 = .ok (.aload_n 0, 1) := by decide +kernel
theorem dX12_isKept_330 : decode cX12_isKept 330 = .ok (.getfield 211, 3) := by decide +kernel
theorem dX12_isKept_333 : decode cX12_isKept 333 = .ok (.ldc2_w 337, 3) := by decide +kernel
theorem dX12_isKept_336 : decode cX12_isKept 336 = .ok (.lcmp, 1) := by decide +kernel
theorem dX12_isKept_337 : decode cX12_isKept 337 = .ok (.ifCond .eq 36, 3) := by decide +kernel
theorem dX12_isKept_340 : decode cX12_isKept 340 = .ok (.aload_n 0, 1) := by decide +kernel
theorem dX12_isKept_341 : decode cX12_isKept 341 = .ok (.getfield 211, 3) := by decide +kernel
theorem dX12_isKept_344 : decode cX12_isKept 344 = .ok (.ldc2_w 247, 3) := by decide +kernel
theorem dX12_isKept_347 : decode cX12_isKept 347 = .ok (.lcmp, 1) := by decide +kernel
theorem dX12_isKept_348 : decode cX12_isKept 348 = .ok (.ifCond .eq 25, 3) := by decide +kernel
theorem dX12_isKept_351 : decode cX12_isKept 351 = .ok (.aload_n 0, 1) := by decide +kernel
theorem dX12_isKept_352 : decode cX12_isKept 352 = .ok (.getfield 211, 3) := by decide +kernel
theorem dX12_isKept_355 : decode cX12_isKept 355 = .ok (.ldc2_w 266, 3) := by decide +kernel
theorem dX12_isKept_358 : decode cX12_isKept 358 = .ok (.lcmp, 1) := by decide +kernel
theorem dX12_isKept_359 : decode cX12_isKept 359 = .ok (.ifCond .eq 14, 3) := by decide +kernel
theorem dX12_isKept_362 : decode cX12_isKept 362 = .ok (.aload_n 0, 1) := by decide +kernel
theorem dX12_isKept_363 : decode cX12_isKept 363 = .ok (.getfield 211, 3) := by decide +kernel
theorem dX12_isKept_366 : decode cX12_isKept 366 = .ok (.ldc2_w 268, 3) := by decide +kernel
theorem dX12_isKept_369 : decode cX12_isKept 369 = .ok (.lcmp, 1) := by decide +kernel
theorem dX12_isKept_370 : decode cX12_isKept 370 = .ok (.ifCond .ne 7, 3) := by decide +kernel
theorem dX12_isKept_373 : decode cX12_isKept 373 = .ok (.iconst 1, 1) := by decide +kernel
theorem dX12_isKept_374 : decode cX12_isKept 374 = .ok (.goto 4, 3) := by decide +kernel
theorem dX12_isKept_377 : decode cX12_isKept 377 = .ok (.iconst 0, 1) := by decide +kernel
theorem dX12_isKept_378 : decode cX12_isKept 378 = .ok (.ireturn, 1) := by decide +kernel
theorem dX12_named_0 : decode cX12_named 0 = .ok (.iload_n 1, 1) := by decide +kernel
theorem dX12_named_1 : decode cX12_named 1 = .ok (.istore 5, 2) := by decide +kernel
theorem dX12_named_3 : decode cX12_named 3 = .ok (.iload 5, 2) := by decide +kernel
theorem dX12_named_5 : decode cX12_named 5 = .ok (.iload_n 1, 1) := by decide +kernel
theorem dX12_named_6 : decode cX12_named 6 = .ok (.iload_n 2, 1) := by decide +kernel
theorem dX12_named_7 : decode cX12_named 7 = .ok (.iadd, 1) := by decide +kernel
theorem dX12_named_8 : decode cX12_named 8 = .ok (.if_icmp .ge 23, 3) := by decide +kernel
theorem dX12_named_11 : decode cX12_named 11 = .ok (.aload_n 0, 1) := by decide +kernel
theorem dX12_named_12 : decode cX12_named 12 = .ok (.iload 5, 2) := by decide +kernel
theorem dX12_named_14 : decode cX12_named 14 = .ok (.laload, 1) := by decide +kernel
theorem dX12_named_15 : decode cX12_named 15 = .ok (.lload_n 3, 1) := by decide +kernel
theorem dX12_named_16 : decode cX12_named 16 = .ok (.lcmp, 1) := by decide +kernel
theorem dX12_named_17 : decode cX12_named 17 = .ok (.ifCond .ne 8, 3) := by decide +kernel
theorem dX12_named_20 : decode cX12_named 20 = .ok (.iload 5, 2) := by decide +kernel
theorem dX12_named_22 : decode cX12_named 22 = .ok (.iload_n 1, 1) := by decide +kernel
theorem dX12_named_23 : decode cX12_named 23 = .ok (.isub, 1) := by decide +kernel
theorem dX12_named_24 : decode cX12_named 24 = .ok (.ireturn, 1) := by decide +kernel
theorem dX12_named_25 : decode cX12_named 25 = .ok (.iinc 5 1, 3) := by decide +kernel
theorem dX12_named_28 : decode cX12_named 28 = .ok (.goto (-25), 3) := by decide +kernel
theorem dX12_named_31 : decode cX12_named 31 = .ok (.iconst (-1), 1) := by decide +kernel
theorem dX12_named_32 : decode cX12_named 32 = .ok (.ireturn, 1) := by decide +kernel
theorem dX12_coachNamed_0 : decode cX12_coachNamed 0 = .ok (.aload_n 0, 1) := by decide +kernel
theorem dX12_coachNamed_1 : decode cX12_coachNamed 1 = .ok (.getfield 16, 3) := by decide +kernel
theorem dX12_coachNamed_4 : decode cX12_coachNamed 4 = .ok (.bipush 6, 2) := by decide +kernel
theorem dX12_coachNamed_6 : decode cX12_coachNamed 6 = .ok (.aload_n 0, 1) := by decide +kernel
theorem dX12_coachNamed_7 : decode cX12_coachNamed 7 = .ok (.getfield 13, 3) := by decide +kernel
theorem dX12_coachNamed_10 : decode cX12_coachNamed 10 = .ok (.bipush 10, 2) := by decide +kernel
theorem dX12_coachNamed_12 : decode cX12_coachNamed 12 = .ok (.iaload, 1) := by decide +kernel
theorem dX12_coachNamed_13 : decode cX12_coachNamed 13 = .ok (.aload_n 0, 1) := by decide +kernel
theorem dX12_coachNamed_14 : decode cX12_coachNamed 14 = .ok (.getfield 211, 3) := by decide +kernel
theorem dX12_coachNamed_17 : decode cX12_coachNamed 17 = .ok (.invokestatic 339, 3) := by decide +kernel
theorem dX12_coachNamed_20 : decode cX12_coachNamed 20 = .ok (.ireturn, 1) := by decide +kernel
theorem dX12_thingNamed_0 : decode cX12_thingNamed 0 = .ok (.aload_n 0, 1) := by decide +kernel
theorem dX12_thingNamed_1 : decode cX12_thingNamed 1 = .ok (.getfield 20, 3) := by decide +kernel
theorem dX12_thingNamed_4 : decode cX12_thingNamed 4 = .ok (.iconst 5, 1) := by decide +kernel
theorem dX12_thingNamed_5 : decode cX12_thingNamed 5 = .ok (.iload_n 1, 1) := by decide +kernel
theorem dX12_thingNamed_6 : decode cX12_thingNamed 6 = .ok (.imul, 1) := by decide +kernel
theorem dX12_thingNamed_7 : decode cX12_thingNamed 7 = .ok (.aload_n 0, 1) := by decide +kernel
theorem dX12_thingNamed_8 : decode cX12_thingNamed 8 = .ok (.getfield 13, 3) := by decide +kernel
theorem dX12_thingNamed_11 : decode cX12_thingNamed 11 = .ok (.bipush 10, 2) := by decide +kernel
theorem dX12_thingNamed_13 : decode cX12_thingNamed 13 = .ok (.iload_n 1, 1) := by decide +kernel
theorem dX12_thingNamed_14 : decode cX12_thingNamed 14 = .ok (.imul, 1) := by decide +kernel
theorem dX12_thingNamed_15 : decode cX12_thingNamed 15 = .ok (.iconst 1, 1) := by decide +kernel
theorem dX12_thingNamed_16 : decode cX12_thingNamed 16 = .ok (.iadd, 1) := by decide +kernel
theorem dX12_thingNamed_17 : decode cX12_thingNamed 17 = .ok (.iaload, 1) := by decide +kernel
theorem dX12_thingNamed_18 : decode cX12_thingNamed 18 = .ok (.aload_n 0, 1) := by decide +kernel
theorem dX12_thingNamed_19 : decode cX12_thingNamed 19 = .ok (.getfield 211, 3) := by decide +kernel
theorem dX12_thingNamed_22 : decode cX12_thingNamed 22 = .ok (.invokestatic 339, 3) := by decide +kernel
theorem dX12_thingNamed_25 : decode cX12_thingNamed 25 = .ok (.ireturn, 1) := by decide +kernel
theorem dX12_buyerNamed_0 : decode cX12_buyerNamed 0 = .ok (.aload_n 0, 1) := by decide +kernel
theorem dX12_buyerNamed_1 : decode cX12_buyerNamed 1 = .ok (.getfield 23, 3) := by decide +kernel
theorem dX12_buyerNamed_4 : decode cX12_buyerNamed 4 = .ok (.bipush 6, 2) := by decide +kernel
theorem dX12_buyerNamed_6 : decode cX12_buyerNamed 6 = .ok (.iload_n 1, 1) := by decide +kernel
theorem dX12_buyerNamed_7 : decode cX12_buyerNamed 7 = .ok (.imul, 1) := by decide +kernel
theorem dX12_buyerNamed_8 : decode cX12_buyerNamed 8 = .ok (.aload_n 0, 1) := by decide +kernel
theorem dX12_buyerNamed_9 : decode cX12_buyerNamed 9 = .ok (.getfield 13, 3) := by decide +kernel
theorem dX12_buyerNamed_12 : decode cX12_buyerNamed 12 = .ok (.bipush 10, 2) := by decide +kernel
theorem dX12_buyerNamed_14 : decode cX12_buyerNamed 14 = .ok (.iload_n 1, 1) := by decide +kernel
theorem dX12_buyerNamed_15 : decode cX12_buyerNamed 15 = .ok (.imul, 1) := by decide +kernel
theorem dX12_buyerNamed_16 : decode cX12_buyerNamed 16 = .ok (.iconst 2, 1) := by decide +kernel
theorem dX12_buyerNamed_17 : decode cX12_buyerNamed 17 = .ok (.iadd, 1) := by decide +kernel
theorem dX12_buyerNamed_18 : decode cX12_buyerNamed 18 = .ok (.iaload, 1) := by decide +kernel
theorem dX12_buyerNamed_19 : decode cX12_buyerNamed 19 = .ok (.aload_n 0, 1) := by decide +kernel
theorem dX12_buyerNamed_20 : decode cX12_buyerNamed 20 = .ok (.getfield 211, 3) := by decide +kernel
theorem dX12_buyerNamed_23 : decode cX12_buyerNamed 23 = .ok (.invokestatic 339, 3) := by decide +kernel
theorem dX12_buyerNamed_26 : decode cX12_buyerNamed 26 = .ok (.ireturn, 1) := by decide +kernel
theorem dX12_needsNumber_0 : decode cX12_needsNumber 0 = .ok (.aload_n 0, 1) := by decide +kernel
theorem dX12_needsNumber_1 : decode cX12_needsNumber 1 = .ok (.getfield 218, 3) := by decide +kernel
theorem dX12_needsNumber_4 : decode cX12_needsNumber 4 = .ok (.iconst 2, 1) := by decide +kernel
theorem dX12_needsNumber_5 : decode cX12_needsNumber 5 = .ok (.if_icmp .eq 9, 3) := by decide +kernel
theorem dX12_needsNumber_8 : decode cX12_needsNumber 8 = .ok (.aload_n 0, 1) := by decide +kernel
theorem dX12_needsNumber_9 : decode cX12_needsNumber 9 = .ok (.iconst 1, 1) := by decide +kernel
theorem dX12_needsNumber_10 : decode cX12_needsNumber 10 = .ok (.invokevirtual 257, 3) := by decide +kernel
theorem dX12_needsNumber_13 : decode cX12_needsNumber 13 = .ok (.ireturn, 1) := by decide +kernel
theorem dX12_needsNumber_14 : decode cX12_needsNumber 14 = .ok (.aload_n 0, 1) := by decide +kernel
theorem dX12_needsNumber_15 : decode cX12_needsNumber 15 = .ok (.getfield 215, 3) := by decide +kernel
theorem dX12_needsNumber_18 : decode cX12_needsNumber 18 = .ok (.iload_n 1, 1) := by decide +kernel
theorem dX12_needsNumber_19 : decode cX12_needsNumber 19 = .ok (.iload_n 2, 1) := by decide +kernel
theorem dX12_needsNumber_20 : decode cX12_needsNumber 20 = .ok (.invokestatic 343, 3) := by decide +kernel
theorem dX12_needsNumber_23 : decode cX12_needsNumber 23 = .ok (.ifCond .ne 9, 3) := by decide +kernel
theorem dX12_needsNumber_26 : decode cX12_needsNumber 26 = .ok (.aload_n 0, 1) := by decide +kernel
theorem dX12_needsNumber_27 : decode cX12_needsNumber 27 = .ok (.iconst 4, 1) := by decide +kernel
theorem dX12_needsNumber_28 : decode cX12_needsNumber 28 = .ok (.invokevirtual 257, 3) := by decide +kernel
theorem dX12_needsNumber_31 : decode cX12_needsNumber 31 = .ok (.ireturn, 1) := by decide +kernel
theorem dX12_needsNumber_32 : decode cX12_needsNumber 32 = .ok (.aload_n 0, 1) := by decide +kernel
theorem dX12_needsNumber_33 : decode cX12_needsNumber 33 = .ok (.aload_n 0, 1) := by decide +kernel
theorem dX12_needsNumber_34 : decode cX12_needsNumber 34 = .ok (.getfield 215, 3) := by decide +kernel
theorem dX12_needsNumber_37 : decode cX12_needsNumber 37 = .ok (.putfield 347, 3) := by decide +kernel
theorem dX12_needsNumber_40 : decode cX12_needsNumber 40 = .ok (.aload_n 0, 1) := by decide +kernel
theorem dX12_needsNumber_41 : decode cX12_needsNumber 41 = .ok (.invokevirtual 263, 3) := by decide +kernel
theorem dX12_needsNumber_44 : decode cX12_needsNumber 44 = .ok (.iconst 1, 1) := by decide +kernel
theorem dX12_needsNumber_45 : decode cX12_needsNumber 45 = .ok (.ireturn, 1) := by decide +kernel
theorem dX12_needsWord_0 : decode cX12_needsWord 0 = .ok (.aload_n 0, 1) := by decide +kernel
theorem dX12_needsWord_1 : decode cX12_needsWord 1 = .ok (.lload_n 1, 1) := by decide +kernel
theorem dX12_needsWord_2 : decode cX12_needsWord 2 = .ok (.invokevirtual 249, 3) := by decide +kernel
theorem dX12_needsWord_5 : decode cX12_needsWord 5 = .ok (.ifCond .ne 9, 3) := by decide +kernel
theorem dX12_needsWord_8 : decode cX12_needsWord 8 = .ok (.aload_n 0, 1) := by decide +kernel
theorem dX12_needsWord_9 : decode cX12_needsWord 9 = .ok (.iconst 1, 1) := by decide +kernel
theorem dX12_needsWord_10 : decode cX12_needsWord 10 = .ok (.invokevirtual 257, 3) := by decide +kernel
theorem dX12_needsWord_13 : decode cX12_needsWord 13 = .ok (.ireturn, 1) := by decide +kernel
theorem dX12_needsWord_14 : decode cX12_needsWord 14 = .ok (.aload_n 0, 1) := by decide +kernel
theorem dX12_needsWord_15 : decode cX12_needsWord 15 = .ok (.invokevirtual 263, 3) := by decide +kernel
theorem dX12_needsWord_18 : decode cX12_needsWord 18 = .ok (.iconst 1, 1) := by decide +kernel
theorem dX12_needsWord_19 : decode cX12_needsWord 19 = .ok (.ireturn, 1) := by decide +kernel
theorem dX12_needsBoth_0 : decode cX12_needsBoth 0 = .ok (.aload_n 0, 1) := by decide +kernel
theorem dX12_needsBoth_1 : decode cX12_needsBoth 1 = .ok (.lload_n 1, 1) := by decide +kernel
theorem dX12_needsBoth_2 : decode cX12_needsBoth 2 = .ok (.invokevirtual 350, 3) := by decide +kernel
theorem dX12_needsBoth_5 : decode cX12_needsBoth 5 = .ok (.ifCond .eq 17, 3) := by decide +kernel
theorem dX12_needsBoth_8 : decode cX12_needsBoth 8 = .ok (.aload_n 0, 1) := by decide +kernel
theorem dX12_needsBoth_9 : decode cX12_needsBoth 9 = .ok (.iload_n 3, 1) := by decide +kernel
theorem dX12_needsBoth_10 : decode cX12_needsBoth 10 = .ok (.iload 4, 2) := by decide +kernel
theorem dX12_needsBoth_12 : decode cX12_needsBoth 12 = .ok (.invokevirtual 353, 3) := by decide +kernel
theorem dX12_needsBoth_15 : decode cX12_needsBoth 15 = .ok (.ifCond .eq 7, 3) := by decide +kernel
theorem dX12_needsBoth_18 : decode cX12_needsBoth 18 = .ok (.iconst 1, 1) := by decide +kernel
theorem dX12_needsBoth_19 : decode cX12_needsBoth 19 = .ok (.goto 4, 3) := by decide +kernel
theorem dX12_needsBoth_22 : decode cX12_needsBoth 22 = .ok (.iconst 0, 1) := by decide +kernel
theorem dX12_needsBoth_23 : decode cX12_needsBoth 23 = .ok (.ireturn, 1) := by decide +kernel
theorem dX12_closes_0 : decode cX12_closes 0 = .ok (.aload_n 0, 1) := by decide +kernel
theorem dX12_closes_1 : decode cX12_closes 1 = .ok (.bipush 59, 2) := by decide +kernel
theorem dX12_closes_3 : decode cX12_closes 3 = .ok (.invokevirtual 253, 3) := by decide +kernel
theorem dX12_closes_6 : decode cX12_closes 6 = .ok (.ifCond .ne 9, 3) := by decide +kernel
theorem dX12_closes_9 : decode cX12_closes 9 = .ok (.aload_n 0, 1) := by decide +kernel
theorem dX12_closes_10 : decode cX12_closes 10 = .ok (.iconst 1, 1) := by decide +kernel
theorem dX12_closes_11 : decode cX12_closes 11 = .ok (.invokevirtual 257, 3) := by decide +kernel
theorem dX12_closes_14 : decode cX12_closes 14 = .ok (.ireturn, 1) := by decide +kernel
theorem dX12_closes_15 : decode cX12_closes 15 = .ok (.aload_n 0, 1) := by decide +kernel
theorem dX12_closes_16 : decode cX12_closes 16 = .ok (.invokevirtual 263, 3) := by decide +kernel
theorem dX12_closes_19 : decode cX12_closes 19 = .ok (.iconst 1, 1) := by decide +kernel
theorem dX12_closes_20 : decode cX12_closes 20 = .ok (.ireturn, 1) := by decide +kernel
theorem dX12_isNew_0 : decode cX12_isNew 0 = .ok (.aload_n 0, 1) := by decide +kernel
theorem dX12_isNew_1 : decode cX12_isNew 1 = .ok (.invokevirtual 357, 3) := by decide +kernel
theorem dX12_isNew_4 : decode cX12_isNew 4 = .ok (.ifCond .eq 9, 3) := by decide +kernel
theorem dX12_isNew_7 : decode cX12_isNew 7 = .ok (.aload_n 0, 1) := by decide +kernel
theorem dX12_isNew_8 : decode cX12_isNew 8 = .ok (.iconst 1, 1) := by decide +kernel
theorem dX12_isNew_9 : decode cX12_isNew 9 = .ok (.invokevirtual 257, 3) := by decide +kernel
theorem dX12_isNew_12 : decode cX12_isNew 12 = .ok (.ireturn, 1) := by decide +kernel
theorem dX12_isNew_13 : decode cX12_isNew 13 = .ok (.aload_n 0, 1) := by decide +kernel
theorem dX12_isNew_14 : decode cX12_isNew 14 = .ok (.invokevirtual 361, 3) := by decide +kernel
theorem dX12_isNew_17 : decode cX12_isNew 17 = .ok (.ifCond .ge 19, 3) := by decide +kernel
theorem dX12_isNew_20 : decode cX12_isNew 20 = .ok (.aload_n 0, 1) := by decide +kernel
theorem dX12_isNew_21 : decode cX12_isNew 21 = .ok (.iconst 1, 1) := by decide +kernel
theorem dX12_isNew_22 : decode cX12_isNew 22 = .ok (.invokevirtual 364, 3) := by decide +kernel
theorem dX12_isNew_25 : decode cX12_isNew 25 = .ok (.ifCond .ge 11, 3) := by decide +kernel
theorem dX12_isNew_28 : decode cX12_isNew 28 = .ok (.aload_n 0, 1) := by decide +kernel
theorem dX12_isNew_29 : decode cX12_isNew 29 = .ok (.iconst 1, 1) := by decide +kernel
theorem dX12_isNew_30 : decode cX12_isNew 30 = .ok (.invokevirtual 367, 3) := by decide +kernel
theorem dX12_isNew_33 : decode cX12_isNew 33 = .ok (.ifCond .lt 11, 3) := by decide +kernel
theorem dX12_isNew_36 : decode cX12_isNew 36 = .ok (.aload_n 0, 1) := by decide +kernel
theorem dX12_isNew_37 : decode cX12_isNew 37 = .ok (.iconst 3, 1) := by decide +kernel
theorem dX12_isNew_38 : decode cX12_isNew 38 = .ok (.invokevirtual 257, 3) := by decide +kernel
theorem dX12_isNew_41 : decode cX12_isNew 41 = .ok (.ifCond .eq 7, 3) := by decide +kernel
theorem dX12_isNew_44 : decode cX12_isNew 44 = .ok (.iconst 1, 1) := by decide +kernel
theorem dX12_isNew_45 : decode cX12_isNew 45 = .ok (.goto 4, 3) := by decide +kernel
theorem dX12_isNew_48 : decode cX12_isNew 48 = .ok (.iconst 0, 1) := by decide +kernel
theorem dX12_isNew_49 : decode cX12_isNew 49 = .ok (.ireturn, 1) := by decide +kernel
theorem dX12_needsThing_0 : decode cX12_needsThing 0 = .ok (.aload_n 0, 1) := by decide +kernel
theorem dX12_needsThing_1 : decode cX12_needsThing 1 = .ok (.invokevirtual 357, 3) := by decide +kernel
theorem dX12_needsThing_4 : decode cX12_needsThing 4 = .ok (.ifCond .eq 9, 3) := by decide +kernel
theorem dX12_needsThing_7 : decode cX12_needsThing 7 = .ok (.aload_n 0, 1) := by decide +kernel
theorem dX12_needsThing_8 : decode cX12_needsThing 8 = .ok (.iconst 1, 1) := by decide +kernel
theorem dX12_needsThing_9 : decode cX12_needsThing 9 = .ok (.invokevirtual 257, 3) := by decide +kernel
theorem dX12_needsThing_12 : decode cX12_needsThing 12 = .ok (.ireturn, 1) := by decide +kernel
theorem dX12_needsThing_13 : decode cX12_needsThing 13 = .ok (.aload_n 0, 1) := by decide +kernel
theorem dX12_needsThing_14 : decode cX12_needsThing 14 = .ok (.aload_n 0, 1) := by decide +kernel
theorem dX12_needsThing_15 : decode cX12_needsThing 15 = .ok (.iload_n 1, 1) := by decide +kernel
theorem dX12_needsThing_16 : decode cX12_needsThing 16 = .ok (.invokevirtual 364, 3) := by decide +kernel
theorem dX12_needsThing_19 : decode cX12_needsThing 19 = .ok (.putfield 347, 3) := by decide +kernel
theorem dX12_needsThing_22 : decode cX12_needsThing 22 = .ok (.aload_n 0, 1) := by decide +kernel
theorem dX12_needsThing_23 : decode cX12_needsThing 23 = .ok (.getfield 347, 3) := by decide +kernel
theorem dX12_needsThing_26 : decode cX12_needsThing 26 = .ok (.ifCond .ge 11, 3) := by decide +kernel
theorem dX12_needsThing_29 : decode cX12_needsThing 29 = .ok (.aload_n 0, 1) := by decide +kernel
theorem dX12_needsThing_30 : decode cX12_needsThing 30 = .ok (.iconst 2, 1) := by decide +kernel
theorem dX12_needsThing_31 : decode cX12_needsThing 31 = .ok (.invokevirtual 257, 3) := by decide +kernel
theorem dX12_needsThing_34 : decode cX12_needsThing 34 = .ok (.ifCond .eq 7, 3) := by decide +kernel
theorem dX12_needsThing_37 : decode cX12_needsThing 37 = .ok (.iconst 1, 1) := by decide +kernel
theorem dX12_needsThing_38 : decode cX12_needsThing 38 = .ok (.goto 4, 3) := by decide +kernel
theorem dX12_needsThing_41 : decode cX12_needsThing 41 = .ok (.iconst 0, 1) := by decide +kernel
theorem dX12_needsThing_42 : decode cX12_needsThing 42 = .ok (.ireturn, 1) := by decide +kernel
theorem dX12_isTwice_0 : decode cX12_isTwice 0 = .ok (.aload_n 0, 1) := by decide +kernel
theorem dX12_isTwice_1 : decode cX12_isTwice 1 = .ok (.getfield 370, 3) := by decide +kernel
theorem dX12_isTwice_4 : decode cX12_isTwice 4 = .ok (.iload_n 1, 1) := by decide +kernel
theorem dX12_isTwice_5 : decode cX12_isTwice 5 = .ok (.ishr, 1) := by decide +kernel
theorem dX12_isTwice_6 : decode cX12_isTwice 6 = .ok (.iconst 1, 1) := by decide +kernel
theorem dX12_isTwice_7 : decode cX12_isTwice 7 = .ok (.iand, 1) := by decide +kernel
theorem dX12_isTwice_8 : decode cX12_isTwice 8 = .ok (.iconst 1, 1) := by decide +kernel
theorem dX12_isTwice_9 : decode cX12_isTwice 9 = .ok (.if_icmp .ne 5, 3) := by decide +kernel
theorem dX12_isTwice_12 : decode cX12_isTwice 12 = .ok (.iconst 1, 1) := by decide +kernel
theorem dX12_isTwice_13 : decode cX12_isTwice 13 = .ok (.ireturn, 1) := by decide +kernel
theorem dX12_isTwice_14 : decode cX12_isTwice 14 = .ok (.aload_n 0, 1) := by decide +kernel
theorem dX12_isTwice_15 : decode cX12_isTwice 15 = .ok (.dup, 1) := by decide +kernel
theorem dX12_isTwice_16 : decode cX12_isTwice 16 = .ok (.getfield 370, 3) := by decide +kernel
theorem dX12_isTwice_19 : decode cX12_isTwice 19 = .ok (.iconst 1, 1) := by decide +kernel
theorem dX12_isTwice_20 : decode cX12_isTwice 20 = .ok (.iload_n 1, 1) := by decide +kernel
theorem dX12_isTwice_21 : decode cX12_isTwice 21 = .ok (.ishl, 1) := by decide +kernel
theorem dX12_isTwice_22 : decode cX12_isTwice 22 = .ok (.ior, 1) := by decide +kernel
theorem dX12_isTwice_23 : decode cX12_isTwice 23 = .ok (.putfield 370, 3) := by decide +kernel
theorem dX12_isTwice_26 : decode cX12_isTwice 26 = .ok (.iconst 0, 1) := by decide +kernel
theorem dX12_isTwice_27 : decode cX12_isTwice 27 = .ok (.ireturn, 1) := by decide +kernel
theorem dX12_readsStop_0 : decode cX12_readsStop 0 = .ok (.aload_n 0, 1) := by decide +kernel
theorem dX12_readsStop_1 : decode cX12_readsStop 1 = .ok (.iconst 0, 1) := by decide +kernel
theorem dX12_readsStop_2 : decode cX12_readsStop 2 = .ok (.invokevirtual 373, 3) := by decide +kernel
theorem dX12_readsStop_5 : decode cX12_readsStop 5 = .ok (.ifCond .eq 9, 3) := by decide +kernel
theorem dX12_readsStop_8 : decode cX12_readsStop 8 = .ok (.aload_n 0, 1) := by decide +kernel
theorem dX12_readsStop_9 : decode cX12_readsStop 9 = .ok (.iconst 3, 1) := by decide +kernel
theorem dX12_readsStop_10 : decode cX12_readsStop 10 = .ok (.invokevirtual 257, 3) := by decide +kernel
theorem dX12_readsStop_13 : decode cX12_readsStop 13 = .ok (.ireturn, 1) := by decide +kernel
theorem dX12_readsStop_14 : decode cX12_readsStop 14 = .ok (.aload_n 0, 1) := by decide +kernel
theorem dX12_readsStop_15 : decode cX12_readsStop 15 = .ok (.invokevirtual 263, 3) := by decide +kernel
theorem dX12_readsStop_18 : decode cX12_readsStop 18 = .ok (.aload_n 0, 1) := by decide +kernel
theorem dX12_readsStop_19 : decode cX12_readsStop 19 = .ok (.bipush 60, 2) := by decide +kernel
theorem dX12_readsStop_21 : decode cX12_readsStop 21 = .ok (.sipush 900, 3) := by decide +kernel
theorem dX12_readsStop_24 : decode cX12_readsStop 24 = .ok (.invokevirtual 353, 3) := by decide +kernel
theorem dX12_readsStop_27 : decode cX12_readsStop 27 = .ok (.ifCond .ne 5, 3) := by decide +kernel
theorem dX12_readsStop_30 : decode cX12_readsStop 30 = .ok (.iconst 0, 1) := by decide +kernel
theorem dX12_readsStop_31 : decode cX12_readsStop 31 = .ok (.ireturn, 1) := by decide +kernel
theorem dX12_readsStop_32 : decode cX12_readsStop 32 = .ok (.aload_n 0, 1) := by decide +kernel
theorem dX12_readsStop_33 : decode cX12_readsStop 33 = .ok (.getfield 13, 3) := by decide +kernel
theorem dX12_readsStop_36 : decode cX12_readsStop 36 = .ok (.bipush 13, 2) := by decide +kernel
theorem dX12_readsStop_38 : decode cX12_readsStop 38 = .ok (.aload_n 0, 1) := by decide +kernel
theorem dX12_readsStop_39 : decode cX12_readsStop 39 = .ok (.getfield 347, 3) := by decide +kernel
theorem dX12_readsStop_42 : decode cX12_readsStop 42 = .ok (.iastore, 1) := by decide +kernel
theorem dX12_readsStop_43 : decode cX12_readsStop 43 = .ok (.aload_n 0, 1) := by decide +kernel
theorem dX12_readsStop_44 : decode cX12_readsStop 44 = .ok (.ldc2_w 281, 3) := by decide +kernel
theorem dX12_readsStop_47 : decode cX12_readsStop 47 = .ok (.iconst 1, 1) := by decide +kernel
theorem dX12_readsStop_48 : decode cX12_readsStop 48 = .ok (.aload_n 0, 1) := by decide +kernel
theorem dX12_readsStop_49 : decode cX12_readsStop 49 = .ok (.getfield 347, 3) := by decide +kernel
theorem dX12_readsStop_52 : decode cX12_readsStop 52 = .ok (.invokevirtual 376, 3) := by decide +kernel
theorem dX12_readsStop_55 : decode cX12_readsStop 55 = .ok (.ifCond .ne 5, 3) := by decide +kernel
theorem dX12_readsStop_58 : decode cX12_readsStop 58 = .ok (.iconst 0, 1) := by decide +kernel
theorem dX12_readsStop_59 : decode cX12_readsStop 59 = .ok (.ireturn, 1) := by decide +kernel
theorem dX12_readsStop_60 : decode cX12_readsStop 60 = .ok (.aload_n 0, 1) := by decide +kernel
theorem dX12_readsStop_61 : decode cX12_readsStop 61 = .ok (.getfield 13, 3) := by decide +kernel
theorem dX12_readsStop_64 : decode cX12_readsStop 64 = .ok (.bipush 14, 2) := by decide +kernel
theorem dX12_readsStop_66 : decode cX12_readsStop 66 = .ok (.aload_n 0, 1) := by decide +kernel
theorem dX12_readsStop_67 : decode cX12_readsStop 67 = .ok (.getfield 347, 3) := by decide +kernel
theorem dX12_readsStop_70 : decode cX12_readsStop 70 = .ok (.iastore, 1) := by decide +kernel
theorem dX12_readsStop_71 : decode cX12_readsStop 71 = .ok (.aload_n 0, 1) := by decide +kernel
theorem dX12_readsStop_72 : decode cX12_readsStop 72 = .ok (.invokevirtual 380, 3) := by decide +kernel
theorem dX12_readsStop_75 : decode cX12_readsStop 75 = .ok (.ireturn, 1) := by decide +kernel
theorem dX12_readsCoach_0 : decode cX12_readsCoach 0 = .ok (.bipush 6, 2) := by decide +kernel
theorem dX12_readsCoach_2 : decode cX12_readsCoach 2 = .ok (.aload_n 0, 1) := by decide +kernel
theorem dX12_readsCoach_3 : decode cX12_readsCoach 3 = .ok (.getfield 13, 3) := by decide +kernel
theorem dX12_readsCoach_6 : decode cX12_readsCoach 6 = .ok (.bipush 10, 2) := by decide +kernel
theorem dX12_readsCoach_8 : decode cX12_readsCoach 8 = .ok (.iaload, 1) := by decide +kernel
theorem dX12_readsCoach_9 : decode cX12_readsCoach 9 = .ok (.iadd, 1) := by decide +kernel
theorem dX12_readsCoach_10 : decode cX12_readsCoach 10 = .ok (.istore_n 1, 1) := by decide +kernel
theorem dX12_readsCoach_11 : decode cX12_readsCoach 11 = .ok (.iload_n 1, 1) := by decide +kernel
theorem dX12_readsCoach_12 : decode cX12_readsCoach 12 = .ok (.bipush 12, 2) := by decide +kernel
theorem dX12_readsCoach_14 : decode cX12_readsCoach 14 = .ok (.if_icmp .ne 9, 3) := by decide +kernel
theorem dX12_readsCoach_17 : decode cX12_readsCoach 17 = .ok (.aload_n 0, 1) := by decide +kernel
theorem dX12_readsCoach_18 : decode cX12_readsCoach 18 = .ok (.iconst 5, 1) := by decide +kernel
theorem dX12_readsCoach_19 : decode cX12_readsCoach 19 = .ok (.invokevirtual 257, 3) := by decide +kernel
theorem dX12_readsCoach_22 : decode cX12_readsCoach 22 = .ok (.ireturn, 1) := by decide +kernel
theorem dX12_readsCoach_23 : decode cX12_readsCoach 23 = .ok (.aload_n 0, 1) := by decide +kernel
theorem dX12_readsCoach_24 : decode cX12_readsCoach 24 = .ok (.invokevirtual 263, 3) := by decide +kernel
theorem dX12_readsCoach_27 : decode cX12_readsCoach 27 = .ok (.aload_n 0, 1) := by decide +kernel
theorem dX12_readsCoach_28 : decode cX12_readsCoach 28 = .ok (.invokevirtual 383, 3) := by decide +kernel
theorem dX12_readsCoach_31 : decode cX12_readsCoach 31 = .ok (.ifCond .ne 5, 3) := by decide +kernel
theorem dX12_readsCoach_34 : decode cX12_readsCoach 34 = .ok (.iconst 0, 1) := by decide +kernel
theorem dX12_readsCoach_35 : decode cX12_readsCoach 35 = .ok (.ireturn, 1) := by decide +kernel
theorem dX12_readsCoach_36 : decode cX12_readsCoach 36 = .ok (.aload_n 0, 1) := by decide +kernel
theorem dX12_readsCoach_37 : decode cX12_readsCoach 37 = .ok (.getfield 211, 3) := by decide +kernel
theorem dX12_readsCoach_40 : decode cX12_readsCoach 40 = .ok (.lstore_n 2, 1) := by decide +kernel
theorem dX12_readsCoach_41 : decode cX12_readsCoach 41 = .ok (.aload_n 0, 1) := by decide +kernel
theorem dX12_readsCoach_42 : decode cX12_readsCoach 42 = .ok (.invokevirtual 263, 3) := by decide +kernel
theorem dX12_readsCoach_45 : decode cX12_readsCoach 45 = .ok (.aload_n 0, 1) := by decide +kernel
theorem dX12_readsCoach_46 : decode cX12_readsCoach 46 = .ok (.ldc2_w 285, 3) := by decide +kernel
theorem dX12_readsCoach_49 : decode cX12_readsCoach 49 = .ok (.iconst 0, 1) := by decide +kernel
theorem dX12_readsCoach_50 : decode cX12_readsCoach 50 = .ok (.sipush 200, 3) := by decide +kernel
theorem dX12_readsCoach_53 : decode cX12_readsCoach 53 = .ok (.invokevirtual 376, 3) := by decide +kernel
theorem dX12_readsCoach_56 : decode cX12_readsCoach 56 = .ok (.ifCond .ne 5, 3) := by decide +kernel
theorem dX12_readsCoach_59 : decode cX12_readsCoach 59 = .ok (.iconst 0, 1) := by decide +kernel
theorem dX12_readsCoach_60 : decode cX12_readsCoach 60 = .ok (.ireturn, 1) := by decide +kernel
theorem dX12_readsCoach_61 : decode cX12_readsCoach 61 = .ok (.aload_n 0, 1) := by decide +kernel
theorem dX12_readsCoach_62 : decode cX12_readsCoach 62 = .ok (.getfield 26, 3) := by decide +kernel
theorem dX12_readsCoach_65 : decode cX12_readsCoach 65 = .ok (.iload_n 1, 1) := by decide +kernel
theorem dX12_readsCoach_66 : decode cX12_readsCoach 66 = .ok (.aload_n 0, 1) := by decide +kernel
theorem dX12_readsCoach_67 : decode cX12_readsCoach 67 = .ok (.getfield 347, 3) := by decide +kernel
theorem dX12_readsCoach_70 : decode cX12_readsCoach 70 = .ok (.iastore, 1) := by decide +kernel
theorem dX12_readsCoach_71 : decode cX12_readsCoach 71 = .ok (.aload_n 0, 1) := by decide +kernel
theorem dX12_readsCoach_72 : decode cX12_readsCoach 72 = .ok (.getfield 16, 3) := by decide +kernel
theorem dX12_readsCoach_75 : decode cX12_readsCoach 75 = .ok (.iload_n 1, 1) := by decide +kernel
theorem dX12_readsCoach_76 : decode cX12_readsCoach 76 = .ok (.lload_n 2, 1) := by decide +kernel
theorem dX12_readsCoach_77 : decode cX12_readsCoach 77 = .ok (.lastore, 1) := by decide +kernel
theorem dX12_readsCoach_78 : decode cX12_readsCoach 78 = .ok (.aload_n 0, 1) := by decide +kernel
theorem dX12_readsCoach_79 : decode cX12_readsCoach 79 = .ok (.getfield 13, 3) := by decide +kernel
theorem dX12_readsCoach_82 : decode cX12_readsCoach 82 = .ok (.bipush 10, 2) := by decide +kernel
theorem dX12_readsCoach_84 : decode cX12_readsCoach 84 = .ok (.dup2, 1) := by decide +kernel
theorem dX12_readsCoach_85 : decode cX12_readsCoach 85 = .ok (.iaload, 1) := by decide +kernel
theorem dX12_readsCoach_86 : decode cX12_readsCoach 86 = .ok (.iconst 1, 1) := by decide +kernel
theorem dX12_readsCoach_87 : decode cX12_readsCoach 87 = .ok (.iadd, 1) := by decide +kernel
theorem dX12_readsCoach_88 : decode cX12_readsCoach 88 = .ok (.iastore, 1) := by decide +kernel
theorem dX12_readsCoach_89 : decode cX12_readsCoach 89 = .ok (.aload_n 0, 1) := by decide +kernel
theorem dX12_readsCoach_90 : decode cX12_readsCoach 90 = .ok (.invokevirtual 380, 3) := by decide +kernel
theorem dX12_readsCoach_93 : decode cX12_readsCoach 93 = .ok (.ireturn, 1) := by decide +kernel
theorem dX12_readsThing_0 : decode cX12_readsThing 0 = .ok (.iconst 5, 1) := by decide +kernel
theorem dX12_readsThing_1 : decode cX12_readsThing 1 = .ok (.aload_n 0, 1) := by decide +kernel
theorem dX12_readsThing_2 : decode cX12_readsThing 2 = .ok (.getfield 13, 3) := by decide +kernel
theorem dX12_readsThing_5 : decode cX12_readsThing 5 = .ok (.bipush 11, 2) := by decide +kernel
theorem dX12_readsThing_7 : decode cX12_readsThing 7 = .ok (.iaload, 1) := by decide +kernel
theorem dX12_readsThing_8 : decode cX12_readsThing 8 = .ok (.iadd, 1) := by decide +kernel
theorem dX12_readsThing_9 : decode cX12_readsThing 9 = .ok (.istore_n 1, 1) := by decide +kernel
theorem dX12_readsThing_10 : decode cX12_readsThing 10 = .ok (.iload_n 1, 1) := by decide +kernel
theorem dX12_readsThing_11 : decode cX12_readsThing 11 = .ok (.bipush 10, 2) := by decide +kernel
theorem dX12_readsThing_13 : decode cX12_readsThing 13 = .ok (.if_icmp .ne 9, 3) := by decide +kernel
theorem dX12_readsThing_16 : decode cX12_readsThing 16 = .ok (.aload_n 0, 1) := by decide +kernel
theorem dX12_readsThing_17 : decode cX12_readsThing 17 = .ok (.iconst 5, 1) := by decide +kernel
theorem dX12_readsThing_18 : decode cX12_readsThing 18 = .ok (.invokevirtual 257, 3) := by decide +kernel
theorem dX12_readsThing_21 : decode cX12_readsThing 21 = .ok (.ireturn, 1) := by decide +kernel
theorem dX12_readsThing_22 : decode cX12_readsThing 22 = .ok (.aload_n 0, 1) := by decide +kernel
theorem dX12_readsThing_23 : decode cX12_readsThing 23 = .ok (.invokevirtual 263, 3) := by decide +kernel
theorem dX12_readsThing_26 : decode cX12_readsThing 26 = .ok (.aload_n 0, 1) := by decide +kernel
theorem dX12_readsThing_27 : decode cX12_readsThing 27 = .ok (.invokevirtual 383, 3) := by decide +kernel
theorem dX12_readsThing_30 : decode cX12_readsThing 30 = .ok (.ifCond .ne 5, 3) := by decide +kernel
theorem dX12_readsThing_33 : decode cX12_readsThing 33 = .ok (.iconst 0, 1) := by decide +kernel
theorem dX12_readsThing_34 : decode cX12_readsThing 34 = .ok (.ireturn, 1) := by decide +kernel
theorem dX12_readsThing_35 : decode cX12_readsThing 35 = .ok (.aload_n 0, 1) := by decide +kernel
theorem dX12_readsThing_36 : decode cX12_readsThing 36 = .ok (.getfield 211, 3) := by decide +kernel
theorem dX12_readsThing_39 : decode cX12_readsThing 39 = .ok (.lstore_n 2, 1) := by decide +kernel
theorem dX12_readsThing_40 : decode cX12_readsThing 40 = .ok (.aload_n 0, 1) := by decide +kernel
theorem dX12_readsThing_41 : decode cX12_readsThing 41 = .ok (.invokevirtual 263, 3) := by decide +kernel
theorem dX12_readsThing_44 : decode cX12_readsThing 44 = .ok (.aload_n 0, 1) := by decide +kernel
theorem dX12_readsThing_45 : decode cX12_readsThing 45 = .ok (.getfield 29, 3) := by decide +kernel
theorem dX12_readsThing_48 : decode cX12_readsThing 48 = .ok (.iload_n 1, 1) := by decide +kernel
theorem dX12_readsThing_49 : decode cX12_readsThing 49 = .ok (.aload_n 0, 1) := by decide +kernel
theorem dX12_readsThing_50 : decode cX12_readsThing 50 = .ok (.ldc2_w 327, 3) := by decide +kernel
theorem dX12_readsThing_53 : decode cX12_readsThing 53 = .ok (.invokevirtual 249, 3) := by decide +kernel
theorem dX12_readsThing_56 : decode cX12_readsThing 56 = .ok (.ifCond .eq 7, 3) := by decide +kernel
theorem dX12_readsThing_59 : decode cX12_readsThing 59 = .ok (.iconst 0, 1) := by decide +kernel
theorem dX12_readsThing_60 : decode cX12_readsThing 60 = .ok (.goto 32, 3) := by decide +kernel
theorem dX12_readsThing_63 : decode cX12_readsThing 63 = .ok (.aload_n 0, 1) := by decide +kernel
theorem dX12_readsThing_64 : decode cX12_readsThing 64 = .ok (.ldc2_w 329, 3) := by decide +kernel
theorem dX12_readsThing_67 : decode cX12_readsThing 67 = .ok (.invokevirtual 249, 3) := by decide +kernel
theorem dX12_readsThing_70 : decode cX12_readsThing 70 = .ok (.ifCond .eq 7, 3) := by decide +kernel
theorem dX12_readsThing_73 : decode cX12_readsThing 73 = .ok (.iconst 1, 1) := by decide +kernel
theorem dX12_readsThing_74 : decode cX12_readsThing 74 = .ok (.goto 18, 3) := by decide +kernel
theorem dX12_readsThing_77 : decode cX12_readsThing 77 = .ok (.aload_n 0, 1) := by decide +kernel
theorem dX12_readsThing_78 : decode cX12_readsThing 78 = .ok (.ldc2_w 331, 3) := by decide +kernel
theorem dX12_readsThing_81 : decode cX12_readsThing 81 = .ok (.invokevirtual 249, 3) := by decide +kernel
theorem dX12_readsThing_84 : decode cX12_readsThing 84 = .ok (.ifCond .eq 7, 3) := by decide +kernel
theorem dX12_readsThing_87 : decode cX12_readsThing 87 = .ok (.iconst 2, 1) := by decide +kernel
theorem dX12_readsThing_88 : decode cX12_readsThing 88 = .ok (.goto 4, 3) := by decide +kernel
theorem dX12_readsThing_91 : decode cX12_readsThing 91 = .ok (.iconst (-1), 1) := by decide +kernel
theorem dX12_readsThing_92 : decode cX12_readsThing 92 = .ok (.iastore, 1) := by decide +kernel
theorem dX12_readsThing_93 : decode cX12_readsThing 93 = .ok (.aload_n 0, 1) := by decide +kernel
theorem dX12_readsThing_94 : decode cX12_readsThing 94 = .ok (.getfield 29, 3) := by decide +kernel
theorem dX12_readsThing_97 : decode cX12_readsThing 97 = .ok (.iload_n 1, 1) := by decide +kernel
theorem dX12_readsThing_98 : decode cX12_readsThing 98 = .ok (.iaload, 1) := by decide +kernel
theorem dX12_readsThing_99 : decode cX12_readsThing 99 = .ok (.ifCond .ge 9, 3) := by decide +kernel
theorem dX12_readsThing_102 : decode cX12_readsThing 102 = .ok (.aload_n 0, 1) := by decide +kernel
theorem dX12_readsThing_103 : decode cX12_readsThing 103 = .ok (.iconst 1, 1) := by decide +kernel
theorem dX12_readsThing_104 : decode cX12_readsThing 104 = .ok (.invokevirtual 257, 3) := by decide +kernel
theorem dX12_readsThing_107 : decode cX12_readsThing 107 = .ok (.ireturn, 1) := by decide +kernel
theorem dX12_readsThing_108 : decode cX12_readsThing 108 = .ok (.aload_n 0, 1) := by decide +kernel
theorem dX12_readsThing_109 : decode cX12_readsThing 109 = .ok (.invokevirtual 263, 3) := by decide +kernel
theorem dX12_readsThing_112 : decode cX12_readsThing 112 = .ok (.aload_n 0, 1) := by decide +kernel
theorem dX12_readsThing_113 : decode cX12_readsThing 113 = .ok (.ldc2_w 289, 3) := by decide +kernel
theorem dX12_readsThing_116 : decode cX12_readsThing 116 = .ok (.iconst 1, 1) := by decide +kernel
theorem dX12_readsThing_117 : decode cX12_readsThing 117 = .ok (.bipush 60, 2) := by decide +kernel
theorem dX12_readsThing_119 : decode cX12_readsThing 119 = .ok (.invokevirtual 376, 3) := by decide +kernel
theorem dX12_readsThing_122 : decode cX12_readsThing 122 = .ok (.ifCond .ne 5, 3) := by decide +kernel
theorem dX12_readsThing_125 : decode cX12_readsThing 125 = .ok (.iconst 0, 1) := by decide +kernel
theorem dX12_readsThing_126 : decode cX12_readsThing 126 = .ok (.ireturn, 1) := by decide +kernel
theorem dX12_readsThing_127 : decode cX12_readsThing 127 = .ok (.aload_n 0, 1) := by decide +kernel
theorem dX12_readsThing_128 : decode cX12_readsThing 128 = .ok (.getfield 32, 3) := by decide +kernel
theorem dX12_readsThing_131 : decode cX12_readsThing 131 = .ok (.iload_n 1, 1) := by decide +kernel
theorem dX12_readsThing_132 : decode cX12_readsThing 132 = .ok (.aload_n 0, 1) := by decide +kernel
theorem dX12_readsThing_133 : decode cX12_readsThing 133 = .ok (.getfield 347, 3) := by decide +kernel
theorem dX12_readsThing_136 : decode cX12_readsThing 136 = .ok (.iastore, 1) := by decide +kernel
theorem dX12_readsThing_137 : decode cX12_readsThing 137 = .ok (.aload_n 0, 1) := by decide +kernel
theorem dX12_readsThing_138 : decode cX12_readsThing 138 = .ok (.ldc2_w 291, 3) := by decide +kernel
theorem dX12_readsThing_141 : decode cX12_readsThing 141 = .ok (.iconst 1, 1) := by decide +kernel
theorem dX12_readsThing_142 : decode cX12_readsThing 142 = .ok (.bipush 99, 2) := by decide +kernel
theorem dX12_readsThing_144 : decode cX12_readsThing 144 = .ok (.invokevirtual 376, 3) := by decide +kernel
theorem dX12_readsThing_147 : decode cX12_readsThing 147 = .ok (.ifCond .ne 5, 3) := by decide +kernel
theorem dX12_readsThing_150 : decode cX12_readsThing 150 = .ok (.iconst 0, 1) := by decide +kernel
theorem dX12_readsThing_151 : decode cX12_readsThing 151 = .ok (.ireturn, 1) := by decide +kernel
theorem dX12_readsThing_152 : decode cX12_readsThing 152 = .ok (.aload_n 0, 1) := by decide +kernel
theorem dX12_readsThing_153 : decode cX12_readsThing 153 = .ok (.getfield 35, 3) := by decide +kernel
theorem dX12_readsThing_156 : decode cX12_readsThing 156 = .ok (.iload_n 1, 1) := by decide +kernel
theorem dX12_readsThing_157 : decode cX12_readsThing 157 = .ok (.aload_n 0, 1) := by decide +kernel
theorem dX12_readsThing_158 : decode cX12_readsThing 158 = .ok (.getfield 347, 3) := by decide +kernel
theorem dX12_readsThing_161 : decode cX12_readsThing 161 = .ok (.iastore, 1) := by decide +kernel
theorem dX12_readsThing_162 : decode cX12_readsThing 162 = .ok (.aload_n 0, 1) := by decide +kernel
theorem dX12_readsThing_163 : decode cX12_readsThing 163 = .ok (.ldc2_w 293, 3) := by decide +kernel
theorem dX12_readsThing_166 : decode cX12_readsThing 166 = .ok (.iconst 0, 1) := by decide +kernel
theorem dX12_readsThing_167 : decode cX12_readsThing 167 = .ok (.bipush 99, 2) := by decide +kernel
theorem dX12_readsThing_169 : decode cX12_readsThing 169 = .ok (.invokevirtual 376, 3) := by decide +kernel
theorem dX12_readsThing_172 : decode cX12_readsThing 172 = .ok (.ifCond .ne 5, 3) := by decide +kernel
theorem dX12_readsThing_175 : decode cX12_readsThing 175 = .ok (.iconst 0, 1) := by decide +kernel
theorem dX12_readsThing_176 : decode cX12_readsThing 176 = .ok (.ireturn, 1) := by decide +kernel
theorem dX12_readsThing_177 : decode cX12_readsThing 177 = .ok (.aload_n 0, 1) := by decide +kernel
theorem dX12_readsThing_178 : decode cX12_readsThing 178 = .ok (.getfield 38, 3) := by decide +kernel
theorem dX12_readsThing_181 : decode cX12_readsThing 181 = .ok (.iload_n 1, 1) := by decide +kernel
theorem dX12_readsThing_182 : decode cX12_readsThing 182 = .ok (.aload_n 0, 1) := by decide +kernel
theorem dX12_readsThing_183 : decode cX12_readsThing 183 = .ok (.getfield 347, 3) := by decide +kernel
theorem dX12_readsThing_186 : decode cX12_readsThing 186 = .ok (.iastore, 1) := by decide +kernel
theorem dX12_readsThing_187 : decode cX12_readsThing 187 = .ok (.aload_n 0, 1) := by decide +kernel
theorem dX12_readsThing_188 : decode cX12_readsThing 188 = .ok (.ldc2_w 295, 3) := by decide +kernel
theorem dX12_readsThing_191 : decode cX12_readsThing 191 = .ok (.iconst 0, 1) := by decide +kernel
theorem dX12_readsThing_192 : decode cX12_readsThing 192 = .ok (.bipush 20, 2) := by decide +kernel
theorem dX12_readsThing_194 : decode cX12_readsThing 194 = .ok (.invokevirtual 376, 3) := by decide +kernel
theorem dX12_readsThing_197 : decode cX12_readsThing 197 = .ok (.ifCond .ne 5, 3) := by decide +kernel
theorem dX12_readsThing_200 : decode cX12_readsThing 200 = .ok (.iconst 0, 1) := by decide +kernel
theorem dX12_readsThing_201 : decode cX12_readsThing 201 = .ok (.ireturn, 1) := by decide +kernel
theorem dX12_readsThing_202 : decode cX12_readsThing 202 = .ok (.aload_n 0, 1) := by decide +kernel
theorem dX12_readsThing_203 : decode cX12_readsThing 203 = .ok (.getfield 41, 3) := by decide +kernel
theorem dX12_readsThing_206 : decode cX12_readsThing 206 = .ok (.iload_n 1, 1) := by decide +kernel
theorem dX12_readsThing_207 : decode cX12_readsThing 207 = .ok (.aload_n 0, 1) := by decide +kernel
theorem dX12_readsThing_208 : decode cX12_readsThing 208 = .ok (.getfield 347, 3) := by decide +kernel
theorem dX12_readsThing_211 : decode cX12_readsThing 211 = .ok (.iastore, 1) := by decide +kernel
theorem dX12_readsThing_212 : decode cX12_readsThing 212 = .ok (.aload_n 0, 1) := by decide +kernel
theorem dX12_readsThing_213 : decode cX12_readsThing 213 = .ok (.getfield 20, 3) := by decide +kernel
theorem dX12_readsThing_216 : decode cX12_readsThing 216 = .ok (.iload_n 1, 1) := by decide +kernel
theorem dX12_readsThing_217 : decode cX12_readsThing 217 = .ok (.lload_n 2, 1) := by decide +kernel
theorem dX12_readsThing_218 : decode cX12_readsThing 218 = .ok (.lastore, 1) := by decide +kernel
theorem dX12_readsThing_219 : decode cX12_readsThing 219 = .ok (.aload_n 0, 1) := by decide +kernel
theorem dX12_readsThing_220 : decode cX12_readsThing 220 = .ok (.getfield 13, 3) := by decide +kernel
theorem dX12_readsThing_223 : decode cX12_readsThing 223 = .ok (.bipush 11, 2) := by decide +kernel
theorem dX12_readsThing_225 : decode cX12_readsThing 225 = .ok (.dup2, 1) := by decide +kernel
theorem dX12_readsThing_226 : decode cX12_readsThing 226 = .ok (.iaload, 1) := by decide +kernel
theorem dX12_readsThing_227 : decode cX12_readsThing 227 = .ok (.iconst 1, 1) := by decide +kernel
theorem dX12_readsThing_228 : decode cX12_readsThing 228 = .ok (.iadd, 1) := by decide +kernel
theorem dX12_readsThing_229 : decode cX12_readsThing 229 = .ok (.iastore, 1) := by decide +kernel
theorem dX12_readsThing_230 : decode cX12_readsThing 230 = .ok (.aload_n 0, 1) := by decide +kernel
theorem dX12_readsThing_231 : decode cX12_readsThing 231 = .ok (.invokevirtual 380, 3) := by decide +kernel
theorem dX12_readsThing_234 : decode cX12_readsThing 234 = .ok (.ireturn, 1) := by decide +kernel
theorem dX12_readsWants_0 : decode cX12_readsWants 0 = .ok (.iconst 0, 1) := by decide +kernel
theorem dX12_readsWants_1 : decode cX12_readsWants 1 = .ok (.istore_n 2, 1) := by decide +kernel
theorem dX12_readsWants_2 : decode cX12_readsWants 2 = .ok (.aload_n 0, 1) := by decide +kernel
theorem dX12_readsWants_3 : decode cX12_readsWants 3 = .ok (.getfield 59, 3) := by decide +kernel
theorem dX12_readsWants_6 : decode cX12_readsWants 6 = .ok (.iload_n 1, 1) := by decide +kernel
theorem dX12_readsWants_7 : decode cX12_readsWants 7 = .ok (.iconst 0, 1) := by decide +kernel
theorem dX12_readsWants_8 : decode cX12_readsWants 8 = .ok (.iastore, 1) := by decide +kernel
theorem dX12_readsWants_9 : decode cX12_readsWants 9 = .ok (.aload_n 0, 1) := by decide +kernel
theorem dX12_readsWants_10 : decode cX12_readsWants 10 = .ok (.getfield 59, 3) := by decide +kernel
theorem dX12_readsWants_13 : decode cX12_readsWants 13 = .ok (.iload_n 1, 1) := by decide +kernel
theorem dX12_readsWants_14 : decode cX12_readsWants 14 = .ok (.iaload, 1) := by decide +kernel
theorem dX12_readsWants_15 : decode cX12_readsWants 15 = .ok (.ifCond .eq 12, 3) := by decide +kernel
theorem dX12_readsWants_18 : decode cX12_readsWants 18 = .ok (.aload_n 0, 1) := by decide +kernel
theorem dX12_readsWants_19 : decode cX12_readsWants 19 = .ok (.bipush 59, 2) := by decide +kernel
theorem dX12_readsWants_21 : decode cX12_readsWants 21 = .ok (.invokevirtual 253, 3) := by decide +kernel
theorem dX12_readsWants_24 : decode cX12_readsWants 24 = .ok (.ifCond .ne 92, 3) := by decide +kernel
theorem dX12_readsWants_27 : decode cX12_readsWants 27 = .ok (.aload_n 0, 1) := by decide +kernel
theorem dX12_readsWants_28 : decode cX12_readsWants 28 = .ok (.iconst 1, 1) := by decide +kernel
theorem dX12_readsWants_29 : decode cX12_readsWants 29 = .ok (.invokevirtual 386, 3) := by decide +kernel
theorem dX12_readsWants_32 : decode cX12_readsWants 32 = .ok (.ifCond .ne 5, 3) := by decide +kernel
theorem dX12_readsWants_35 : decode cX12_readsWants 35 = .ok (.iconst 0, 1) := by decide +kernel
theorem dX12_readsWants_36 : decode cX12_readsWants 36 = .ok (.ireturn, 1) := by decide +kernel
theorem dX12_readsWants_37 : decode cX12_readsWants 37 = .ok (.iload_n 2, 1) := by decide +kernel
theorem dX12_readsWants_38 : decode cX12_readsWants 38 = .ok (.aload_n 0, 1) := by decide +kernel
theorem dX12_readsWants_39 : decode cX12_readsWants 39 = .ok (.getfield 347, 3) := by decide +kernel
theorem dX12_readsWants_42 : decode cX12_readsWants 42 = .ok (.ishr, 1) := by decide +kernel
theorem dX12_readsWants_43 : decode cX12_readsWants 43 = .ok (.iconst 1, 1) := by decide +kernel
theorem dX12_readsWants_44 : decode cX12_readsWants 44 = .ok (.iand, 1) := by decide +kernel
theorem dX12_readsWants_45 : decode cX12_readsWants 45 = .ok (.iconst 1, 1) := by decide +kernel
theorem dX12_readsWants_46 : decode cX12_readsWants 46 = .ok (.if_icmp .ne 9, 3) := by decide +kernel
theorem dX12_readsWants_49 : decode cX12_readsWants 49 = .ok (.aload_n 0, 1) := by decide +kernel
theorem dX12_readsWants_50 : decode cX12_readsWants 50 = .ok (.iconst 3, 1) := by decide +kernel
theorem dX12_readsWants_51 : decode cX12_readsWants 51 = .ok (.invokevirtual 257, 3) := by decide +kernel
theorem dX12_readsWants_54 : decode cX12_readsWants 54 = .ok (.ireturn, 1) := by decide +kernel
theorem dX12_readsWants_55 : decode cX12_readsWants 55 = .ok (.aload_n 0, 1) := by decide +kernel
theorem dX12_readsWants_56 : decode cX12_readsWants 56 = .ok (.getfield 59, 3) := by decide +kernel
theorem dX12_readsWants_59 : decode cX12_readsWants 59 = .ok (.iload_n 1, 1) := by decide +kernel
theorem dX12_readsWants_60 : decode cX12_readsWants 60 = .ok (.iaload, 1) := by decide +kernel
theorem dX12_readsWants_61 : decode cX12_readsWants 61 = .ok (.iconst 3, 1) := by decide +kernel
theorem dX12_readsWants_62 : decode cX12_readsWants 62 = .ok (.if_icmp .ne 9, 3) := by decide +kernel
theorem dX12_readsWants_65 : decode cX12_readsWants 65 = .ok (.aload_n 0, 1) := by decide +kernel
theorem dX12_readsWants_66 : decode cX12_readsWants 66 = .ok (.iconst 5, 1) := by decide +kernel
theorem dX12_readsWants_67 : decode cX12_readsWants 67 = .ok (.invokevirtual 257, 3) := by decide +kernel
theorem dX12_readsWants_70 : decode cX12_readsWants 70 = .ok (.ireturn, 1) := by decide +kernel
theorem dX12_readsWants_71 : decode cX12_readsWants 71 = .ok (.iload_n 2, 1) := by decide +kernel
theorem dX12_readsWants_72 : decode cX12_readsWants 72 = .ok (.iconst 1, 1) := by decide +kernel
theorem dX12_readsWants_73 : decode cX12_readsWants 73 = .ok (.aload_n 0, 1) := by decide +kernel
theorem dX12_readsWants_74 : decode cX12_readsWants 74 = .ok (.getfield 347, 3) := by decide +kernel
theorem dX12_readsWants_77 : decode cX12_readsWants 77 = .ok (.ishl, 1) := by decide +kernel
theorem dX12_readsWants_78 : decode cX12_readsWants 78 = .ok (.ior, 1) := by decide +kernel
theorem dX12_readsWants_79 : decode cX12_readsWants 79 = .ok (.istore_n 2, 1) := by decide +kernel
theorem dX12_readsWants_80 : decode cX12_readsWants 80 = .ok (.aload_n 0, 1) := by decide +kernel
theorem dX12_readsWants_81 : decode cX12_readsWants 81 = .ok (.getfield 56, 3) := by decide +kernel
theorem dX12_readsWants_84 : decode cX12_readsWants 84 = .ok (.iconst 3, 1) := by decide +kernel
theorem dX12_readsWants_85 : decode cX12_readsWants 85 = .ok (.iload_n 1, 1) := by decide +kernel
theorem dX12_readsWants_86 : decode cX12_readsWants 86 = .ok (.imul, 1) := by decide +kernel
theorem dX12_readsWants_87 : decode cX12_readsWants 87 = .ok (.aload_n 0, 1) := by decide +kernel
theorem dX12_readsWants_88 : decode cX12_readsWants 88 = .ok (.getfield 59, 3) := by decide +kernel
theorem dX12_readsWants_91 : decode cX12_readsWants 91 = .ok (.iload_n 1, 1) := by decide +kernel
theorem dX12_readsWants_92 : decode cX12_readsWants 92 = .ok (.iaload, 1) := by decide +kernel
theorem dX12_readsWants_93 : decode cX12_readsWants 93 = .ok (.iadd, 1) := by decide +kernel
theorem dX12_readsWants_94 : decode cX12_readsWants 94 = .ok (.aload_n 0, 1) := by decide +kernel
theorem dX12_readsWants_95 : decode cX12_readsWants 95 = .ok (.getfield 347, 3) := by decide +kernel
theorem dX12_readsWants_98 : decode cX12_readsWants 98 = .ok (.iastore, 1) := by decide +kernel
theorem dX12_readsWants_99 : decode cX12_readsWants 99 = .ok (.aload_n 0, 1) := by decide +kernel
theorem dX12_readsWants_100 : decode cX12_readsWants 100 = .ok (.getfield 59, 3) := by decide +kernel
theorem dX12_readsWants_103 : decode cX12_readsWants 103 = .ok (.iload_n 1, 1) := by decide +kernel
theorem dX12_readsWants_104 : decode cX12_readsWants 104 = .ok (.dup2, 1) := by decide +kernel
theorem dX12_readsWants_105 : decode cX12_readsWants 105 = .ok (.iaload, 1) := by decide +kernel
theorem dX12_readsWants_106 : decode cX12_readsWants 106 = .ok (.iconst 1, 1) := by decide +kernel
theorem dX12_readsWants_107 : decode cX12_readsWants 107 = .ok (.iadd, 1) := by decide +kernel
theorem dX12_readsWants_108 : decode cX12_readsWants 108 = .ok (.iastore, 1) := by decide +kernel
theorem dX12_readsWants_109 : decode cX12_readsWants 109 = .ok (.aload_n 0, 1) := by decide +kernel
theorem dX12_readsWants_110 : decode cX12_readsWants 110 = .ok (.invokevirtual 263, 3) := by decide +kernel
theorem dX12_readsWants_113 : decode cX12_readsWants 113 = .ok (.goto (-104), 3) := by decide +kernel
theorem dX12_readsWants_116 : decode cX12_readsWants 116 = .ok (.iconst 1, 1) := by decide +kernel
theorem dX12_readsWants_117 : decode cX12_readsWants 117 = .ok (.ireturn, 1) := by decide +kernel
theorem dX12_readsBuyer_0 : decode cX12_readsBuyer 0 = .ok (.bipush 6, 2) := by decide +kernel
theorem dX12_readsBuyer_2 : decode cX12_readsBuyer 2 = .ok (.aload_n 0, 1) := by decide +kernel
theorem dX12_readsBuyer_3 : decode cX12_readsBuyer 3 = .ok (.getfield 13, 3) := by decide +kernel
theorem dX12_readsBuyer_6 : decode cX12_readsBuyer 6 = .ok (.bipush 12, 2) := by decide +kernel
theorem dX12_readsBuyer_8 : decode cX12_readsBuyer 8 = .ok (.iaload, 1) := by decide +kernel
theorem dX12_readsBuyer_9 : decode cX12_readsBuyer 9 = .ok (.iadd, 1) := by decide +kernel
theorem dX12_readsBuyer_10 : decode cX12_readsBuyer 10 = .ok (.istore_n 1, 1) := by decide +kernel
theorem dX12_readsBuyer_11 : decode cX12_readsBuyer 11 = .ok (.iload_n 1, 1) := by decide +kernel
theorem dX12_readsBuyer_12 : decode cX12_readsBuyer 12 = .ok (.bipush 12, 2) := by decide +kernel
theorem dX12_readsBuyer_14 : decode cX12_readsBuyer 14 = .ok (.if_icmp .ne 9, 3) := by decide +kernel
theorem dX12_readsBuyer_17 : decode cX12_readsBuyer 17 = .ok (.aload_n 0, 1) := by decide +kernel
theorem dX12_readsBuyer_18 : decode cX12_readsBuyer 18 = .ok (.iconst 5, 1) := by decide +kernel
theorem dX12_readsBuyer_19 : decode cX12_readsBuyer 19 = .ok (.invokevirtual 257, 3) := by decide +kernel
theorem dX12_readsBuyer_22 : decode cX12_readsBuyer 22 = .ok (.ireturn, 1) := by decide +kernel
theorem dX12_readsBuyer_23 : decode cX12_readsBuyer 23 = .ok (.aload_n 0, 1) := by decide +kernel
theorem dX12_readsBuyer_24 : decode cX12_readsBuyer 24 = .ok (.invokevirtual 263, 3) := by decide +kernel
theorem dX12_readsBuyer_27 : decode cX12_readsBuyer 27 = .ok (.aload_n 0, 1) := by decide +kernel
theorem dX12_readsBuyer_28 : decode cX12_readsBuyer 28 = .ok (.invokevirtual 383, 3) := by decide +kernel
theorem dX12_readsBuyer_31 : decode cX12_readsBuyer 31 = .ok (.ifCond .ne 5, 3) := by decide +kernel
theorem dX12_readsBuyer_34 : decode cX12_readsBuyer 34 = .ok (.iconst 0, 1) := by decide +kernel
theorem dX12_readsBuyer_35 : decode cX12_readsBuyer 35 = .ok (.ireturn, 1) := by decide +kernel
theorem dX12_readsBuyer_36 : decode cX12_readsBuyer 36 = .ok (.aload_n 0, 1) := by decide +kernel
theorem dX12_readsBuyer_37 : decode cX12_readsBuyer 37 = .ok (.getfield 211, 3) := by decide +kernel
theorem dX12_readsBuyer_40 : decode cX12_readsBuyer 40 = .ok (.lstore_n 2, 1) := by decide +kernel
theorem dX12_readsBuyer_41 : decode cX12_readsBuyer 41 = .ok (.aload_n 0, 1) := by decide +kernel
theorem dX12_readsBuyer_42 : decode cX12_readsBuyer 42 = .ok (.invokevirtual 263, 3) := by decide +kernel
theorem dX12_readsBuyer_45 : decode cX12_readsBuyer 45 = .ok (.aload_n 0, 1) := by decide +kernel
theorem dX12_readsBuyer_46 : decode cX12_readsBuyer 46 = .ok (.getfield 44, 3) := by decide +kernel
theorem dX12_readsBuyer_49 : decode cX12_readsBuyer 49 = .ok (.iload_n 1, 1) := by decide +kernel
theorem dX12_readsBuyer_50 : decode cX12_readsBuyer 50 = .ok (.aload_n 0, 1) := by decide +kernel
theorem dX12_readsBuyer_51 : decode cX12_readsBuyer 51 = .ok (.ldc2_w 333, 3) := by decide +kernel
theorem dX12_readsBuyer_54 : decode cX12_readsBuyer 54 = .ok (.invokevirtual 249, 3) := by decide +kernel
theorem dX12_readsBuyer_57 : decode cX12_readsBuyer 57 = .ok (.ifCond .eq 7, 3) := by decide +kernel
theorem dX12_readsBuyer_60 : decode cX12_readsBuyer 60 = .ok (.iconst 0, 1) := by decide +kernel
theorem dX12_readsBuyer_61 : decode cX12_readsBuyer 61 = .ok (.goto 32, 3) := by decide +kernel
theorem dX12_readsBuyer_64 : decode cX12_readsBuyer 64 = .ok (.aload_n 0, 1) := by decide +kernel
theorem dX12_readsBuyer_65 : decode cX12_readsBuyer 65 = .ok (.ldc2_w 335, 3) := by decide +kernel
theorem dX12_readsBuyer_68 : decode cX12_readsBuyer 68 = .ok (.invokevirtual 249, 3) := by decide +kernel
theorem dX12_readsBuyer_71 : decode cX12_readsBuyer 71 = .ok (.ifCond .eq 7, 3) := by decide +kernel
theorem dX12_readsBuyer_74 : decode cX12_readsBuyer 74 = .ok (.iconst 1, 1) := by decide +kernel
theorem dX12_readsBuyer_75 : decode cX12_readsBuyer 75 = .ok (.goto 18, 3) := by decide +kernel
theorem dX12_readsBuyer_78 : decode cX12_readsBuyer 78 = .ok (.aload_n 0, 1) := by decide +kernel
theorem dX12_readsBuyer_79 : decode cX12_readsBuyer 79 = .ok (.ldc2_w 337, 3) := by decide +kernel
theorem dX12_readsBuyer_82 : decode cX12_readsBuyer 82 = .ok (.invokevirtual 249, 3) := by decide +kernel
theorem dX12_readsBuyer_85 : decode cX12_readsBuyer 85 = .ok (.ifCond .eq 7, 3) := by decide +kernel
theorem dX12_readsBuyer_88 : decode cX12_readsBuyer 88 = .ok (.iconst 2, 1) := by decide +kernel
theorem dX12_readsBuyer_89 : decode cX12_readsBuyer 89 = .ok (.goto 4, 3) := by decide +kernel
theorem dX12_readsBuyer_92 : decode cX12_readsBuyer 92 = .ok (.iconst (-1), 1) := by decide +kernel
theorem dX12_readsBuyer_93 : decode cX12_readsBuyer 93 = .ok (.iastore, 1) := by decide +kernel
theorem dX12_readsBuyer_94 : decode cX12_readsBuyer 94 = .ok (.aload_n 0, 1) := by decide +kernel
theorem dX12_readsBuyer_95 : decode cX12_readsBuyer 95 = .ok (.getfield 44, 3) := by decide +kernel
theorem dX12_readsBuyer_98 : decode cX12_readsBuyer 98 = .ok (.iload_n 1, 1) := by decide +kernel
theorem dX12_readsBuyer_99 : decode cX12_readsBuyer 99 = .ok (.iaload, 1) := by decide +kernel
theorem dX12_readsBuyer_100 : decode cX12_readsBuyer 100 = .ok (.ifCond .ge 9, 3) := by decide +kernel
theorem dX12_readsBuyer_103 : decode cX12_readsBuyer 103 = .ok (.aload_n 0, 1) := by decide +kernel
theorem dX12_readsBuyer_104 : decode cX12_readsBuyer 104 = .ok (.iconst 1, 1) := by decide +kernel
theorem dX12_readsBuyer_105 : decode cX12_readsBuyer 105 = .ok (.invokevirtual 257, 3) := by decide +kernel
theorem dX12_readsBuyer_108 : decode cX12_readsBuyer 108 = .ok (.ireturn, 1) := by decide +kernel
theorem dX12_readsBuyer_109 : decode cX12_readsBuyer 109 = .ok (.aload_n 0, 1) := by decide +kernel
theorem dX12_readsBuyer_110 : decode cX12_readsBuyer 110 = .ok (.invokevirtual 263, 3) := by decide +kernel
theorem dX12_readsBuyer_113 : decode cX12_readsBuyer 113 = .ok (.aload_n 0, 1) := by decide +kernel
theorem dX12_readsBuyer_114 : decode cX12_readsBuyer 114 = .ok (.ldc2_w 283, 3) := by decide +kernel
theorem dX12_readsBuyer_117 : decode cX12_readsBuyer 117 = .ok (.invokevirtual 350, 3) := by decide +kernel
theorem dX12_readsBuyer_120 : decode cX12_readsBuyer 120 = .ok (.ifCond .ne 5, 3) := by decide +kernel
theorem dX12_readsBuyer_123 : decode cX12_readsBuyer 123 = .ok (.iconst 0, 1) := by decide +kernel
theorem dX12_readsBuyer_124 : decode cX12_readsBuyer 124 = .ok (.ireturn, 1) := by decide +kernel
theorem dX12_readsBuyer_125 : decode cX12_readsBuyer 125 = .ok (.aload_n 0, 1) := by decide +kernel
theorem dX12_readsBuyer_126 : decode cX12_readsBuyer 126 = .ok (.invokevirtual 357, 3) := by decide +kernel
theorem dX12_readsBuyer_129 : decode cX12_readsBuyer 129 = .ok (.ifCond .eq 9, 3) := by decide +kernel
theorem dX12_readsBuyer_132 : decode cX12_readsBuyer 132 = .ok (.aload_n 0, 1) := by decide +kernel
theorem dX12_readsBuyer_133 : decode cX12_readsBuyer 133 = .ok (.iconst 1, 1) := by decide +kernel
theorem dX12_readsBuyer_134 : decode cX12_readsBuyer 134 = .ok (.invokevirtual 257, 3) := by decide +kernel
theorem dX12_readsBuyer_137 : decode cX12_readsBuyer 137 = .ok (.ireturn, 1) := by decide +kernel
theorem dX12_readsBuyer_138 : decode cX12_readsBuyer 138 = .ok (.aload_n 0, 1) := by decide +kernel
theorem dX12_readsBuyer_139 : decode cX12_readsBuyer 139 = .ok (.getfield 47, 3) := by decide +kernel
theorem dX12_readsBuyer_142 : decode cX12_readsBuyer 142 = .ok (.iload_n 1, 1) := by decide +kernel
theorem dX12_readsBuyer_143 : decode cX12_readsBuyer 143 = .ok (.aload_n 0, 1) := by decide +kernel
theorem dX12_readsBuyer_144 : decode cX12_readsBuyer 144 = .ok (.invokevirtual 361, 3) := by decide +kernel
theorem dX12_readsBuyer_147 : decode cX12_readsBuyer 147 = .ok (.iastore, 1) := by decide +kernel
theorem dX12_readsBuyer_148 : decode cX12_readsBuyer 148 = .ok (.aload_n 0, 1) := by decide +kernel
theorem dX12_readsBuyer_149 : decode cX12_readsBuyer 149 = .ok (.getfield 47, 3) := by decide +kernel
theorem dX12_readsBuyer_152 : decode cX12_readsBuyer 152 = .ok (.iload_n 1, 1) := by decide +kernel
theorem dX12_readsBuyer_153 : decode cX12_readsBuyer 153 = .ok (.iaload, 1) := by decide +kernel
theorem dX12_readsBuyer_154 : decode cX12_readsBuyer 154 = .ok (.ifCond .ge 9, 3) := by decide +kernel
theorem dX12_readsBuyer_157 : decode cX12_readsBuyer 157 = .ok (.aload_n 0, 1) := by decide +kernel
theorem dX12_readsBuyer_158 : decode cX12_readsBuyer 158 = .ok (.iconst 2, 1) := by decide +kernel
theorem dX12_readsBuyer_159 : decode cX12_readsBuyer 159 = .ok (.invokevirtual 257, 3) := by decide +kernel
theorem dX12_readsBuyer_162 : decode cX12_readsBuyer 162 = .ok (.ireturn, 1) := by decide +kernel
theorem dX12_readsBuyer_163 : decode cX12_readsBuyer 163 = .ok (.aload_n 0, 1) := by decide +kernel
theorem dX12_readsBuyer_164 : decode cX12_readsBuyer 164 = .ok (.invokevirtual 263, 3) := by decide +kernel
theorem dX12_readsBuyer_167 : decode cX12_readsBuyer 167 = .ok (.aload_n 0, 1) := by decide +kernel
theorem dX12_readsBuyer_168 : decode cX12_readsBuyer 168 = .ok (.ldc2_w 299, 3) := by decide +kernel
theorem dX12_readsBuyer_171 : decode cX12_readsBuyer 171 = .ok (.iconst 0, 1) := by decide +kernel
theorem dX12_readsBuyer_172 : decode cX12_readsBuyer 172 = .ok (.bipush 10, 2) := by decide +kernel
theorem dX12_readsBuyer_174 : decode cX12_readsBuyer 174 = .ok (.invokevirtual 376, 3) := by decide +kernel
theorem dX12_readsBuyer_177 : decode cX12_readsBuyer 177 = .ok (.ifCond .ne 5, 3) := by decide +kernel
theorem dX12_readsBuyer_180 : decode cX12_readsBuyer 180 = .ok (.iconst 0, 1) := by decide +kernel
theorem dX12_readsBuyer_181 : decode cX12_readsBuyer 181 = .ok (.ireturn, 1) := by decide +kernel
theorem dX12_readsBuyer_182 : decode cX12_readsBuyer 182 = .ok (.aload_n 0, 1) := by decide +kernel
theorem dX12_readsBuyer_183 : decode cX12_readsBuyer 183 = .ok (.getfield 50, 3) := by decide +kernel
theorem dX12_readsBuyer_186 : decode cX12_readsBuyer 186 = .ok (.iload_n 1, 1) := by decide +kernel
theorem dX12_readsBuyer_187 : decode cX12_readsBuyer 187 = .ok (.aload_n 0, 1) := by decide +kernel
theorem dX12_readsBuyer_188 : decode cX12_readsBuyer 188 = .ok (.getfield 347, 3) := by decide +kernel
theorem dX12_readsBuyer_191 : decode cX12_readsBuyer 191 = .ok (.iastore, 1) := by decide +kernel
theorem dX12_readsBuyer_192 : decode cX12_readsBuyer 192 = .ok (.aload_n 0, 1) := by decide +kernel
theorem dX12_readsBuyer_193 : decode cX12_readsBuyer 193 = .ok (.ldc2_w 301, 3) := by decide +kernel
theorem dX12_readsBuyer_196 : decode cX12_readsBuyer 196 = .ok (.iconst 0, 1) := by decide +kernel
theorem dX12_readsBuyer_197 : decode cX12_readsBuyer 197 = .ok (.bipush 99, 2) := by decide +kernel
theorem dX12_readsBuyer_199 : decode cX12_readsBuyer 199 = .ok (.invokevirtual 376, 3) := by decide +kernel
theorem dX12_readsBuyer_202 : decode cX12_readsBuyer 202 = .ok (.ifCond .ne 5, 3) := by decide +kernel
theorem dX12_readsBuyer_205 : decode cX12_readsBuyer 205 = .ok (.iconst 0, 1) := by decide +kernel
theorem dX12_readsBuyer_206 : decode cX12_readsBuyer 206 = .ok (.ireturn, 1) := by decide +kernel
theorem dX12_readsBuyer_207 : decode cX12_readsBuyer 207 = .ok (.aload_n 0, 1) := by decide +kernel
theorem dX12_readsBuyer_208 : decode cX12_readsBuyer 208 = .ok (.getfield 53, 3) := by decide +kernel
theorem dX12_readsBuyer_211 : decode cX12_readsBuyer 211 = .ok (.iload_n 1, 1) := by decide +kernel
theorem dX12_readsBuyer_212 : decode cX12_readsBuyer 212 = .ok (.aload_n 0, 1) := by decide +kernel
theorem dX12_readsBuyer_213 : decode cX12_readsBuyer 213 = .ok (.getfield 347, 3) := by decide +kernel
theorem dX12_readsBuyer_216 : decode cX12_readsBuyer 216 = .ok (.iastore, 1) := by decide +kernel
theorem dX12_readsBuyer_217 : decode cX12_readsBuyer 217 = .ok (.aload_n 0, 1) := by decide +kernel
theorem dX12_readsBuyer_218 : decode cX12_readsBuyer 218 = .ok (.ldc2_w 303, 3) := by decide +kernel
theorem dX12_readsBuyer_221 : decode cX12_readsBuyer 221 = .ok (.invokevirtual 350, 3) := by decide +kernel
theorem dX12_readsBuyer_224 : decode cX12_readsBuyer 224 = .ok (.ifCond .eq 11, 3) := by decide +kernel
theorem dX12_readsBuyer_227 : decode cX12_readsBuyer 227 = .ok (.aload_n 0, 1) := by decide +kernel
theorem dX12_readsBuyer_228 : decode cX12_readsBuyer 228 = .ok (.iload_n 1, 1) := by decide +kernel
theorem dX12_readsBuyer_229 : decode cX12_readsBuyer 229 = .ok (.invokevirtual 389, 3) := by decide +kernel
theorem dX12_readsBuyer_232 : decode cX12_readsBuyer 232 = .ok (.ifCond .ne 5, 3) := by decide +kernel
theorem dX12_readsBuyer_235 : decode cX12_readsBuyer 235 = .ok (.iconst 0, 1) := by decide +kernel
theorem dX12_readsBuyer_236 : decode cX12_readsBuyer 236 = .ok (.ireturn, 1) := by decide +kernel
theorem dX12_readsBuyer_237 : decode cX12_readsBuyer 237 = .ok (.aload_n 0, 1) := by decide +kernel
theorem dX12_readsBuyer_238 : decode cX12_readsBuyer 238 = .ok (.getfield 23, 3) := by decide +kernel
theorem dX12_readsBuyer_241 : decode cX12_readsBuyer 241 = .ok (.iload_n 1, 1) := by decide +kernel
theorem dX12_readsBuyer_242 : decode cX12_readsBuyer 242 = .ok (.lload_n 2, 1) := by decide +kernel
theorem dX12_readsBuyer_243 : decode cX12_readsBuyer 243 = .ok (.lastore, 1) := by decide +kernel
theorem dX12_readsBuyer_244 : decode cX12_readsBuyer 244 = .ok (.aload_n 0, 1) := by decide +kernel
theorem dX12_readsBuyer_245 : decode cX12_readsBuyer 245 = .ok (.getfield 13, 3) := by decide +kernel
theorem dX12_readsBuyer_248 : decode cX12_readsBuyer 248 = .ok (.bipush 12, 2) := by decide +kernel
theorem dX12_readsBuyer_250 : decode cX12_readsBuyer 250 = .ok (.dup2, 1) := by decide +kernel
theorem dX12_readsBuyer_251 : decode cX12_readsBuyer 251 = .ok (.iaload, 1) := by decide +kernel
theorem dX12_readsBuyer_252 : decode cX12_readsBuyer 252 = .ok (.iconst 1, 1) := by decide +kernel
theorem dX12_readsBuyer_253 : decode cX12_readsBuyer 253 = .ok (.iadd, 1) := by decide +kernel
theorem dX12_readsBuyer_254 : decode cX12_readsBuyer 254 = .ok (.iastore, 1) := by decide +kernel
theorem dX12_readsBuyer_255 : decode cX12_readsBuyer 255 = .ok (.aload_n 0, 1) := by decide +kernel
theorem dX12_readsBuyer_256 : decode cX12_readsBuyer 256 = .ok (.invokevirtual 380, 3) := by decide +kernel
theorem dX12_readsBuyer_259 : decode cX12_readsBuyer 259 = .ok (.ireturn, 1) := by decide +kernel
theorem dX12_readsOne_0 : decode cX12_readsOne 0 = .ok (.aload_n 0, 1) := by decide +kernel
theorem dX12_readsOne_1 : decode cX12_readsOne 1 = .ok (.iload_n 1, 1) := by decide +kernel
theorem dX12_readsOne_2 : decode cX12_readsOne 2 = .ok (.invokevirtual 373, 3) := by decide +kernel
theorem dX12_readsOne_5 : decode cX12_readsOne 5 = .ok (.ifCond .eq 9, 3) := by decide +kernel
theorem dX12_readsOne_8 : decode cX12_readsOne 8 = .ok (.aload_n 0, 1) := by decide +kernel
theorem dX12_readsOne_9 : decode cX12_readsOne 9 = .ok (.iconst 3, 1) := by decide +kernel
theorem dX12_readsOne_10 : decode cX12_readsOne 10 = .ok (.invokevirtual 257, 3) := by decide +kernel
theorem dX12_readsOne_13 : decode cX12_readsOne 13 = .ok (.ireturn, 1) := by decide +kernel
theorem dX12_readsOne_14 : decode cX12_readsOne 14 = .ok (.aload_n 0, 1) := by decide +kernel
theorem dX12_readsOne_15 : decode cX12_readsOne 15 = .ok (.invokevirtual 263, 3) := by decide +kernel
theorem dX12_readsOne_18 : decode cX12_readsOne 18 = .ok (.aload_n 0, 1) := by decide +kernel
theorem dX12_readsOne_19 : decode cX12_readsOne 19 = .ok (.iload_n 2, 1) := by decide +kernel
theorem dX12_readsOne_20 : decode cX12_readsOne 20 = .ok (.iload_n 3, 1) := by decide +kernel
theorem dX12_readsOne_21 : decode cX12_readsOne 21 = .ok (.invokevirtual 353, 3) := by decide +kernel
theorem dX12_readsOne_24 : decode cX12_readsOne 24 = .ok (.ifCond .ne 5, 3) := by decide +kernel
theorem dX12_readsOne_27 : decode cX12_readsOne 27 = .ok (.iconst 0, 1) := by decide +kernel
theorem dX12_readsOne_28 : decode cX12_readsOne 28 = .ok (.ireturn, 1) := by decide +kernel
theorem dX12_readsOne_29 : decode cX12_readsOne 29 = .ok (.aload_n 0, 1) := by decide +kernel
theorem dX12_readsOne_30 : decode cX12_readsOne 30 = .ok (.getfield 13, 3) := by decide +kernel
theorem dX12_readsOne_33 : decode cX12_readsOne 33 = .ok (.bipush 10, 2) := by decide +kernel
theorem dX12_readsOne_35 : decode cX12_readsOne 35 = .ok (.iload_n 1, 1) := by decide +kernel
theorem dX12_readsOne_36 : decode cX12_readsOne 36 = .ok (.iadd, 1) := by decide +kernel
theorem dX12_readsOne_37 : decode cX12_readsOne 37 = .ok (.aload_n 0, 1) := by decide +kernel
theorem dX12_readsOne_38 : decode cX12_readsOne 38 = .ok (.getfield 347, 3) := by decide +kernel
theorem dX12_readsOne_41 : decode cX12_readsOne 41 = .ok (.iastore, 1) := by decide +kernel
theorem dX12_readsOne_42 : decode cX12_readsOne 42 = .ok (.aload_n 0, 1) := by decide +kernel
theorem dX12_readsOne_43 : decode cX12_readsOne 43 = .ok (.invokevirtual 380, 3) := by decide +kernel
theorem dX12_readsOne_46 : decode cX12_readsOne 46 = .ok (.ireturn, 1) := by decide +kernel
theorem dX12_readsLate_0 : decode cX12_readsLate 0 = .ok (.aload_n 0, 1) := by decide +kernel
theorem dX12_readsLate_1 : decode cX12_readsLate 1 = .ok (.iconst 1, 1) := by decide +kernel
theorem dX12_readsLate_2 : decode cX12_readsLate 2 = .ok (.invokevirtual 373, 3) := by decide +kernel
theorem dX12_readsLate_5 : decode cX12_readsLate 5 = .ok (.ifCond .eq 9, 3) := by decide +kernel
theorem dX12_readsLate_8 : decode cX12_readsLate 8 = .ok (.aload_n 0, 1) := by decide +kernel
theorem dX12_readsLate_9 : decode cX12_readsLate 9 = .ok (.iconst 3, 1) := by decide +kernel
theorem dX12_readsLate_10 : decode cX12_readsLate 10 = .ok (.invokevirtual 257, 3) := by decide +kernel
theorem dX12_readsLate_13 : decode cX12_readsLate 13 = .ok (.ireturn, 1) := by decide +kernel
theorem dX12_readsLate_14 : decode cX12_readsLate 14 = .ok (.aload_n 0, 1) := by decide +kernel
theorem dX12_readsLate_15 : decode cX12_readsLate 15 = .ok (.invokevirtual 263, 3) := by decide +kernel
theorem dX12_readsLate_18 : decode cX12_readsLate 18 = .ok (.iconst 0, 1) := by decide +kernel
theorem dX12_readsLate_19 : decode cX12_readsLate 19 = .ok (.istore_n 1, 1) := by decide +kernel
theorem dX12_readsLate_20 : decode cX12_readsLate 20 = .ok (.iconst 0, 1) := by decide +kernel
theorem dX12_readsLate_21 : decode cX12_readsLate 21 = .ok (.istore_n 2, 1) := by decide +kernel
theorem dX12_readsLate_22 : decode cX12_readsLate 22 = .ok (.iload_n 2, 1) := by decide +kernel
theorem dX12_readsLate_23 : decode cX12_readsLate 23 = .ok (.iconst 4, 1) := by decide +kernel
theorem dX12_readsLate_24 : decode cX12_readsLate 24 = .ok (.if_icmp .ge 64, 3) := by decide +kernel
theorem dX12_readsLate_27 : decode cX12_readsLate 27 = .ok (.aload_n 0, 1) := by decide +kernel
theorem dX12_readsLate_28 : decode cX12_readsLate 28 = .ok (.iload_n 2, 1) := by decide +kernel
theorem dX12_readsLate_29 : decode cX12_readsLate 29 = .ok (.iconst 3, 1) := by decide +kernel
theorem dX12_readsLate_30 : decode cX12_readsLate 30 = .ok (.if_icmp .ne 10, 3) := by decide +kernel
theorem dX12_readsLate_33 : decode cX12_readsLate 33 = .ok (.bipush 10, 2) := by decide +kernel
theorem dX12_readsLate_35 : decode cX12_readsLate 35 = .ok (.iload_n 1, 1) := by decide +kernel
theorem dX12_readsLate_36 : decode cX12_readsLate 36 = .ok (.isub, 1) := by decide +kernel
theorem dX12_readsLate_37 : decode cX12_readsLate 37 = .ok (.goto 4, 3) := by decide +kernel
theorem dX12_readsLate_40 : decode cX12_readsLate 40 = .ok (.iconst 0, 1) := by decide +kernel
theorem dX12_readsLate_41 : decode cX12_readsLate 41 = .ok (.iload_n 2, 1) := by decide +kernel
theorem dX12_readsLate_42 : decode cX12_readsLate 42 = .ok (.iconst 3, 1) := by decide +kernel
theorem dX12_readsLate_43 : decode cX12_readsLate 43 = .ok (.if_icmp .ne 10, 3) := by decide +kernel
theorem dX12_readsLate_46 : decode cX12_readsLate 46 = .ok (.bipush 10, 2) := by decide +kernel
theorem dX12_readsLate_48 : decode cX12_readsLate 48 = .ok (.iload_n 1, 1) := by decide +kernel
theorem dX12_readsLate_49 : decode cX12_readsLate 49 = .ok (.isub, 1) := by decide +kernel
theorem dX12_readsLate_50 : decode cX12_readsLate 50 = .ok (.goto 5, 3) := by decide +kernel
theorem dX12_readsLate_53 : decode cX12_readsLate 53 = .ok (.bipush 10, 2) := by decide +kernel
theorem dX12_readsLate_55 : decode cX12_readsLate 55 = .ok (.invokevirtual 353, 3) := by decide +kernel
theorem dX12_readsLate_58 : decode cX12_readsLate 58 = .ok (.ifCond .ne 5, 3) := by decide +kernel
theorem dX12_readsLate_61 : decode cX12_readsLate 61 = .ok (.iconst 0, 1) := by decide +kernel
theorem dX12_readsLate_62 : decode cX12_readsLate 62 = .ok (.ireturn, 1) := by decide +kernel
theorem dX12_readsLate_63 : decode cX12_readsLate 63 = .ok (.aload_n 0, 1) := by decide +kernel
theorem dX12_readsLate_64 : decode cX12_readsLate 64 = .ok (.getfield 62, 3) := by decide +kernel
theorem dX12_readsLate_67 : decode cX12_readsLate 67 = .ok (.iconst 4, 1) := by decide +kernel
theorem dX12_readsLate_68 : decode cX12_readsLate 68 = .ok (.iload_n 2, 1) := by decide +kernel
theorem dX12_readsLate_69 : decode cX12_readsLate 69 = .ok (.iadd, 1) := by decide +kernel
theorem dX12_readsLate_70 : decode cX12_readsLate 70 = .ok (.aload_n 0, 1) := by decide +kernel
theorem dX12_readsLate_71 : decode cX12_readsLate 71 = .ok (.getfield 347, 3) := by decide +kernel
theorem dX12_readsLate_74 : decode cX12_readsLate 74 = .ok (.iastore, 1) := by decide +kernel
theorem dX12_readsLate_75 : decode cX12_readsLate 75 = .ok (.iload_n 1, 1) := by decide +kernel
theorem dX12_readsLate_76 : decode cX12_readsLate 76 = .ok (.aload_n 0, 1) := by decide +kernel
theorem dX12_readsLate_77 : decode cX12_readsLate 77 = .ok (.getfield 347, 3) := by decide +kernel
theorem dX12_readsLate_80 : decode cX12_readsLate 80 = .ok (.iadd, 1) := by decide +kernel
theorem dX12_readsLate_81 : decode cX12_readsLate 81 = .ok (.istore_n 1, 1) := by decide +kernel
theorem dX12_readsLate_82 : decode cX12_readsLate 82 = .ok (.iinc 2 1, 3) := by decide +kernel
theorem dX12_readsLate_85 : decode cX12_readsLate 85 = .ok (.goto (-63), 3) := by decide +kernel
theorem dX12_readsLate_88 : decode cX12_readsLate 88 = .ok (.aload_n 0, 1) := by decide +kernel
theorem dX12_readsLate_89 : decode cX12_readsLate 89 = .ok (.invokevirtual 380, 3) := by decide +kernel
theorem dX12_readsLate_92 : decode cX12_readsLate 92 = .ok (.ireturn, 1) := by decide +kernel
theorem dX12_readsOrder_0 : decode cX12_readsOrder 0 = .ok (.aload_n 0, 1) := by decide +kernel
theorem dX12_readsOrder_1 : decode cX12_readsOrder 1 = .ok (.getfield 68, 3) := by decide +kernel
theorem dX12_readsOrder_4 : decode cX12_readsOrder 4 = .ok (.iconst 1, 1) := by decide +kernel
theorem dX12_readsOrder_5 : decode cX12_readsOrder 5 = .ok (.iaload, 1) := by decide +kernel
theorem dX12_readsOrder_6 : decode cX12_readsOrder 6 = .ok (.aload_n 0, 1) := by decide +kernel
theorem dX12_readsOrder_7 : decode cX12_readsOrder 7 = .ok (.getfield 65, 3) := by decide +kernel
theorem dX12_readsOrder_10 : decode cX12_readsOrder 10 = .ok (.iconst 1, 1) := by decide +kernel
theorem dX12_readsOrder_11 : decode cX12_readsOrder 11 = .ok (.iaload, 1) := by decide +kernel
theorem dX12_readsOrder_12 : decode cX12_readsOrder 12 = .ok (.if_icmp .le 9, 3) := by decide +kernel
theorem dX12_readsOrder_15 : decode cX12_readsOrder 15 = .ok (.aload_n 0, 1) := by decide +kernel
theorem dX12_readsOrder_16 : decode cX12_readsOrder 16 = .ok (.iconst 3, 1) := by decide +kernel
theorem dX12_readsOrder_17 : decode cX12_readsOrder 17 = .ok (.invokevirtual 257, 3) := by decide +kernel
theorem dX12_readsOrder_20 : decode cX12_readsOrder 20 = .ok (.ireturn, 1) := by decide +kernel
theorem dX12_readsOrder_21 : decode cX12_readsOrder 21 = .ok (.aload_n 0, 1) := by decide +kernel
theorem dX12_readsOrder_22 : decode cX12_readsOrder 22 = .ok (.invokevirtual 263, 3) := by decide +kernel
theorem dX12_readsOrder_25 : decode cX12_readsOrder 25 = .ok (.aload_n 0, 1) := by decide +kernel
theorem dX12_readsOrder_26 : decode cX12_readsOrder 26 = .ok (.getfield 65, 3) := by decide +kernel
theorem dX12_readsOrder_29 : decode cX12_readsOrder 29 = .ok (.iconst 1, 1) := by decide +kernel
theorem dX12_readsOrder_30 : decode cX12_readsOrder 30 = .ok (.aload_n 0, 1) := by decide +kernel
theorem dX12_readsOrder_31 : decode cX12_readsOrder 31 = .ok (.getfield 232, 3) := by decide +kernel
theorem dX12_readsOrder_34 : decode cX12_readsOrder 34 = .ok (.iastore, 1) := by decide +kernel
theorem dX12_readsOrder_35 : decode cX12_readsOrder 35 = .ok (.aload_n 0, 1) := by decide +kernel
theorem dX12_readsOrder_36 : decode cX12_readsOrder 36 = .ok (.invokevirtual 392, 3) := by decide +kernel
theorem dX12_readsOrder_39 : decode cX12_readsOrder 39 = .ok (.ifCond .ne 5, 3) := by decide +kernel
theorem dX12_readsOrder_42 : decode cX12_readsOrder 42 = .ok (.iconst 0, 1) := by decide +kernel
theorem dX12_readsOrder_43 : decode cX12_readsOrder 43 = .ok (.ireturn, 1) := by decide +kernel
theorem dX12_readsOrder_44 : decode cX12_readsOrder 44 = .ok (.aload_n 0, 1) := by decide +kernel
theorem dX12_readsOrder_45 : decode cX12_readsOrder 45 = .ok (.getfield 68, 3) := by decide +kernel
theorem dX12_readsOrder_48 : decode cX12_readsOrder 48 = .ok (.iconst 1, 1) := by decide +kernel
theorem dX12_readsOrder_49 : decode cX12_readsOrder 49 = .ok (.aload_n 0, 1) := by decide +kernel
theorem dX12_readsOrder_50 : decode cX12_readsOrder 50 = .ok (.getfield 232, 3) := by decide +kernel
theorem dX12_readsOrder_53 : decode cX12_readsOrder 53 = .ok (.iastore, 1) := by decide +kernel
theorem dX12_readsOrder_54 : decode cX12_readsOrder 54 = .ok (.iconst 1, 1) := by decide +kernel
theorem dX12_readsOrder_55 : decode cX12_readsOrder 55 = .ok (.ireturn, 1) := by decide +kernel
theorem dX12_starts_0 : decode cX12_starts 0 = .ok (.aload_n 0, 1) := by decide +kernel
theorem dX12_starts_1 : decode cX12_starts 1 = .ok (.aload_n 0, 1) := by decide +kernel
theorem dX12_starts_2 : decode cX12_starts 2 = .ok (.getfield 199, 3) := by decide +kernel
theorem dX12_starts_5 : decode cX12_starts 5 = .ok (.putfield 202, 3) := by decide +kernel
theorem dX12_starts_8 : decode cX12_starts 8 = .ok (.aload_n 0, 1) := by decide +kernel
theorem dX12_starts_9 : decode cX12_starts 9 = .ok (.iconst 0, 1) := by decide +kernel
theorem dX12_starts_10 : decode cX12_starts 10 = .ok (.putfield 199, 3) := by decide +kernel
theorem dX12_starts_13 : decode cX12_starts 13 = .ok (.aload_n 0, 1) := by decide +kernel
theorem dX12_starts_14 : decode cX12_starts 14 = .ok (.iconst 0, 1) := by decide +kernel
theorem dX12_starts_15 : decode cX12_starts 15 = .ok (.putfield 205, 3) := by decide +kernel
theorem dX12_starts_18 : decode cX12_starts 18 = .ok (.aload_n 0, 1) := by decide +kernel
theorem dX12_starts_19 : decode cX12_starts 19 = .ok (.invokevirtual 263, 3) := by decide +kernel
theorem dX12_starts_22 : decode cX12_starts 22 = .ok (.return_, 1) := by decide +kernel
theorem dX12_readsAll_0 : decode cX12_readsAll 0 = .ok (.aload_n 0, 1) := by decide +kernel
theorem dX12_readsAll_1 : decode cX12_readsAll 1 = .ok (.iconst 1, 1) := by decide +kernel
theorem dX12_readsAll_2 : decode cX12_readsAll 2 = .ok (.invokevirtual 187, 3) := by decide +kernel
theorem dX12_readsAll_5 : decode cX12_readsAll 5 = .ok (.aload_n 0, 1) := by decide +kernel
theorem dX12_readsAll_6 : decode cX12_readsAll 6 = .ok (.iconst 0, 1) := by decide +kernel
theorem dX12_readsAll_7 : decode cX12_readsAll 7 = .ok (.putfield 370, 3) := by decide +kernel
theorem dX12_readsAll_10 : decode cX12_readsAll 10 = .ok (.aload_n 0, 1) := by decide +kernel
theorem dX12_readsAll_11 : decode cX12_readsAll 11 = .ok (.sipush 1000, 3) := by decide +kernel
theorem dX12_readsAll_14 : decode cX12_readsAll 14 = .ok (.putfield 232, 3) := by decide +kernel
theorem dX12_readsAll_17 : decode cX12_readsAll 17 = .ok (.aload_n 0, 1) := by decide +kernel
theorem dX12_readsAll_18 : decode cX12_readsAll 18 = .ok (.invokevirtual 395, 3) := by decide +kernel
theorem dX12_readsAll_21 : decode cX12_readsAll 21 = .ok (.aload_n 0, 1) := by decide +kernel
theorem dX12_readsAll_22 : decode cX12_readsAll 22 = .ok (.getfield 218, 3) := by decide +kernel
theorem dX12_readsAll_25 : decode cX12_readsAll 25 = .ok (.ifCond .eq 228, 3) := by decide +kernel
theorem dX12_readsAll_28 : decode cX12_readsAll 28 = .ok (.aload_n 0, 1) := by decide +kernel
theorem dX12_readsAll_29 : decode cX12_readsAll 29 = .ok (.ldc2_w 279, 3) := by decide +kernel
theorem dX12_readsAll_32 : decode cX12_readsAll 32 = .ok (.invokevirtual 249, 3) := by decide +kernel
theorem dX12_readsAll_35 : decode cX12_readsAll 35 = .ok (.ifCond .eq 10, 3) := by decide +kernel
theorem dX12_readsAll_38 : decode cX12_readsAll 38 = .ok (.aload_n 0, 1) := by decide +kernel
theorem dX12_readsAll_39 : decode cX12_readsAll 39 = .ok (.invokevirtual 398, 3) := by decide +kernel
theorem dX12_readsAll_42 : decode cX12_readsAll 42 = .ok (.goto 201, 3) := by decide +kernel
theorem dX12_readsAll_45 : decode cX12_readsAll 45 = .ok (.aload_n 0, 1) := by decide +kernel
theorem dX12_readsAll_46 : decode cX12_readsAll 46 = .ok (.ldc2_w 283, 3) := by decide +kernel
theorem dX12_readsAll_49 : decode cX12_readsAll 49 = .ok (.invokevirtual 249, 3) := by decide +kernel
theorem dX12_readsAll_52 : decode cX12_readsAll 52 = .ok (.ifCond .eq 10, 3) := by decide +kernel
theorem dX12_readsAll_55 : decode cX12_readsAll 55 = .ok (.aload_n 0, 1) := by decide +kernel
theorem dX12_readsAll_56 : decode cX12_readsAll 56 = .ok (.invokevirtual 401, 3) := by decide +kernel
theorem dX12_readsAll_59 : decode cX12_readsAll 59 = .ok (.goto 184, 3) := by decide +kernel
theorem dX12_readsAll_62 : decode cX12_readsAll 62 = .ok (.aload_n 0, 1) := by decide +kernel
theorem dX12_readsAll_63 : decode cX12_readsAll 63 = .ok (.ldc2_w 287, 3) := by decide +kernel
theorem dX12_readsAll_66 : decode cX12_readsAll 66 = .ok (.invokevirtual 249, 3) := by decide +kernel
theorem dX12_readsAll_69 : decode cX12_readsAll 69 = .ok (.ifCond .eq 10, 3) := by decide +kernel
theorem dX12_readsAll_72 : decode cX12_readsAll 72 = .ok (.aload_n 0, 1) := by decide +kernel
theorem dX12_readsAll_73 : decode cX12_readsAll 73 = .ok (.invokevirtual 404, 3) := by decide +kernel
theorem dX12_readsAll_76 : decode cX12_readsAll 76 = .ok (.goto 167, 3) := by decide +kernel
theorem dX12_readsAll_79 : decode cX12_readsAll 79 = .ok (.aload_n 0, 1) := by decide +kernel
theorem dX12_readsAll_80 : decode cX12_readsAll 80 = .ok (.ldc2_w 297, 3) := by decide +kernel
theorem dX12_readsAll_83 : decode cX12_readsAll 83 = .ok (.invokevirtual 249, 3) := by decide +kernel
theorem dX12_readsAll_86 : decode cX12_readsAll 86 = .ok (.ifCond .eq 10, 3) := by decide +kernel
theorem dX12_readsAll_89 : decode cX12_readsAll 89 = .ok (.aload_n 0, 1) := by decide +kernel
theorem dX12_readsAll_90 : decode cX12_readsAll 90 = .ok (.invokevirtual 407, 3) := by decide +kernel
theorem dX12_readsAll_93 : decode cX12_readsAll 93 = .ok (.goto 150, 3) := by decide +kernel
theorem dX12_readsAll_96 : decode cX12_readsAll 96 = .ok (.aload_n 0, 1) := by decide +kernel
theorem dX12_readsAll_97 : decode cX12_readsAll 97 = .ok (.ldc2_w 305, 3) := by decide +kernel
theorem dX12_readsAll_100 : decode cX12_readsAll 100 = .ok (.invokevirtual 249, 3) := by decide +kernel
theorem dX12_readsAll_103 : decode cX12_readsAll 103 = .ok (.ifCond .eq 13, 3) := by decide +kernel
theorem dX12_readsAll_106 : decode cX12_readsAll 106 = .ok (.aload_n 0, 1) := by decide +kernel
theorem dX12_readsAll_107 : decode cX12_readsAll 107 = .ok (.iconst 5, 1) := by decide +kernel
theorem dX12_readsAll_108 : decode cX12_readsAll 108 = .ok (.iconst 1, 1) := by decide +kernel
theorem dX12_readsAll_109 : decode cX12_readsAll 109 = .ok (.iconst 2, 1) := by decide +kernel
theorem dX12_readsAll_110 : decode cX12_readsAll 110 = .ok (.invokevirtual 410, 3) := by decide +kernel
theorem dX12_readsAll_113 : decode cX12_readsAll 113 = .ok (.goto 130, 3) := by decide +kernel
theorem dX12_readsAll_116 : decode cX12_readsAll 116 = .ok (.aload_n 0, 1) := by decide +kernel
theorem dX12_readsAll_117 : decode cX12_readsAll 117 = .ok (.ldc2_w 307, 3) := by decide +kernel
theorem dX12_readsAll_120 : decode cX12_readsAll 120 = .ok (.invokevirtual 249, 3) := by decide +kernel
theorem dX12_readsAll_123 : decode cX12_readsAll 123 = .ok (.ifCond .eq 15, 3) := by decide +kernel
theorem dX12_readsAll_126 : decode cX12_readsAll 126 = .ok (.aload_n 0, 1) := by decide +kernel
theorem dX12_readsAll_127 : decode cX12_readsAll 127 = .ok (.bipush 6, 2) := by decide +kernel
theorem dX12_readsAll_129 : decode cX12_readsAll 129 = .ok (.iconst 0, 1) := by decide +kernel
theorem dX12_readsAll_130 : decode cX12_readsAll 130 = .ok (.bipush 60, 2) := by decide +kernel
theorem dX12_readsAll_132 : decode cX12_readsAll 132 = .ok (.invokevirtual 410, 3) := by decide +kernel
theorem dX12_readsAll_135 : decode cX12_readsAll 135 = .ok (.goto 108, 3) := by decide +kernel
theorem dX12_readsAll_138 : decode cX12_readsAll 138 = .ok (.aload_n 0, 1) := by decide +kernel
theorem dX12_readsAll_139 : decode cX12_readsAll 139 = .ok (.ldc2_w 309, 3) := by decide +kernel
theorem dX12_readsAll_142 : decode cX12_readsAll 142 = .ok (.invokevirtual 249, 3) := by decide +kernel
theorem dX12_readsAll_145 : decode cX12_readsAll 145 = .ok (.ifCond .eq 15, 3) := by decide +kernel
theorem dX12_readsAll_148 : decode cX12_readsAll 148 = .ok (.aload_n 0, 1) := by decide +kernel
theorem dX12_readsAll_149 : decode cX12_readsAll 149 = .ok (.bipush 7, 2) := by decide +kernel
theorem dX12_readsAll_151 : decode cX12_readsAll 151 = .ok (.iconst 0, 1) := by decide +kernel
theorem dX12_readsAll_152 : decode cX12_readsAll 152 = .ok (.bipush 99, 2) := by decide +kernel
theorem dX12_readsAll_154 : decode cX12_readsAll 154 = .ok (.invokevirtual 410, 3) := by decide +kernel
theorem dX12_readsAll_157 : decode cX12_readsAll 157 = .ok (.goto 86, 3) := by decide +kernel
theorem dX12_readsAll_160 : decode cX12_readsAll 160 = .ok (.aload_n 0, 1) := by decide +kernel
theorem dX12_readsAll_161 : decode cX12_readsAll 161 = .ok (.ldc2_w 311, 3) := by decide +kernel
theorem dX12_readsAll_164 : decode cX12_readsAll 164 = .ok (.invokevirtual 249, 3) := by decide +kernel
theorem dX12_readsAll_167 : decode cX12_readsAll 167 = .ok (.ifCond .eq 15, 3) := by decide +kernel
theorem dX12_readsAll_170 : decode cX12_readsAll 170 = .ok (.aload_n 0, 1) := by decide +kernel
theorem dX12_readsAll_171 : decode cX12_readsAll 171 = .ok (.bipush 8, 2) := by decide +kernel
theorem dX12_readsAll_173 : decode cX12_readsAll 173 = .ok (.iconst 1, 1) := by decide +kernel
theorem dX12_readsAll_174 : decode cX12_readsAll 174 = .ok (.bipush 120, 2) := by decide +kernel
theorem dX12_readsAll_176 : decode cX12_readsAll 176 = .ok (.invokevirtual 410, 3) := by decide +kernel
theorem dX12_readsAll_179 : decode cX12_readsAll 179 = .ok (.goto 64, 3) := by decide +kernel
theorem dX12_readsAll_182 : decode cX12_readsAll 182 = .ok (.aload_n 0, 1) := by decide +kernel
theorem dX12_readsAll_183 : decode cX12_readsAll 183 = .ok (.ldc2_w 313, 3) := by decide +kernel
theorem dX12_readsAll_186 : decode cX12_readsAll 186 = .ok (.invokevirtual 249, 3) := by decide +kernel
theorem dX12_readsAll_189 : decode cX12_readsAll 189 = .ok (.ifCond .eq 15, 3) := by decide +kernel
theorem dX12_readsAll_192 : decode cX12_readsAll 192 = .ok (.aload_n 0, 1) := by decide +kernel
theorem dX12_readsAll_193 : decode cX12_readsAll 193 = .ok (.bipush 9, 2) := by decide +kernel
theorem dX12_readsAll_195 : decode cX12_readsAll 195 = .ok (.iconst 1, 1) := by decide +kernel
theorem dX12_readsAll_196 : decode cX12_readsAll 196 = .ok (.bipush 30, 2) := by decide +kernel
theorem dX12_readsAll_198 : decode cX12_readsAll 198 = .ok (.invokevirtual 410, 3) := by decide +kernel
theorem dX12_readsAll_201 : decode cX12_readsAll 201 = .ok (.goto 42, 3) := by decide +kernel
theorem dX12_readsAll_204 : decode cX12_readsAll 204 = .ok (.aload_n 0, 1) := by decide +kernel
theorem dX12_readsAll_205 : decode cX12_readsAll 205 = .ok (.ldc2_w 315, 3) := by decide +kernel
theorem dX12_readsAll_208 : decode cX12_readsAll 208 = .ok (.invokevirtual 249, 3) := by decide +kernel
theorem dX12_readsAll_211 : decode cX12_readsAll 211 = .ok (.ifCond .eq 10, 3) := by decide +kernel
theorem dX12_readsAll_214 : decode cX12_readsAll 214 = .ok (.aload_n 0, 1) := by decide +kernel
theorem dX12_readsAll_215 : decode cX12_readsAll 215 = .ok (.invokevirtual 413, 3) := by decide +kernel
theorem dX12_readsAll_218 : decode cX12_readsAll 218 = .ok (.goto 25, 3) := by decide +kernel
theorem dX12_readsAll_221 : decode cX12_readsAll 221 = .ok (.aload_n 0, 1) := by decide +kernel
theorem dX12_readsAll_222 : decode cX12_readsAll 222 = .ok (.ldc2_w 317, 3) := by decide +kernel
theorem dX12_readsAll_225 : decode cX12_readsAll 225 = .ok (.invokevirtual 249, 3) := by decide +kernel
theorem dX12_readsAll_228 : decode cX12_readsAll 228 = .ok (.ifCond .eq 10, 3) := by decide +kernel
theorem dX12_readsAll_231 : decode cX12_readsAll 231 = .ok (.aload_n 0, 1) := by decide +kernel
theorem dX12_readsAll_232 : decode cX12_readsAll 232 = .ok (.invokevirtual 416, 3) := by decide +kernel
theorem dX12_readsAll_235 : decode cX12_readsAll 235 = .ok (.goto 8, 3) := by decide +kernel
theorem dX12_readsAll_238 : decode cX12_readsAll 238 = .ok (.aload_n 0, 1) := by decide +kernel
theorem dX12_readsAll_239 : decode cX12_readsAll 239 = .ok (.iconst 1, 1) := by decide +kernel
theorem dX12_readsAll_240 : decode cX12_readsAll 240 = .ok (.invokevirtual 257, 3) := by decide +kernel
theorem dX12_readsAll_243 : decode cX12_readsAll 243 = .ok (.istore_n 1, 1) := by decide +kernel
theorem dX12_readsAll_244 : decode cX12_readsAll 244 = .ok (.iload_n 1, 1) := by decide +kernel
theorem dX12_readsAll_245 : decode cX12_readsAll 245 = .ok (.ifCond .ne 5, 3) := by decide +kernel
theorem dX12_readsAll_248 : decode cX12_readsAll 248 = .ok (.iconst 0, 1) := by decide +kernel
theorem dX12_readsAll_249 : decode cX12_readsAll 249 = .ok (.ireturn, 1) := by decide +kernel
theorem dX12_readsAll_250 : decode cX12_readsAll 250 = .ok (.goto (-229), 3) := by decide +kernel
theorem dX12_readsAll_253 : decode cX12_readsAll 253 = .ok (.iconst 1, 1) := by decide +kernel
theorem dX12_readsAll_254 : decode cX12_readsAll 254 = .ok (.ireturn, 1) := by decide +kernel
theorem dX12_moves_0 : decode cX12_moves 0 = .ok (.iconst 0, 1) := by decide +kernel
theorem dX12_moves_1 : decode cX12_moves 1 = .ok (.istore_n 2, 1) := by decide +kernel
theorem dX12_moves_2 : decode cX12_moves 2 = .ok (.iload_n 2, 1) := by decide +kernel
theorem dX12_moves_3 : decode cX12_moves 3 = .ok (.iload_n 1, 1) := by decide +kernel
theorem dX12_moves_4 : decode cX12_moves 4 = .ok (.if_icmp .ge 17, 3) := by decide +kernel
theorem dX12_moves_7 : decode cX12_moves 7 = .ok (.aload_n 0, 1) := by decide +kernel
theorem dX12_moves_8 : decode cX12_moves 8 = .ok (.iload_n 2, 1) := by decide +kernel
theorem dX12_moves_9 : decode cX12_moves 9 = .ok (.aload_n 0, 1) := by decide +kernel
theorem dX12_moves_10 : decode cX12_moves 10 = .ok (.iload_n 1, 1) := by decide +kernel
theorem dX12_moves_11 : decode cX12_moves 11 = .ok (.iload_n 2, 1) := by decide +kernel
theorem dX12_moves_12 : decode cX12_moves 12 = .ok (.iadd, 1) := by decide +kernel
theorem dX12_moves_13 : decode cX12_moves 13 = .ok (.iaload, 1) := by decide +kernel
theorem dX12_moves_14 : decode cX12_moves 14 = .ok (.iastore, 1) := by decide +kernel
theorem dX12_moves_15 : decode cX12_moves 15 = .ok (.iinc 2 1, 3) := by decide +kernel
theorem dX12_moves_18 : decode cX12_moves 18 = .ok (.goto (-16), 3) := by decide +kernel
theorem dX12_moves_21 : decode cX12_moves 21 = .ok (.return_, 1) := by decide +kernel
theorem dX12_movesNames_0 : decode cX12_movesNames 0 = .ok (.iconst 0, 1) := by decide +kernel
theorem dX12_movesNames_1 : decode cX12_movesNames 1 = .ok (.istore_n 2, 1) := by decide +kernel
theorem dX12_movesNames_2 : decode cX12_movesNames 2 = .ok (.iload_n 2, 1) := by decide +kernel
theorem dX12_movesNames_3 : decode cX12_movesNames 3 = .ok (.iload_n 1, 1) := by decide +kernel
theorem dX12_movesNames_4 : decode cX12_movesNames 4 = .ok (.if_icmp .ge 17, 3) := by decide +kernel
theorem dX12_movesNames_7 : decode cX12_movesNames 7 = .ok (.aload_n 0, 1) := by decide +kernel
theorem dX12_movesNames_8 : decode cX12_movesNames 8 = .ok (.iload_n 2, 1) := by decide +kernel
theorem dX12_movesNames_9 : decode cX12_movesNames 9 = .ok (.aload_n 0, 1) := by decide +kernel
theorem dX12_movesNames_10 : decode cX12_movesNames 10 = .ok (.iload_n 1, 1) := by decide +kernel
theorem dX12_movesNames_11 : decode cX12_movesNames 11 = .ok (.iload_n 2, 1) := by decide +kernel
theorem dX12_movesNames_12 : decode cX12_movesNames 12 = .ok (.iadd, 1) := by decide +kernel
theorem dX12_movesNames_13 : decode cX12_movesNames 13 = .ok (.laload, 1) := by decide +kernel
theorem dX12_movesNames_14 : decode cX12_movesNames 14 = .ok (.lastore, 1) := by decide +kernel
theorem dX12_movesNames_15 : decode cX12_movesNames 15 = .ok (.iinc 2 1, 3) := by decide +kernel
theorem dX12_movesNames_18 : decode cX12_movesNames 18 = .ok (.goto (-16), 3) := by decide +kernel
theorem dX12_movesNames_21 : decode cX12_movesNames 21 = .ok (.return_, 1) := by decide +kernel
theorem dX12_lays_0 : decode cX12_lays 0 = .ok (.aload_n 0, 1) := by decide +kernel
theorem dX12_lays_1 : decode cX12_lays 1 = .ok (.getfield 13, 3) := by decide +kernel
theorem dX12_lays_4 : decode cX12_lays 4 = .ok (.bipush 10, 2) := by decide +kernel
theorem dX12_lays_6 : decode cX12_lays 6 = .ok (.invokestatic 419, 3) := by decide +kernel
theorem dX12_lays_9 : decode cX12_lays 9 = .ok (.aload_n 0, 1) := by decide +kernel
theorem dX12_lays_10 : decode cX12_lays 10 = .ok (.getfield 16, 3) := by decide +kernel
theorem dX12_lays_13 : decode cX12_lays 13 = .ok (.bipush 6, 2) := by decide +kernel
theorem dX12_lays_15 : decode cX12_lays 15 = .ok (.invokestatic 423, 3) := by decide +kernel
theorem dX12_lays_18 : decode cX12_lays 18 = .ok (.aload_n 0, 1) := by decide +kernel
theorem dX12_lays_19 : decode cX12_lays 19 = .ok (.getfield 20, 3) := by decide +kernel
theorem dX12_lays_22 : decode cX12_lays 22 = .ok (.iconst 5, 1) := by decide +kernel
theorem dX12_lays_23 : decode cX12_lays 23 = .ok (.invokestatic 423, 3) := by decide +kernel
theorem dX12_lays_26 : decode cX12_lays 26 = .ok (.aload_n 0, 1) := by decide +kernel
theorem dX12_lays_27 : decode cX12_lays 27 = .ok (.getfield 23, 3) := by decide +kernel
theorem dX12_lays_30 : decode cX12_lays 30 = .ok (.bipush 6, 2) := by decide +kernel
theorem dX12_lays_32 : decode cX12_lays 32 = .ok (.invokestatic 423, 3) := by decide +kernel
theorem dX12_lays_35 : decode cX12_lays 35 = .ok (.aload_n 0, 1) := by decide +kernel
theorem dX12_lays_36 : decode cX12_lays 36 = .ok (.getfield 26, 3) := by decide +kernel
theorem dX12_lays_39 : decode cX12_lays 39 = .ok (.bipush 6, 2) := by decide +kernel
theorem dX12_lays_41 : decode cX12_lays 41 = .ok (.invokestatic 419, 3) := by decide +kernel
theorem dX12_lays_44 : decode cX12_lays 44 = .ok (.aload_n 0, 1) := by decide +kernel
theorem dX12_lays_45 : decode cX12_lays 45 = .ok (.getfield 29, 3) := by decide +kernel
theorem dX12_lays_48 : decode cX12_lays 48 = .ok (.iconst 5, 1) := by decide +kernel
theorem dX12_lays_49 : decode cX12_lays 49 = .ok (.invokestatic 419, 3) := by decide +kernel
theorem dX12_lays_52 : decode cX12_lays 52 = .ok (.aload_n 0, 1) := by decide +kernel
theorem dX12_lays_53 : decode cX12_lays 53 = .ok (.getfield 32, 3) := by decide +kernel
theorem dX12_lays_56 : decode cX12_lays 56 = .ok (.iconst 5, 1) := by decide +kernel
theorem dX12_lays_57 : decode cX12_lays 57 = .ok (.invokestatic 419, 3) := by decide +kernel
theorem dX12_lays_60 : decode cX12_lays 60 = .ok (.aload_n 0, 1) := by decide +kernel
theorem dX12_lays_61 : decode cX12_lays 61 = .ok (.getfield 35, 3) := by decide +kernel
theorem dX12_lays_64 : decode cX12_lays 64 = .ok (.iconst 5, 1) := by decide +kernel
theorem dX12_lays_65 : decode cX12_lays 65 = .ok (.invokestatic 419, 3) := by decide +kernel
theorem dX12_lays_68 : decode cX12_lays 68 = .ok (.aload_n 0, 1) := by decide +kernel
theorem dX12_lays_69 : decode cX12_lays 69 = .ok (.getfield 38, 3) := by decide +kernel
theorem dX12_lays_72 : decode cX12_lays 72 = .ok (.iconst 5, 1) := by decide +kernel
theorem dX12_lays_73 : decode cX12_lays 73 = .ok (.invokestatic 419, 3) := by decide +kernel
theorem dX12_lays_76 : decode cX12_lays 76 = .ok (.aload_n 0, 1) := by decide +kernel
theorem dX12_lays_77 : decode cX12_lays 77 = .ok (.getfield 41, 3) := by decide +kernel
theorem dX12_lays_80 : decode cX12_lays 80 = .ok (.iconst 5, 1) := by decide +kernel
theorem dX12_lays_81 : decode cX12_lays 81 = .ok (.invokestatic 419, 3) := by decide +kernel
theorem dX12_lays_84 : decode cX12_lays 84 = .ok (.aload_n 0, 1) := by decide +kernel
theorem dX12_lays_85 : decode cX12_lays 85 = .ok (.getfield 44, 3) := by decide +kernel
theorem dX12_lays_88 : decode cX12_lays 88 = .ok (.bipush 6, 2) := by decide +kernel
theorem dX12_lays_90 : decode cX12_lays 90 = .ok (.invokestatic 419, 3) := by decide +kernel
theorem dX12_lays_93 : decode cX12_lays 93 = .ok (.aload_n 0, 1) := by decide +kernel
theorem dX12_lays_94 : decode cX12_lays 94 = .ok (.getfield 47, 3) := by decide +kernel
theorem dX12_lays_97 : decode cX12_lays 97 = .ok (.bipush 6, 2) := by decide +kernel
theorem dX12_lays_99 : decode cX12_lays 99 = .ok (.invokestatic 419, 3) := by decide +kernel
theorem dX12_lays_102 : decode cX12_lays 102 = .ok (.aload_n 0, 1) := by decide +kernel
theorem dX12_lays_103 : decode cX12_lays 103 = .ok (.getfield 50, 3) := by decide +kernel
theorem dX12_lays_106 : decode cX12_lays 106 = .ok (.bipush 6, 2) := by decide +kernel
theorem dX12_lays_108 : decode cX12_lays 108 = .ok (.invokestatic 419, 3) := by decide +kernel
theorem dX12_lays_111 : decode cX12_lays 111 = .ok (.aload_n 0, 1) := by decide +kernel
theorem dX12_lays_112 : decode cX12_lays 112 = .ok (.getfield 53, 3) := by decide +kernel
theorem dX12_lays_115 : decode cX12_lays 115 = .ok (.bipush 6, 2) := by decide +kernel
theorem dX12_lays_117 : decode cX12_lays 117 = .ok (.invokestatic 419, 3) := by decide +kernel
theorem dX12_lays_120 : decode cX12_lays 120 = .ok (.aload_n 0, 1) := by decide +kernel
theorem dX12_lays_121 : decode cX12_lays 121 = .ok (.getfield 56, 3) := by decide +kernel
theorem dX12_lays_124 : decode cX12_lays 124 = .ok (.bipush 18, 2) := by decide +kernel
theorem dX12_lays_126 : decode cX12_lays 126 = .ok (.invokestatic 419, 3) := by decide +kernel
theorem dX12_lays_129 : decode cX12_lays 129 = .ok (.aload_n 0, 1) := by decide +kernel
theorem dX12_lays_130 : decode cX12_lays 130 = .ok (.getfield 59, 3) := by decide +kernel
theorem dX12_lays_133 : decode cX12_lays 133 = .ok (.bipush 6, 2) := by decide +kernel
theorem dX12_lays_135 : decode cX12_lays 135 = .ok (.invokestatic 419, 3) := by decide +kernel
theorem dX12_lays_138 : decode cX12_lays 138 = .ok (.aload_n 0, 1) := by decide +kernel
theorem dX12_lays_139 : decode cX12_lays 139 = .ok (.getfield 62, 3) := by decide +kernel
theorem dX12_lays_142 : decode cX12_lays 142 = .ok (.iconst 4, 1) := by decide +kernel
theorem dX12_lays_143 : decode cX12_lays 143 = .ok (.invokestatic 419, 3) := by decide +kernel
theorem dX12_lays_146 : decode cX12_lays 146 = .ok (.aload_n 0, 1) := by decide +kernel
theorem dX12_lays_147 : decode cX12_lays 147 = .ok (.getfield 71, 3) := by decide +kernel
theorem dX12_lays_150 : decode cX12_lays 150 = .ok (.sipush 1000, 3) := by decide +kernel
theorem dX12_lays_153 : decode cX12_lays 153 = .ok (.invokestatic 419, 3) := by decide +kernel
theorem dX12_lays_156 : decode cX12_lays 156 = .ok (.aload_n 0, 1) := by decide +kernel
theorem dX12_lays_157 : decode cX12_lays 157 = .ok (.getfield 65, 3) := by decide +kernel
theorem dX12_lays_160 : decode cX12_lays 160 = .ok (.iconst 0, 1) := by decide +kernel
theorem dX12_lays_161 : decode cX12_lays 161 = .ok (.aload_n 0, 1) := by decide +kernel
theorem dX12_lays_162 : decode cX12_lays 162 = .ok (.getfield 65, 3) := by decide +kernel
theorem dX12_lays_165 : decode cX12_lays 165 = .ok (.iconst 1, 1) := by decide +kernel
theorem dX12_lays_166 : decode cX12_lays 166 = .ok (.iaload, 1) := by decide +kernel
theorem dX12_lays_167 : decode cX12_lays 167 = .ok (.sipush 1000, 3) := by decide +kernel
theorem dX12_lays_170 : decode cX12_lays 170 = .ok (.isub, 1) := by decide +kernel
theorem dX12_lays_171 : decode cX12_lays 171 = .ok (.iastore, 1) := by decide +kernel
theorem dX12_lays_172 : decode cX12_lays 172 = .ok (.aload_n 0, 1) := by decide +kernel
theorem dX12_lays_173 : decode cX12_lays 173 = .ok (.getfield 68, 3) := by decide +kernel
theorem dX12_lays_176 : decode cX12_lays 176 = .ok (.iconst 0, 1) := by decide +kernel
theorem dX12_lays_177 : decode cX12_lays 177 = .ok (.aload_n 0, 1) := by decide +kernel
theorem dX12_lays_178 : decode cX12_lays 178 = .ok (.getfield 68, 3) := by decide +kernel
theorem dX12_lays_181 : decode cX12_lays 181 = .ok (.iconst 1, 1) := by decide +kernel
theorem dX12_lays_182 : decode cX12_lays 182 = .ok (.iaload, 1) := by decide +kernel
theorem dX12_lays_183 : decode cX12_lays 183 = .ok (.sipush 1000, 3) := by decide +kernel
theorem dX12_lays_186 : decode cX12_lays 186 = .ok (.isub, 1) := by decide +kernel
theorem dX12_lays_187 : decode cX12_lays 187 = .ok (.iastore, 1) := by decide +kernel
theorem dX12_lays_188 : decode cX12_lays 188 = .ok (.return_, 1) := by decide +kernel
theorem dX12_copies_0 : decode cX12_copies 0 = .ok (.iconst 0, 1) := by decide +kernel
theorem dX12_copies_1 : decode cX12_copies 1 = .ok (.istore 4, 2) := by decide +kernel
theorem dX12_copies_3 : decode cX12_copies 3 = .ok (.iload 4, 2) := by decide +kernel
theorem dX12_copies_5 : decode cX12_copies 5 = .ok (.bipush 9, 2) := by decide +kernel
theorem dX12_copies_7 : decode cX12_copies 7 = .ok (.if_icmp .ge 21, 3) := by decide +kernel
theorem dX12_copies_10 : decode cX12_copies 10 = .ok (.aload_n 2, 1) := by decide +kernel
theorem dX12_copies_11 : decode cX12_copies 11 = .ok (.iload_n 3, 1) := by decide +kernel
theorem dX12_copies_12 : decode cX12_copies 12 = .ok (.iload 4, 2) := by decide +kernel
theorem dX12_copies_14 : decode cX12_copies 14 = .ok (.iadd, 1) := by decide +kernel
theorem dX12_copies_15 : decode cX12_copies 15 = .ok (.aload_n 0, 1) := by decide +kernel
theorem dX12_copies_16 : decode cX12_copies 16 = .ok (.iload_n 1, 1) := by decide +kernel
theorem dX12_copies_17 : decode cX12_copies 17 = .ok (.iload 4, 2) := by decide +kernel
theorem dX12_copies_19 : decode cX12_copies 19 = .ok (.iadd, 1) := by decide +kernel
theorem dX12_copies_20 : decode cX12_copies 20 = .ok (.iaload, 1) := by decide +kernel
theorem dX12_copies_21 : decode cX12_copies 21 = .ok (.iastore, 1) := by decide +kernel
theorem dX12_copies_22 : decode cX12_copies 22 = .ok (.iinc 4 1, 3) := by decide +kernel
theorem dX12_copies_25 : decode cX12_copies 25 = .ok (.goto (-22), 3) := by decide +kernel
theorem dX12_copies_28 : decode cX12_copies 28 = .ok (.return_, 1) := by decide +kernel
theorem dX12_readsLine_0 : decode cX12_readsLine 0 = .ok (.aload_n 0, 1) := by decide +kernel
theorem dX12_readsLine_1 : decode cX12_readsLine 1 = .ok (.ldc2_w 319, 3) := by decide +kernel
theorem dX12_readsLine_4 : decode cX12_readsLine 4 = .ok (.invokevirtual 249, 3) := by decide +kernel
theorem dX12_readsLine_7 : decode cX12_readsLine 7 = .ok (.ifCond .eq 7, 3) := by decide +kernel
theorem dX12_readsLine_10 : decode cX12_readsLine 10 = .ok (.iconst 0, 1) := by decide +kernel
theorem dX12_readsLine_11 : decode cX12_readsLine 11 = .ok (.goto 89, 3) := by decide +kernel
theorem dX12_readsLine_14 : decode cX12_readsLine 14 = .ok (.aload_n 0, 1) := by decide +kernel
theorem dX12_readsLine_15 : decode cX12_readsLine 15 = .ok (.ldc2_w 321, 3) := by decide +kernel
theorem dX12_readsLine_18 : decode cX12_readsLine 18 = .ok (.invokevirtual 249, 3) := by decide +kernel
theorem dX12_readsLine_21 : decode cX12_readsLine 21 = .ok (.ifCond .eq 7, 3) := by decide +kernel
theorem dX12_readsLine_24 : decode cX12_readsLine 24 = .ok (.iconst 1, 1) := by decide +kernel
theorem dX12_readsLine_25 : decode cX12_readsLine 25 = .ok (.goto 75, 3) := by decide +kernel
theorem dX12_readsLine_28 : decode cX12_readsLine 28 = .ok (.aload_n 0, 1) := by decide +kernel
theorem dX12_readsLine_29 : decode cX12_readsLine 29 = .ok (.ldc2_w 281, 3) := by decide +kernel
theorem dX12_readsLine_32 : decode cX12_readsLine 32 = .ok (.invokevirtual 249, 3) := by decide +kernel
theorem dX12_readsLine_35 : decode cX12_readsLine 35 = .ok (.ifCond .eq 7, 3) := by decide +kernel
theorem dX12_readsLine_38 : decode cX12_readsLine 38 = .ok (.iconst 2, 1) := by decide +kernel
theorem dX12_readsLine_39 : decode cX12_readsLine 39 = .ok (.goto 61, 3) := by decide +kernel
theorem dX12_readsLine_42 : decode cX12_readsLine 42 = .ok (.aload_n 0, 1) := by decide +kernel
theorem dX12_readsLine_43 : decode cX12_readsLine 43 = .ok (.ldc2_w 323, 3) := by decide +kernel
theorem dX12_readsLine_46 : decode cX12_readsLine 46 = .ok (.invokevirtual 249, 3) := by decide +kernel
theorem dX12_readsLine_49 : decode cX12_readsLine 49 = .ok (.ifCond .eq 7, 3) := by decide +kernel
theorem dX12_readsLine_52 : decode cX12_readsLine 52 = .ok (.iconst 3, 1) := by decide +kernel
theorem dX12_readsLine_53 : decode cX12_readsLine 53 = .ok (.goto 47, 3) := by decide +kernel
theorem dX12_readsLine_56 : decode cX12_readsLine 56 = .ok (.aload_n 0, 1) := by decide +kernel
theorem dX12_readsLine_57 : decode cX12_readsLine 57 = .ok (.ldc2_w 305, 3) := by decide +kernel
theorem dX12_readsLine_60 : decode cX12_readsLine 60 = .ok (.invokevirtual 249, 3) := by decide +kernel
theorem dX12_readsLine_63 : decode cX12_readsLine 63 = .ok (.ifCond .eq 7, 3) := by decide +kernel
theorem dX12_readsLine_66 : decode cX12_readsLine 66 = .ok (.iconst 4, 1) := by decide +kernel
theorem dX12_readsLine_67 : decode cX12_readsLine 67 = .ok (.goto 33, 3) := by decide +kernel
theorem dX12_readsLine_70 : decode cX12_readsLine 70 = .ok (.aload_n 0, 1) := by decide +kernel
theorem dX12_readsLine_71 : decode cX12_readsLine 71 = .ok (.ldc2_w 293, 3) := by decide +kernel
theorem dX12_readsLine_74 : decode cX12_readsLine 74 = .ok (.invokevirtual 249, 3) := by decide +kernel
theorem dX12_readsLine_77 : decode cX12_readsLine 77 = .ok (.ifCond .eq 7, 3) := by decide +kernel
theorem dX12_readsLine_80 : decode cX12_readsLine 80 = .ok (.iconst 5, 1) := by decide +kernel
theorem dX12_readsLine_81 : decode cX12_readsLine 81 = .ok (.goto 19, 3) := by decide +kernel
theorem dX12_readsLine_84 : decode cX12_readsLine 84 = .ok (.aload_n 0, 1) := by decide +kernel
theorem dX12_readsLine_85 : decode cX12_readsLine 85 = .ok (.ldc2_w 325, 3) := by decide +kernel
theorem dX12_readsLine_88 : decode cX12_readsLine 88 = .ok (.invokevirtual 249, 3) := by decide +kernel
theorem dX12_readsLine_91 : decode cX12_readsLine 91 = .ok (.ifCond .eq 8, 3) := by decide +kernel
theorem dX12_readsLine_94 : decode cX12_readsLine 94 = .ok (.bipush 6, 2) := by decide +kernel
theorem dX12_readsLine_96 : decode cX12_readsLine 96 = .ok (.goto 4, 3) := by decide +kernel
theorem dX12_readsLine_99 : decode cX12_readsLine 99 = .ok (.iconst (-1), 1) := by decide +kernel
theorem dX12_readsLine_100 : decode cX12_readsLine 100 = .ok (.istore_n 1, 1) := by decide +kernel
theorem dX12_readsLine_101 : decode cX12_readsLine 101 = .ok (.iload_n 1, 1) := by decide +kernel
theorem dX12_readsLine_102 : decode cX12_readsLine 102 = .ok (.ifCond .ge 9, 3) := by decide +kernel
theorem dX12_readsLine_105 : decode cX12_readsLine 105 = .ok (.aload_n 0, 1) := by decide +kernel
theorem dX12_readsLine_106 : decode cX12_readsLine 106 = .ok (.iconst 1, 1) := by decide +kernel
theorem dX12_readsLine_107 : decode cX12_readsLine 107 = .ok (.invokevirtual 257, 3) := by decide +kernel
theorem dX12_readsLine_110 : decode cX12_readsLine 110 = .ok (.ireturn, 1) := by decide +kernel
theorem dX12_readsLine_111 : decode cX12_readsLine 111 = .ok (.aload_n 0, 1) := by decide +kernel
theorem dX12_readsLine_112 : decode cX12_readsLine 112 = .ok (.getfield 111, 3) := by decide +kernel
theorem dX12_readsLine_115 : decode cX12_readsLine 115 = .ok (.iconst 5, 1) := by decide +kernel
theorem dX12_readsLine_116 : decode cX12_readsLine 116 = .ok (.iaload, 1) := by decide +kernel
theorem dX12_readsLine_117 : decode cX12_readsLine 117 = .ok (.bipush 40, 2) := by decide +kernel
theorem dX12_readsLine_119 : decode cX12_readsLine 119 = .ok (.if_icmp .ne 9, 3) := by decide +kernel
theorem dX12_readsLine_122 : decode cX12_readsLine 122 = .ok (.aload_n 0, 1) := by decide +kernel
theorem dX12_readsLine_123 : decode cX12_readsLine 123 = .ok (.iconst 5, 1) := by decide +kernel
theorem dX12_readsLine_124 : decode cX12_readsLine 124 = .ok (.invokevirtual 257, 3) := by decide +kernel
theorem dX12_readsLine_127 : decode cX12_readsLine 127 = .ok (.ireturn, 1) := by decide +kernel
theorem dX12_readsLine_128 : decode cX12_readsLine 128 = .ok (.aload_n 0, 1) := by decide +kernel
theorem dX12_readsLine_129 : decode cX12_readsLine 129 = .ok (.invokevirtual 263, 3) := by decide +kernel
theorem dX12_readsLine_132 : decode cX12_readsLine 132 = .ok (.sipush 200, 3) := by decide +kernel
theorem dX12_readsLine_135 : decode cX12_readsLine 135 = .ok (.aload_n 0, 1) := by decide +kernel
theorem dX12_readsLine_136 : decode cX12_readsLine 136 = .ok (.getfield 111, 3) := by decide +kernel
theorem dX12_readsLine_139 : decode cX12_readsLine 139 = .ok (.iconst 5, 1) := by decide +kernel
theorem dX12_readsLine_140 : decode cX12_readsLine 140 = .ok (.iaload, 1) := by decide +kernel
theorem dX12_readsLine_141 : decode cX12_readsLine 141 = .ok (.iadd, 1) := by decide +kernel
theorem dX12_readsLine_142 : decode cX12_readsLine 142 = .ok (.istore_n 2, 1) := by decide +kernel
theorem dX12_readsLine_143 : decode cX12_readsLine 143 = .ok (.aload_n 0, 1) := by decide +kernel
theorem dX12_readsLine_144 : decode cX12_readsLine 144 = .ok (.getfield 114, 3) := by decide +kernel
theorem dX12_readsLine_147 : decode cX12_readsLine 147 = .ok (.iload_n 2, 1) := by decide +kernel
theorem dX12_readsLine_148 : decode cX12_readsLine 148 = .ok (.iload_n 1, 1) := by decide +kernel
theorem dX12_readsLine_149 : decode cX12_readsLine 149 = .ok (.iastore, 1) := by decide +kernel
theorem dX12_readsLine_150 : decode cX12_readsLine 150 = .ok (.iload_n 1, 1) := by decide +kernel
theorem dX12_readsLine_151 : decode cX12_readsLine 151 = .ok (.iconst 1, 1) := by decide +kernel
theorem dX12_readsLine_152 : decode cX12_readsLine 152 = .ok (.if_icmp .gt 49, 3) := by decide +kernel
theorem dX12_readsLine_155 : decode cX12_readsLine 155 = .ok (.aload_n 0, 1) := by decide +kernel
theorem dX12_readsLine_156 : decode cX12_readsLine 156 = .ok (.invokevirtual 357, 3) := by decide +kernel
theorem dX12_readsLine_159 : decode cX12_readsLine 159 = .ok (.ifCond .eq 9, 3) := by decide +kernel
theorem dX12_readsLine_162 : decode cX12_readsLine 162 = .ok (.aload_n 0, 1) := by decide +kernel
theorem dX12_readsLine_163 : decode cX12_readsLine 163 = .ok (.iconst 1, 1) := by decide +kernel
theorem dX12_readsLine_164 : decode cX12_readsLine 164 = .ok (.invokevirtual 257, 3) := by decide +kernel
theorem dX12_readsLine_167 : decode cX12_readsLine 167 = .ok (.ireturn, 1) := by decide +kernel
theorem dX12_readsLine_168 : decode cX12_readsLine 168 = .ok (.aload_n 0, 1) := by decide +kernel
theorem dX12_readsLine_169 : decode cX12_readsLine 169 = .ok (.getfield 117, 3) := by decide +kernel
theorem dX12_readsLine_172 : decode cX12_readsLine 172 = .ok (.iload_n 2, 1) := by decide +kernel
theorem dX12_readsLine_173 : decode cX12_readsLine 173 = .ok (.aload_n 0, 1) := by decide +kernel
theorem dX12_readsLine_174 : decode cX12_readsLine 174 = .ok (.iconst 0, 1) := by decide +kernel
theorem dX12_readsLine_175 : decode cX12_readsLine 175 = .ok (.invokevirtual 367, 3) := by decide +kernel
theorem dX12_readsLine_178 : decode cX12_readsLine 178 = .ok (.iastore, 1) := by decide +kernel
theorem dX12_readsLine_179 : decode cX12_readsLine 179 = .ok (.aload_n 0, 1) := by decide +kernel
theorem dX12_readsLine_180 : decode cX12_readsLine 180 = .ok (.getfield 117, 3) := by decide +kernel
theorem dX12_readsLine_183 : decode cX12_readsLine 183 = .ok (.iload_n 2, 1) := by decide +kernel
theorem dX12_readsLine_184 : decode cX12_readsLine 184 = .ok (.iaload, 1) := by decide +kernel
theorem dX12_readsLine_185 : decode cX12_readsLine 185 = .ok (.ifCond .ge 9, 3) := by decide +kernel
theorem dX12_readsLine_188 : decode cX12_readsLine 188 = .ok (.aload_n 0, 1) := by decide +kernel
theorem dX12_readsLine_189 : decode cX12_readsLine 189 = .ok (.iconst 2, 1) := by decide +kernel
theorem dX12_readsLine_190 : decode cX12_readsLine 190 = .ok (.invokevirtual 257, 3) := by decide +kernel
theorem dX12_readsLine_193 : decode cX12_readsLine 193 = .ok (.ireturn, 1) := by decide +kernel
theorem dX12_readsLine_194 : decode cX12_readsLine 194 = .ok (.aload_n 0, 1) := by decide +kernel
theorem dX12_readsLine_195 : decode cX12_readsLine 195 = .ok (.invokevirtual 263, 3) := by decide +kernel
theorem dX12_readsLine_198 : decode cX12_readsLine 198 = .ok (.goto 32, 3) := by decide +kernel
theorem dX12_readsLine_201 : decode cX12_readsLine 201 = .ok (.iload_n 1, 1) := by decide +kernel
theorem dX12_readsLine_202 : decode cX12_readsLine 202 = .ok (.iconst 5, 1) := by decide +kernel
theorem dX12_readsLine_203 : decode cX12_readsLine 203 = .ok (.if_icmp .ne 27, 3) := by decide +kernel
theorem dX12_readsLine_206 : decode cX12_readsLine 206 = .ok (.aload_n 0, 1) := by decide +kernel
theorem dX12_readsLine_207 : decode cX12_readsLine 207 = .ok (.iconst 0, 1) := by decide +kernel
theorem dX12_readsLine_208 : decode cX12_readsLine 208 = .ok (.invokevirtual 386, 3) := by decide +kernel
theorem dX12_readsLine_211 : decode cX12_readsLine 211 = .ok (.ifCond .ne 5, 3) := by decide +kernel
theorem dX12_readsLine_214 : decode cX12_readsLine 214 = .ok (.iconst 0, 1) := by decide +kernel
theorem dX12_readsLine_215 : decode cX12_readsLine 215 = .ok (.ireturn, 1) := by decide +kernel
theorem dX12_readsLine_216 : decode cX12_readsLine 216 = .ok (.aload_n 0, 1) := by decide +kernel
theorem dX12_readsLine_217 : decode cX12_readsLine 217 = .ok (.getfield 117, 3) := by decide +kernel
theorem dX12_readsLine_220 : decode cX12_readsLine 220 = .ok (.iload_n 2, 1) := by decide +kernel
theorem dX12_readsLine_221 : decode cX12_readsLine 221 = .ok (.aload_n 0, 1) := by decide +kernel
theorem dX12_readsLine_222 : decode cX12_readsLine 222 = .ok (.getfield 347, 3) := by decide +kernel
theorem dX12_readsLine_225 : decode cX12_readsLine 225 = .ok (.iastore, 1) := by decide +kernel
theorem dX12_readsLine_226 : decode cX12_readsLine 226 = .ok (.aload_n 0, 1) := by decide +kernel
theorem dX12_readsLine_227 : decode cX12_readsLine 227 = .ok (.invokevirtual 263, 3) := by decide +kernel
theorem dX12_readsLine_230 : decode cX12_readsLine 230 = .ok (.iload_n 1, 1) := by decide +kernel
theorem dX12_readsLine_231 : decode cX12_readsLine 231 = .ok (.iconst 1, 1) := by decide +kernel
theorem dX12_readsLine_232 : decode cX12_readsLine 232 = .ok (.if_icmp .le 76, 3) := by decide +kernel
theorem dX12_readsLine_235 : decode cX12_readsLine 235 = .ok (.iload_n 1, 1) := by decide +kernel
theorem dX12_readsLine_236 : decode cX12_readsLine 236 = .ok (.bipush 6, 2) := by decide +kernel
theorem dX12_readsLine_238 : decode cX12_readsLine 238 = .ok (.if_icmp .ge 70, 3) := by decide +kernel
theorem dX12_readsLine_241 : decode cX12_readsLine 241 = .ok (.aload_n 0, 1) := by decide +kernel
theorem dX12_readsLine_242 : decode cX12_readsLine 242 = .ok (.iload_n 1, 1) := by decide +kernel
theorem dX12_readsLine_243 : decode cX12_readsLine 243 = .ok (.iconst 2, 1) := by decide +kernel
theorem dX12_readsLine_244 : decode cX12_readsLine 244 = .ok (.if_icmp .eq 8, 3) := by decide +kernel
theorem dX12_readsLine_247 : decode cX12_readsLine 247 = .ok (.iload_n 1, 1) := by decide +kernel
theorem dX12_readsLine_248 : decode cX12_readsLine 248 = .ok (.iconst 4, 1) := by decide +kernel
theorem dX12_readsLine_249 : decode cX12_readsLine 249 = .ok (.if_icmp .ne 7, 3) := by decide +kernel
theorem dX12_readsLine_252 : decode cX12_readsLine 252 = .ok (.iconst 1, 1) := by decide +kernel
theorem dX12_readsLine_253 : decode cX12_readsLine 253 = .ok (.goto 4, 3) := by decide +kernel
theorem dX12_readsLine_256 : decode cX12_readsLine 256 = .ok (.iconst 0, 1) := by decide +kernel
theorem dX12_readsLine_257 : decode cX12_readsLine 257 = .ok (.iload_n 1, 1) := by decide +kernel
theorem dX12_readsLine_258 : decode cX12_readsLine 258 = .ok (.iconst 2, 1) := by decide +kernel
theorem dX12_readsLine_259 : decode cX12_readsLine 259 = .ok (.if_icmp .ne 9, 3) := by decide +kernel
theorem dX12_readsLine_262 : decode cX12_readsLine 262 = .ok (.sipush 900, 3) := by decide +kernel
theorem dX12_readsLine_265 : decode cX12_readsLine 265 = .ok (.goto 25, 3) := by decide +kernel
theorem dX12_readsLine_268 : decode cX12_readsLine 268 = .ok (.iload_n 1, 1) := by decide +kernel
theorem dX12_readsLine_269 : decode cX12_readsLine 269 = .ok (.iconst 3, 1) := by decide +kernel
theorem dX12_readsLine_270 : decode cX12_readsLine 270 = .ok (.if_icmp .ne 9, 3) := by decide +kernel
theorem dX12_readsLine_273 : decode cX12_readsLine 273 = .ok (.sipush 200, 3) := by decide +kernel
theorem dX12_readsLine_276 : decode cX12_readsLine 276 = .ok (.goto 14, 3) := by decide +kernel
theorem dX12_readsLine_279 : decode cX12_readsLine 279 = .ok (.iload_n 1, 1) := by decide +kernel
theorem dX12_readsLine_280 : decode cX12_readsLine 280 = .ok (.iconst 4, 1) := by decide +kernel
theorem dX12_readsLine_281 : decode cX12_readsLine 281 = .ok (.if_icmp .ne 7, 3) := by decide +kernel
theorem dX12_readsLine_284 : decode cX12_readsLine 284 = .ok (.iconst 2, 1) := by decide +kernel
theorem dX12_readsLine_285 : decode cX12_readsLine 285 = .ok (.goto 5, 3) := by decide +kernel
theorem dX12_readsLine_288 : decode cX12_readsLine 288 = .ok (.bipush 99, 2) := by decide +kernel
theorem dX12_readsLine_290 : decode cX12_readsLine 290 = .ok (.invokevirtual 353, 3) := by decide +kernel
theorem dX12_readsLine_293 : decode cX12_readsLine 293 = .ok (.ifCond .ne 5, 3) := by decide +kernel
theorem dX12_readsLine_296 : decode cX12_readsLine 296 = .ok (.iconst 0, 1) := by decide +kernel
theorem dX12_readsLine_297 : decode cX12_readsLine 297 = .ok (.ireturn, 1) := by decide +kernel
theorem dX12_readsLine_298 : decode cX12_readsLine 298 = .ok (.aload_n 0, 1) := by decide +kernel
theorem dX12_readsLine_299 : decode cX12_readsLine 299 = .ok (.getfield 120, 3) := by decide +kernel
theorem dX12_readsLine_302 : decode cX12_readsLine 302 = .ok (.iload_n 2, 1) := by decide +kernel
theorem dX12_readsLine_303 : decode cX12_readsLine 303 = .ok (.aload_n 0, 1) := by decide +kernel
theorem dX12_readsLine_304 : decode cX12_readsLine 304 = .ok (.getfield 347, 3) := by decide +kernel
theorem dX12_readsLine_307 : decode cX12_readsLine 307 = .ok (.iastore, 1) := by decide +kernel
theorem dX12_readsLine_308 : decode cX12_readsLine 308 = .ok (.aload_n 0, 1) := by decide +kernel
theorem dX12_readsLine_309 : decode cX12_readsLine 309 = .ok (.getfield 111, 3) := by decide +kernel
theorem dX12_readsLine_312 : decode cX12_readsLine 312 = .ok (.iconst 5, 1) := by decide +kernel
theorem dX12_readsLine_313 : decode cX12_readsLine 313 = .ok (.dup2, 1) := by decide +kernel
theorem dX12_readsLine_314 : decode cX12_readsLine 314 = .ok (.iaload, 1) := by decide +kernel
theorem dX12_readsLine_315 : decode cX12_readsLine 315 = .ok (.iconst 1, 1) := by decide +kernel
theorem dX12_readsLine_316 : decode cX12_readsLine 316 = .ok (.iadd, 1) := by decide +kernel
theorem dX12_readsLine_317 : decode cX12_readsLine 317 = .ok (.iastore, 1) := by decide +kernel
theorem dX12_readsLine_318 : decode cX12_readsLine 318 = .ok (.aload_n 0, 1) := by decide +kernel
theorem dX12_readsLine_319 : decode cX12_readsLine 319 = .ok (.invokevirtual 380, 3) := by decide +kernel
theorem dX12_readsLine_322 : decode cX12_readsLine 322 = .ok (.ireturn, 1) := by decide +kernel
theorem dX12_laysLines_0 : decode cX12_laysLines 0 = .ok (.aload_n 0, 1) := by decide +kernel
theorem dX12_laysLines_1 : decode cX12_laysLines 1 = .ok (.getfield 111, 3) := by decide +kernel
theorem dX12_laysLines_4 : decode cX12_laysLines 4 = .ok (.iload_n 2, 1) := by decide +kernel
theorem dX12_laysLines_5 : decode cX12_laysLines 5 = .ok (.aload_n 0, 1) := by decide +kernel
theorem dX12_laysLines_6 : decode cX12_laysLines 6 = .ok (.getfield 111, 3) := by decide +kernel
theorem dX12_laysLines_9 : decode cX12_laysLines 9 = .ok (.iload_n 1, 1) := by decide +kernel
theorem dX12_laysLines_10 : decode cX12_laysLines 10 = .ok (.iaload, 1) := by decide +kernel
theorem dX12_laysLines_11 : decode cX12_laysLines 11 = .ok (.iastore, 1) := by decide +kernel
theorem dX12_laysLines_12 : decode cX12_laysLines 12 = .ok (.iconst 0, 1) := by decide +kernel
theorem dX12_laysLines_13 : decode cX12_laysLines 13 = .ok (.istore_n 3, 1) := by decide +kernel
theorem dX12_laysLines_14 : decode cX12_laysLines 14 = .ok (.iload_n 3, 1) := by decide +kernel
theorem dX12_laysLines_15 : decode cX12_laysLines 15 = .ok (.bipush 40, 2) := by decide +kernel
theorem dX12_laysLines_17 : decode cX12_laysLines 17 = .ok (.if_icmp .ge 75, 3) := by decide +kernel
theorem dX12_laysLines_20 : decode cX12_laysLines 20 = .ok (.aload_n 0, 1) := by decide +kernel
theorem dX12_laysLines_21 : decode cX12_laysLines 21 = .ok (.getfield 114, 3) := by decide +kernel
theorem dX12_laysLines_24 : decode cX12_laysLines 24 = .ok (.bipush 40, 2) := by decide +kernel
theorem dX12_laysLines_26 : decode cX12_laysLines 26 = .ok (.iload_n 2, 1) := by decide +kernel
theorem dX12_laysLines_27 : decode cX12_laysLines 27 = .ok (.imul, 1) := by decide +kernel
theorem dX12_laysLines_28 : decode cX12_laysLines 28 = .ok (.iload_n 3, 1) := by decide +kernel
theorem dX12_laysLines_29 : decode cX12_laysLines 29 = .ok (.iadd, 1) := by decide +kernel
theorem dX12_laysLines_30 : decode cX12_laysLines 30 = .ok (.aload_n 0, 1) := by decide +kernel
theorem dX12_laysLines_31 : decode cX12_laysLines 31 = .ok (.getfield 114, 3) := by decide +kernel
theorem dX12_laysLines_34 : decode cX12_laysLines 34 = .ok (.bipush 40, 2) := by decide +kernel
theorem dX12_laysLines_36 : decode cX12_laysLines 36 = .ok (.iload_n 1, 1) := by decide +kernel
theorem dX12_laysLines_37 : decode cX12_laysLines 37 = .ok (.imul, 1) := by decide +kernel
theorem dX12_laysLines_38 : decode cX12_laysLines 38 = .ok (.iload_n 3, 1) := by decide +kernel
theorem dX12_laysLines_39 : decode cX12_laysLines 39 = .ok (.iadd, 1) := by decide +kernel
theorem dX12_laysLines_40 : decode cX12_laysLines 40 = .ok (.iaload, 1) := by decide +kernel
theorem dX12_laysLines_41 : decode cX12_laysLines 41 = .ok (.iastore, 1) := by decide +kernel
theorem dX12_laysLines_42 : decode cX12_laysLines 42 = .ok (.aload_n 0, 1) := by decide +kernel
theorem dX12_laysLines_43 : decode cX12_laysLines 43 = .ok (.getfield 117, 3) := by decide +kernel
theorem dX12_laysLines_46 : decode cX12_laysLines 46 = .ok (.bipush 40, 2) := by decide +kernel
theorem dX12_laysLines_48 : decode cX12_laysLines 48 = .ok (.iload_n 2, 1) := by decide +kernel
theorem dX12_laysLines_49 : decode cX12_laysLines 49 = .ok (.imul, 1) := by decide +kernel
theorem dX12_laysLines_50 : decode cX12_laysLines 50 = .ok (.iload_n 3, 1) := by decide +kernel
theorem dX12_laysLines_51 : decode cX12_laysLines 51 = .ok (.iadd, 1) := by decide +kernel
theorem dX12_laysLines_52 : decode cX12_laysLines 52 = .ok (.aload_n 0, 1) := by decide +kernel
theorem dX12_laysLines_53 : decode cX12_laysLines 53 = .ok (.getfield 117, 3) := by decide +kernel
theorem dX12_laysLines_56 : decode cX12_laysLines 56 = .ok (.bipush 40, 2) := by decide +kernel
theorem dX12_laysLines_58 : decode cX12_laysLines 58 = .ok (.iload_n 1, 1) := by decide +kernel
theorem dX12_laysLines_59 : decode cX12_laysLines 59 = .ok (.imul, 1) := by decide +kernel
theorem dX12_laysLines_60 : decode cX12_laysLines 60 = .ok (.iload_n 3, 1) := by decide +kernel
theorem dX12_laysLines_61 : decode cX12_laysLines 61 = .ok (.iadd, 1) := by decide +kernel
theorem dX12_laysLines_62 : decode cX12_laysLines 62 = .ok (.iaload, 1) := by decide +kernel
theorem dX12_laysLines_63 : decode cX12_laysLines 63 = .ok (.iastore, 1) := by decide +kernel
theorem dX12_laysLines_64 : decode cX12_laysLines 64 = .ok (.aload_n 0, 1) := by decide +kernel
theorem dX12_laysLines_65 : decode cX12_laysLines 65 = .ok (.getfield 120, 3) := by decide +kernel
theorem dX12_laysLines_68 : decode cX12_laysLines 68 = .ok (.bipush 40, 2) := by decide +kernel
theorem dX12_laysLines_70 : decode cX12_laysLines 70 = .ok (.iload_n 2, 1) := by decide +kernel
theorem dX12_laysLines_71 : decode cX12_laysLines 71 = .ok (.imul, 1) := by decide +kernel
theorem dX12_laysLines_72 : decode cX12_laysLines 72 = .ok (.iload_n 3, 1) := by decide +kernel
theorem dX12_laysLines_73 : decode cX12_laysLines 73 = .ok (.iadd, 1) := by decide +kernel
theorem dX12_laysLines_74 : decode cX12_laysLines 74 = .ok (.aload_n 0, 1) := by decide +kernel
theorem dX12_laysLines_75 : decode cX12_laysLines 75 = .ok (.getfield 120, 3) := by decide +kernel
theorem dX12_laysLines_78 : decode cX12_laysLines 78 = .ok (.bipush 40, 2) := by decide +kernel
theorem dX12_laysLines_80 : decode cX12_laysLines 80 = .ok (.iload_n 1, 1) := by decide +kernel
theorem dX12_laysLines_81 : decode cX12_laysLines 81 = .ok (.imul, 1) := by decide +kernel
theorem dX12_laysLines_82 : decode cX12_laysLines 82 = .ok (.iload_n 3, 1) := by decide +kernel
theorem dX12_laysLines_83 : decode cX12_laysLines 83 = .ok (.iadd, 1) := by decide +kernel
theorem dX12_laysLines_84 : decode cX12_laysLines 84 = .ok (.iaload, 1) := by decide +kernel
theorem dX12_laysLines_85 : decode cX12_laysLines 85 = .ok (.iastore, 1) := by decide +kernel
theorem dX12_laysLines_86 : decode cX12_laysLines 86 = .ok (.iinc 3 1, 3) := by decide +kernel
theorem dX12_laysLines_89 : decode cX12_laysLines 89 = .ok (.goto (-75), 3) := by decide +kernel
theorem dX12_laysLines_92 : decode cX12_laysLines 92 = .ok (.return_, 1) := by decide +kernel
theorem dX12_laysTold_0 : decode cX12_laysTold 0 = .ok (.aload_n 0, 1) := by decide +kernel
theorem dX12_laysTold_1 : decode cX12_laysTold 1 = .ok (.getfield 123, 3) := by decide +kernel
theorem dX12_laysTold_4 : decode cX12_laysTold 4 = .ok (.iload_n 2, 1) := by decide +kernel
theorem dX12_laysTold_5 : decode cX12_laysTold 5 = .ok (.aload_n 0, 1) := by decide +kernel
theorem dX12_laysTold_6 : decode cX12_laysTold 6 = .ok (.getfield 123, 3) := by decide +kernel
theorem dX12_laysTold_9 : decode cX12_laysTold 9 = .ok (.iload_n 1, 1) := by decide +kernel
theorem dX12_laysTold_10 : decode cX12_laysTold 10 = .ok (.iaload, 1) := by decide +kernel
theorem dX12_laysTold_11 : decode cX12_laysTold 11 = .ok (.iastore, 1) := by decide +kernel
theorem dX12_laysTold_12 : decode cX12_laysTold 12 = .ok (.aload_n 0, 1) := by decide +kernel
theorem dX12_laysTold_13 : decode cX12_laysTold 13 = .ok (.getfield 132, 3) := by decide +kernel
theorem dX12_laysTold_16 : decode cX12_laysTold 16 = .ok (.iload_n 2, 1) := by decide +kernel
theorem dX12_laysTold_17 : decode cX12_laysTold 17 = .ok (.aload_n 0, 1) := by decide +kernel
theorem dX12_laysTold_18 : decode cX12_laysTold 18 = .ok (.getfield 132, 3) := by decide +kernel
theorem dX12_laysTold_21 : decode cX12_laysTold 21 = .ok (.iload_n 1, 1) := by decide +kernel
theorem dX12_laysTold_22 : decode cX12_laysTold 22 = .ok (.iaload, 1) := by decide +kernel
theorem dX12_laysTold_23 : decode cX12_laysTold 23 = .ok (.iastore, 1) := by decide +kernel
theorem dX12_laysTold_24 : decode cX12_laysTold 24 = .ok (.iconst 0, 1) := by decide +kernel
theorem dX12_laysTold_25 : decode cX12_laysTold 25 = .ok (.istore_n 3, 1) := by decide +kernel
theorem dX12_laysTold_26 : decode cX12_laysTold 26 = .ok (.iload_n 3, 1) := by decide +kernel
theorem dX12_laysTold_27 : decode cX12_laysTold 27 = .ok (.bipush 10, 2) := by decide +kernel
theorem dX12_laysTold_29 : decode cX12_laysTold 29 = .ok (.if_icmp .ge 53, 3) := by decide +kernel
theorem dX12_laysTold_32 : decode cX12_laysTold 32 = .ok (.aload_n 0, 1) := by decide +kernel
theorem dX12_laysTold_33 : decode cX12_laysTold 33 = .ok (.getfield 126, 3) := by decide +kernel
theorem dX12_laysTold_36 : decode cX12_laysTold 36 = .ok (.bipush 10, 2) := by decide +kernel
theorem dX12_laysTold_38 : decode cX12_laysTold 38 = .ok (.iload_n 2, 1) := by decide +kernel
theorem dX12_laysTold_39 : decode cX12_laysTold 39 = .ok (.imul, 1) := by decide +kernel
theorem dX12_laysTold_40 : decode cX12_laysTold 40 = .ok (.iload_n 3, 1) := by decide +kernel
theorem dX12_laysTold_41 : decode cX12_laysTold 41 = .ok (.iadd, 1) := by decide +kernel
theorem dX12_laysTold_42 : decode cX12_laysTold 42 = .ok (.aload_n 0, 1) := by decide +kernel
theorem dX12_laysTold_43 : decode cX12_laysTold 43 = .ok (.getfield 126, 3) := by decide +kernel
theorem dX12_laysTold_46 : decode cX12_laysTold 46 = .ok (.bipush 10, 2) := by decide +kernel
theorem dX12_laysTold_48 : decode cX12_laysTold 48 = .ok (.iload_n 1, 1) := by decide +kernel
theorem dX12_laysTold_49 : decode cX12_laysTold 49 = .ok (.imul, 1) := by decide +kernel
theorem dX12_laysTold_50 : decode cX12_laysTold 50 = .ok (.iload_n 3, 1) := by decide +kernel
theorem dX12_laysTold_51 : decode cX12_laysTold 51 = .ok (.iadd, 1) := by decide +kernel
theorem dX12_laysTold_52 : decode cX12_laysTold 52 = .ok (.iaload, 1) := by decide +kernel
theorem dX12_laysTold_53 : decode cX12_laysTold 53 = .ok (.iastore, 1) := by decide +kernel
theorem dX12_laysTold_54 : decode cX12_laysTold 54 = .ok (.aload_n 0, 1) := by decide +kernel
theorem dX12_laysTold_55 : decode cX12_laysTold 55 = .ok (.getfield 129, 3) := by decide +kernel
theorem dX12_laysTold_58 : decode cX12_laysTold 58 = .ok (.bipush 10, 2) := by decide +kernel
theorem dX12_laysTold_60 : decode cX12_laysTold 60 = .ok (.iload_n 2, 1) := by decide +kernel
theorem dX12_laysTold_61 : decode cX12_laysTold 61 = .ok (.imul, 1) := by decide +kernel
theorem dX12_laysTold_62 : decode cX12_laysTold 62 = .ok (.iload_n 3, 1) := by decide +kernel
theorem dX12_laysTold_63 : decode cX12_laysTold 63 = .ok (.iadd, 1) := by decide +kernel
theorem dX12_laysTold_64 : decode cX12_laysTold 64 = .ok (.aload_n 0, 1) := by decide +kernel
theorem dX12_laysTold_65 : decode cX12_laysTold 65 = .ok (.getfield 129, 3) := by decide +kernel
theorem dX12_laysTold_68 : decode cX12_laysTold 68 = .ok (.bipush 10, 2) := by decide +kernel
theorem dX12_laysTold_70 : decode cX12_laysTold 70 = .ok (.iload_n 1, 1) := by decide +kernel
theorem dX12_laysTold_71 : decode cX12_laysTold 71 = .ok (.imul, 1) := by decide +kernel
theorem dX12_laysTold_72 : decode cX12_laysTold 72 = .ok (.iload_n 3, 1) := by decide +kernel
theorem dX12_laysTold_73 : decode cX12_laysTold 73 = .ok (.iadd, 1) := by decide +kernel
theorem dX12_laysTold_74 : decode cX12_laysTold 74 = .ok (.iaload, 1) := by decide +kernel
theorem dX12_laysTold_75 : decode cX12_laysTold 75 = .ok (.iastore, 1) := by decide +kernel
theorem dX12_laysTold_76 : decode cX12_laysTold 76 = .ok (.iinc 3 1, 3) := by decide +kernel
theorem dX12_laysTold_79 : decode cX12_laysTold 79 = .ok (.goto (-53), 3) := by decide +kernel
theorem dX12_laysTold_82 : decode cX12_laysTold 82 = .ok (.iconst 0, 1) := by decide +kernel
theorem dX12_laysTold_83 : decode cX12_laysTold 83 = .ok (.istore_n 3, 1) := by decide +kernel
theorem dX12_laysTold_84 : decode cX12_laysTold 84 = .ok (.iload_n 3, 1) := by decide +kernel
theorem dX12_laysTold_85 : decode cX12_laysTold 85 = .ok (.bipush 6, 2) := by decide +kernel
theorem dX12_laysTold_87 : decode cX12_laysTold 87 = .ok (.if_icmp .ge 53, 3) := by decide +kernel
theorem dX12_laysTold_90 : decode cX12_laysTold 90 = .ok (.aload_n 0, 1) := by decide +kernel
theorem dX12_laysTold_91 : decode cX12_laysTold 91 = .ok (.getfield 135, 3) := by decide +kernel
theorem dX12_laysTold_94 : decode cX12_laysTold 94 = .ok (.bipush 6, 2) := by decide +kernel
theorem dX12_laysTold_96 : decode cX12_laysTold 96 = .ok (.iload_n 2, 1) := by decide +kernel
theorem dX12_laysTold_97 : decode cX12_laysTold 97 = .ok (.imul, 1) := by decide +kernel
theorem dX12_laysTold_98 : decode cX12_laysTold 98 = .ok (.iload_n 3, 1) := by decide +kernel
theorem dX12_laysTold_99 : decode cX12_laysTold 99 = .ok (.iadd, 1) := by decide +kernel
theorem dX12_laysTold_100 : decode cX12_laysTold 100 = .ok (.aload_n 0, 1) := by decide +kernel
theorem dX12_laysTold_101 : decode cX12_laysTold 101 = .ok (.getfield 135, 3) := by decide +kernel
theorem dX12_laysTold_104 : decode cX12_laysTold 104 = .ok (.bipush 6, 2) := by decide +kernel
theorem dX12_laysTold_106 : decode cX12_laysTold 106 = .ok (.iload_n 1, 1) := by decide +kernel
theorem dX12_laysTold_107 : decode cX12_laysTold 107 = .ok (.imul, 1) := by decide +kernel
theorem dX12_laysTold_108 : decode cX12_laysTold 108 = .ok (.iload_n 3, 1) := by decide +kernel
theorem dX12_laysTold_109 : decode cX12_laysTold 109 = .ok (.iadd, 1) := by decide +kernel
theorem dX12_laysTold_110 : decode cX12_laysTold 110 = .ok (.iaload, 1) := by decide +kernel
theorem dX12_laysTold_111 : decode cX12_laysTold 111 = .ok (.iastore, 1) := by decide +kernel
theorem dX12_laysTold_112 : decode cX12_laysTold 112 = .ok (.aload_n 0, 1) := by decide +kernel
theorem dX12_laysTold_113 : decode cX12_laysTold 113 = .ok (.getfield 138, 3) := by decide +kernel
theorem dX12_laysTold_116 : decode cX12_laysTold 116 = .ok (.bipush 6, 2) := by decide +kernel
theorem dX12_laysTold_118 : decode cX12_laysTold 118 = .ok (.iload_n 2, 1) := by decide +kernel
theorem dX12_laysTold_119 : decode cX12_laysTold 119 = .ok (.imul, 1) := by decide +kernel
theorem dX12_laysTold_120 : decode cX12_laysTold 120 = .ok (.iload_n 3, 1) := by decide +kernel
theorem dX12_laysTold_121 : decode cX12_laysTold 121 = .ok (.iadd, 1) := by decide +kernel
theorem dX12_laysTold_122 : decode cX12_laysTold 122 = .ok (.aload_n 0, 1) := by decide +kernel
theorem dX12_laysTold_123 : decode cX12_laysTold 123 = .ok (.getfield 138, 3) := by decide +kernel
theorem dX12_laysTold_126 : decode cX12_laysTold 126 = .ok (.bipush 6, 2) := by decide +kernel
theorem dX12_laysTold_128 : decode cX12_laysTold 128 = .ok (.iload_n 1, 1) := by decide +kernel
theorem dX12_laysTold_129 : decode cX12_laysTold 129 = .ok (.imul, 1) := by decide +kernel
theorem dX12_laysTold_130 : decode cX12_laysTold 130 = .ok (.iload_n 3, 1) := by decide +kernel
theorem dX12_laysTold_131 : decode cX12_laysTold 131 = .ok (.iadd, 1) := by decide +kernel
theorem dX12_laysTold_132 : decode cX12_laysTold 132 = .ok (.iaload, 1) := by decide +kernel
theorem dX12_laysTold_133 : decode cX12_laysTold 133 = .ok (.iastore, 1) := by decide +kernel
theorem dX12_laysTold_134 : decode cX12_laysTold 134 = .ok (.iinc 3 1, 3) := by decide +kernel
theorem dX12_laysTold_137 : decode cX12_laysTold 137 = .ok (.goto (-53), 3) := by decide +kernel
theorem dX12_laysTold_140 : decode cX12_laysTold 140 = .ok (.return_, 1) := by decide +kernel
theorem dX12_fresh_0 : decode cX12_fresh 0 = .ok (.aload_n 0, 1) := by decide +kernel
theorem dX12_fresh_1 : decode cX12_fresh 1 = .ok (.getfield 141, 3) := by decide +kernel
theorem dX12_fresh_4 : decode cX12_fresh 4 = .ok (.iconst 0, 1) := by decide +kernel
theorem dX12_fresh_5 : decode cX12_fresh 5 = .ok (.iconst 0, 1) := by decide +kernel
theorem dX12_fresh_6 : decode cX12_fresh 6 = .ok (.iastore, 1) := by decide +kernel
theorem dX12_fresh_7 : decode cX12_fresh 7 = .ok (.aload_n 0, 1) := by decide +kernel
theorem dX12_fresh_8 : decode cX12_fresh 8 = .ok (.getfield 141, 3) := by decide +kernel
theorem dX12_fresh_11 : decode cX12_fresh 11 = .ok (.iconst 1, 1) := by decide +kernel
theorem dX12_fresh_12 : decode cX12_fresh 12 = .ok (.aload_n 0, 1) := by decide +kernel
theorem dX12_fresh_13 : decode cX12_fresh 13 = .ok (.getfield 13, 3) := by decide +kernel
theorem dX12_fresh_16 : decode cX12_fresh 16 = .ok (.iconst 4, 1) := by decide +kernel
theorem dX12_fresh_17 : decode cX12_fresh 17 = .ok (.iaload, 1) := by decide +kernel
theorem dX12_fresh_18 : decode cX12_fresh 18 = .ok (.iastore, 1) := by decide +kernel
theorem dX12_fresh_19 : decode cX12_fresh 19 = .ok (.aload_n 0, 1) := by decide +kernel
theorem dX12_fresh_20 : decode cX12_fresh 20 = .ok (.getfield 141, 3) := by decide +kernel
theorem dX12_fresh_23 : decode cX12_fresh 23 = .ok (.iconst 2, 1) := by decide +kernel
theorem dX12_fresh_24 : decode cX12_fresh 24 = .ok (.iconst 0, 1) := by decide +kernel
theorem dX12_fresh_25 : decode cX12_fresh 25 = .ok (.iastore, 1) := by decide +kernel
theorem dX12_fresh_26 : decode cX12_fresh 26 = .ok (.aload_n 0, 1) := by decide +kernel
theorem dX12_fresh_27 : decode cX12_fresh 27 = .ok (.getfield 141, 3) := by decide +kernel
theorem dX12_fresh_30 : decode cX12_fresh 30 = .ok (.iconst 3, 1) := by decide +kernel
theorem dX12_fresh_31 : decode cX12_fresh 31 = .ok (.aload_n 0, 1) := by decide +kernel
theorem dX12_fresh_32 : decode cX12_fresh 32 = .ok (.getfield 13, 3) := by decide +kernel
theorem dX12_fresh_35 : decode cX12_fresh 35 = .ok (.iconst 5, 1) := by decide +kernel
theorem dX12_fresh_36 : decode cX12_fresh 36 = .ok (.iaload, 1) := by decide +kernel
theorem dX12_fresh_37 : decode cX12_fresh 37 = .ok (.iastore, 1) := by decide +kernel
theorem dX12_fresh_38 : decode cX12_fresh 38 = .ok (.iconst 0, 1) := by decide +kernel
theorem dX12_fresh_39 : decode cX12_fresh 39 = .ok (.istore_n 1, 1) := by decide +kernel
theorem dX12_fresh_40 : decode cX12_fresh 40 = .ok (.iload_n 1, 1) := by decide +kernel
theorem dX12_fresh_41 : decode cX12_fresh 41 = .ok (.iconst 5, 1) := by decide +kernel
theorem dX12_fresh_42 : decode cX12_fresh 42 = .ok (.if_icmp .ge 37, 3) := by decide +kernel
theorem dX12_fresh_45 : decode cX12_fresh 45 = .ok (.aload_n 0, 1) := by decide +kernel
theorem dX12_fresh_46 : decode cX12_fresh 46 = .ok (.getfield 141, 3) := by decide +kernel
theorem dX12_fresh_49 : decode cX12_fresh 49 = .ok (.iconst 4, 1) := by decide +kernel
theorem dX12_fresh_50 : decode cX12_fresh 50 = .ok (.iload_n 1, 1) := by decide +kernel
theorem dX12_fresh_51 : decode cX12_fresh 51 = .ok (.iadd, 1) := by decide +kernel
theorem dX12_fresh_52 : decode cX12_fresh 52 = .ok (.iload_n 1, 1) := by decide +kernel
theorem dX12_fresh_53 : decode cX12_fresh 53 = .ok (.aload_n 0, 1) := by decide +kernel
theorem dX12_fresh_54 : decode cX12_fresh 54 = .ok (.getfield 13, 3) := by decide +kernel
theorem dX12_fresh_57 : decode cX12_fresh 57 = .ok (.iconst 1, 1) := by decide +kernel
theorem dX12_fresh_58 : decode cX12_fresh 58 = .ok (.iaload, 1) := by decide +kernel
theorem dX12_fresh_59 : decode cX12_fresh 59 = .ok (.if_icmp .ge 12, 3) := by decide +kernel
theorem dX12_fresh_62 : decode cX12_fresh 62 = .ok (.aload_n 0, 1) := by decide +kernel
theorem dX12_fresh_63 : decode cX12_fresh 63 = .ok (.getfield 38, 3) := by decide +kernel
theorem dX12_fresh_66 : decode cX12_fresh 66 = .ok (.iload_n 1, 1) := by decide +kernel
theorem dX12_fresh_67 : decode cX12_fresh 67 = .ok (.iaload, 1) := by decide +kernel
theorem dX12_fresh_68 : decode cX12_fresh 68 = .ok (.goto 4, 3) := by decide +kernel
theorem dX12_fresh_71 : decode cX12_fresh 71 = .ok (.iconst 0, 1) := by decide +kernel
theorem dX12_fresh_72 : decode cX12_fresh 72 = .ok (.iastore, 1) := by decide +kernel
theorem dX12_fresh_73 : decode cX12_fresh 73 = .ok (.iinc 1 1, 3) := by decide +kernel
theorem dX12_fresh_76 : decode cX12_fresh 76 = .ok (.goto (-36), 3) := by decide +kernel
theorem dX12_fresh_79 : decode cX12_fresh 79 = .ok (.return_, 1) := by decide +kernel
theorem dX12_junction_0 : decode cX12_junction 0 = .ok (.aload_n 0, 1) := by decide +kernel
theorem dX12_junction_1 : decode cX12_junction 1 = .ok (.iconst 0, 1) := by decide +kernel
theorem dX12_junction_2 : decode cX12_junction 2 = .ok (.putfield 194, 3) := by decide +kernel
theorem dX12_junction_5 : decode cX12_junction 5 = .ok (.aload_n 0, 1) := by decide +kernel
theorem dX12_junction_6 : decode cX12_junction 6 = .ok (.invokevirtual 427, 3) := by decide +kernel
theorem dX12_junction_9 : decode cX12_junction 9 = .ok (.ifCond .ne 8, 3) := by decide +kernel
theorem dX12_junction_12 : decode cX12_junction 12 = .ok (.aload_n 0, 1) := by decide +kernel
theorem dX12_junction_13 : decode cX12_junction 13 = .ok (.getfield 229, 3) := by decide +kernel
theorem dX12_junction_16 : decode cX12_junction 16 = .ok (.ireturn, 1) := by decide +kernel
theorem dX12_junction_17 : decode cX12_junction 17 = .ok (.aload_n 0, 1) := by decide +kernel
theorem dX12_junction_18 : decode cX12_junction 18 = .ok (.invokevirtual 430, 3) := by decide +kernel
theorem dX12_junction_21 : decode cX12_junction 21 = .ok (.aload_n 0, 1) := by decide +kernel
theorem dX12_junction_22 : decode cX12_junction 22 = .ok (.invokevirtual 191, 3) := by decide +kernel
theorem dX12_junction_25 : decode cX12_junction 25 = .ok (.aload_n 0, 1) := by decide +kernel
theorem dX12_junction_26 : decode cX12_junction 26 = .ok (.getfield 111, 3) := by decide +kernel
theorem dX12_junction_29 : decode cX12_junction 29 = .ok (.iconst 0, 1) := by decide +kernel
theorem dX12_junction_30 : decode cX12_junction 30 = .ok (.iconst 0, 1) := by decide +kernel
theorem dX12_junction_31 : decode cX12_junction 31 = .ok (.iastore, 1) := by decide +kernel
theorem dX12_junction_32 : decode cX12_junction 32 = .ok (.aload_n 0, 1) := by decide +kernel
theorem dX12_junction_33 : decode cX12_junction 33 = .ok (.getfield 123, 3) := by decide +kernel
theorem dX12_junction_36 : decode cX12_junction 36 = .ok (.iconst 0, 1) := by decide +kernel
theorem dX12_junction_37 : decode cX12_junction 37 = .ok (.iconst 0, 1) := by decide +kernel
theorem dX12_junction_38 : decode cX12_junction 38 = .ok (.iastore, 1) := by decide +kernel
theorem dX12_junction_39 : decode cX12_junction 39 = .ok (.aload_n 0, 1) := by decide +kernel
theorem dX12_junction_40 : decode cX12_junction 40 = .ok (.getfield 132, 3) := by decide +kernel
theorem dX12_junction_43 : decode cX12_junction 43 = .ok (.iconst 0, 1) := by decide +kernel
theorem dX12_junction_44 : decode cX12_junction 44 = .ok (.iconst 0, 1) := by decide +kernel
theorem dX12_junction_45 : decode cX12_junction 45 = .ok (.iastore, 1) := by decide +kernel
theorem dX12_junction_46 : decode cX12_junction 46 = .ok (.aload_n 0, 1) := by decide +kernel
theorem dX12_junction_47 : decode cX12_junction 47 = .ok (.iconst 0, 1) := by decide +kernel
theorem dX12_junction_48 : decode cX12_junction 48 = .ok (.putfield 433, 3) := by decide +kernel
theorem dX12_junction_51 : decode cX12_junction 51 = .ok (.iconst 0, 1) := by decide +kernel
theorem dX12_junction_52 : decode cX12_junction 52 = .ok (.istore_n 1, 1) := by decide +kernel
theorem dX12_junction_53 : decode cX12_junction 53 = .ok (.iload_n 1, 1) := by decide +kernel
theorem dX12_junction_54 : decode cX12_junction 54 = .ok (.iconst 4, 1) := by decide +kernel
theorem dX12_junction_55 : decode cX12_junction 55 = .ok (.if_icmp .ge 16, 3) := by decide +kernel
theorem dX12_junction_58 : decode cX12_junction 58 = .ok (.aload_n 0, 1) := by decide +kernel
theorem dX12_junction_59 : decode cX12_junction 59 = .ok (.getfield 153, 3) := by decide +kernel
theorem dX12_junction_62 : decode cX12_junction 62 = .ok (.iload_n 1, 1) := by decide +kernel
theorem dX12_junction_63 : decode cX12_junction 63 = .ok (.iconst 0, 1) := by decide +kernel
theorem dX12_junction_64 : decode cX12_junction 64 = .ok (.bastore, 1) := by decide +kernel
theorem dX12_junction_65 : decode cX12_junction 65 = .ok (.iinc 1 1, 3) := by decide +kernel
theorem dX12_junction_68 : decode cX12_junction 68 = .ok (.goto (-15), 3) := by decide +kernel
theorem dX12_junction_71 : decode cX12_junction 71 = .ok (.iconst 0, 1) := by decide +kernel
theorem dX12_junction_72 : decode cX12_junction 72 = .ok (.ireturn, 1) := by decide +kernel
theorem dX12_days_0 : decode cX12_days 0 = .ok (.aload_n 0, 1) := by decide +kernel
theorem dX12_days_1 : decode cX12_days 1 = .ok (.iconst 0, 1) := by decide +kernel
theorem dX12_days_2 : decode cX12_days 2 = .ok (.putfield 194, 3) := by decide +kernel
theorem dX12_days_5 : decode cX12_days 5 = .ok (.aload_n 0, 1) := by decide +kernel
theorem dX12_days_6 : decode cX12_days 6 = .ok (.getfield 111, 3) := by decide +kernel
theorem dX12_days_9 : decode cX12_days 9 = .ok (.iconst 5, 1) := by decide +kernel
theorem dX12_days_10 : decode cX12_days 10 = .ok (.iconst 0, 1) := by decide +kernel
theorem dX12_days_11 : decode cX12_days 11 = .ok (.iastore, 1) := by decide +kernel
theorem dX12_days_12 : decode cX12_days 12 = .ok (.aload_n 0, 1) := by decide +kernel
theorem dX12_days_13 : decode cX12_days 13 = .ok (.invokevirtual 395, 3) := by decide +kernel
theorem dX12_days_16 : decode cX12_days 16 = .ok (.aload_n 0, 1) := by decide +kernel
theorem dX12_days_17 : decode cX12_days 17 = .ok (.getfield 218, 3) := by decide +kernel
theorem dX12_days_20 : decode cX12_days 20 = .ok (.ifCond .eq 15, 3) := by decide +kernel
theorem dX12_days_23 : decode cX12_days 23 = .ok (.aload_n 0, 1) := by decide +kernel
theorem dX12_days_24 : decode cX12_days 24 = .ok (.invokevirtual 436, 3) := by decide +kernel
theorem dX12_days_27 : decode cX12_days 27 = .ok (.ifCond .ne (-11), 3) := by decide +kernel
theorem dX12_days_30 : decode cX12_days 30 = .ok (.aload_n 0, 1) := by decide +kernel
theorem dX12_days_31 : decode cX12_days 31 = .ok (.getfield 229, 3) := by decide +kernel
theorem dX12_days_34 : decode cX12_days 34 = .ok (.ireturn, 1) := by decide +kernel
theorem dX12_days_35 : decode cX12_days 35 = .ok (.aload_n 0, 1) := by decide +kernel
theorem dX12_days_36 : decode cX12_days 36 = .ok (.iconst 5, 1) := by decide +kernel
