theorem dL_areStays_130 : decode cL_areStays 130 = .ok (.if_icmp .ne 50, 3) := by decide +kernel
theorem dL_areStays_133 : decode cL_areStays 133 = .ok (.goto 18, 3) := by decide +kernel
theorem dL_areStays_136 : decode cL_areStays 136 = .ok (.iload 9, 2) := by decide +kernel
theorem dL_areStays_138 : decode cL_areStays 138 = .ok (.iload 8, 2) := by decide +kernel
theorem dL_areStays_140 : decode cL_areStays 140 = .ok (.if_icmp .lt 40, 3) := by decide +kernel
theorem dL_areStays_143 : decode cL_areStays 143 = .ok (.iload 9, 2) := by decide +kernel
theorem dL_areStays_145 : decode cL_areStays 145 = .ok (.aload_n 1, 1) := by decide +kernel
theorem dL_areStays_146 : decode cL_areStays 146 = .ok (.iconst 4, 1) := by decide +kernel
theorem dL_areStays_147 : decode cL_areStays 147 = .ok (.iaload, 1) := by decide +kernel
theorem dL_areStays_148 : decode cL_areStays 148 = .ok (.if_icmp .gt 32, 3) := by decide +kernel
theorem dL_areStays_151 : decode cL_areStays 151 = .ok (.iload 10, 2) := by decide +kernel
theorem dL_areStays_153 : decode cL_areStays 153 = .ok (.ifCond .lt 27, 3) := by decide +kernel
theorem dL_areStays_156 : decode cL_areStays 156 = .ok (.iload 10, 2) := by decide +kernel
theorem dL_areStays_158 : decode cL_areStays 158 = .ok (.aload_n 1, 1) := by decide +kernel
theorem dL_areStays_159 : decode cL_areStays 159 = .ok (.iconst 2, 1) := by decide +kernel
theorem dL_areStays_160 : decode cL_areStays 160 = .ok (.iaload, 1) := by decide +kernel
theorem dL_areStays_161 : decode cL_areStays 161 = .ok (.if_icmp .ge 19, 3) := by decide +kernel
theorem dL_areStays_164 : decode cL_areStays 164 = .ok (.aload_n 0, 1) := by decide +kernel
theorem dL_areStays_165 : decode cL_areStays 165 = .ok (.iload 6, 2) := by decide +kernel
theorem dL_areStays_167 : decode cL_areStays 167 = .ok (.iconst 5, 1) := by decide +kernel
theorem dL_areStays_168 : decode cL_areStays 168 = .ok (.invokestatic 137, 3) := by decide +kernel
theorem dL_areStays_171 : decode cL_areStays 171 = .ok (.ldc 18, 2) := by decide +kernel
theorem dL_areStays_173 : decode cL_areStays 173 = .ok (.if_icmp .ne 7, 3) := by decide +kernel
theorem dL_areStays_176 : decode cL_areStays 176 = .ok (.iconst 1, 1) := by decide +kernel
theorem dL_areStays_177 : decode cL_areStays 177 = .ok (.goto 4, 3) := by decide +kernel
theorem dL_areStays_180 : decode cL_areStays 180 = .ok (.iconst 0, 1) := by decide +kernel
theorem dL_areStays_181 : decode cL_areStays 181 = .ok (.istore 5, 2) := by decide +kernel
theorem dL_areStays_183 : decode cL_areStays 183 = .ok (.iconst 0, 1) := by decide +kernel
theorem dL_areStays_184 : decode cL_areStays 184 = .ok (.istore 11, 2) := by decide +kernel
theorem dL_areStays_186 : decode cL_areStays 186 = .ok (.iload 11, 2) := by decide +kernel
theorem dL_areStays_188 : decode cL_areStays 188 = .ok (.iload 6, 2) := by decide +kernel
theorem dL_areStays_190 : decode cL_areStays 190 = .ok (.if_icmp .ge 55, 3) := by decide +kernel
theorem dL_areStays_193 : decode cL_areStays 193 = .ok (.iload 5, 2) := by decide +kernel
theorem dL_areStays_195 : decode cL_areStays 195 = .ok (.ifCond .eq 50, 3) := by decide +kernel
theorem dL_areStays_198 : decode cL_areStays 198 = .ok (.aload_n 0, 1) := by decide +kernel
theorem dL_areStays_199 : decode cL_areStays 199 = .ok (.iload 11, 2) := by decide +kernel
theorem dL_areStays_201 : decode cL_areStays 201 = .ok (.iconst 0, 1) := by decide +kernel
theorem dL_areStays_202 : decode cL_areStays 202 = .ok (.invokestatic 137, 3) := by decide +kernel
theorem dL_areStays_205 : decode cL_areStays 205 = .ok (.iload 7, 2) := by decide +kernel
theorem dL_areStays_207 : decode cL_areStays 207 = .ok (.if_icmp .ne 25, 3) := by decide +kernel
theorem dL_areStays_210 : decode cL_areStays 210 = .ok (.aload_n 0, 1) := by decide +kernel
theorem dL_areStays_211 : decode cL_areStays 211 = .ok (.iload 11, 2) := by decide +kernel
theorem dL_areStays_213 : decode cL_areStays 213 = .ok (.iconst 3, 1) := by decide +kernel
theorem dL_areStays_214 : decode cL_areStays 214 = .ok (.invokestatic 137, 3) := by decide +kernel
theorem dL_areStays_217 : decode cL_areStays 217 = .ok (.ifCond .lt 19, 3) := by decide +kernel
theorem dL_areStays_220 : decode cL_areStays 220 = .ok (.aload_n 0, 1) := by decide +kernel
theorem dL_areStays_221 : decode cL_areStays 221 = .ok (.iload 11, 2) := by decide +kernel
theorem dL_areStays_223 : decode cL_areStays 223 = .ok (.iconst 3, 1) := by decide +kernel
theorem dL_areStays_224 : decode cL_areStays 224 = .ok (.invokestatic 137, 3) := by decide +kernel
theorem dL_areStays_227 : decode cL_areStays 227 = .ok (.iload 8, 2) := by decide +kernel
theorem dL_areStays_229 : decode cL_areStays 229 = .ok (.if_icmp .gt 7, 3) := by decide +kernel
theorem dL_areStays_232 : decode cL_areStays 232 = .ok (.iconst 1, 1) := by decide +kernel
theorem dL_areStays_233 : decode cL_areStays 233 = .ok (.goto 4, 3) := by decide +kernel
theorem dL_areStays_236 : decode cL_areStays 236 = .ok (.iconst 0, 1) := by decide +kernel
theorem dL_areStays_237 : decode cL_areStays 237 = .ok (.istore 5, 2) := by decide +kernel
theorem dL_areStays_239 : decode cL_areStays 239 = .ok (.iinc 11 1, 3) := by decide +kernel
theorem dL_areStays_242 : decode cL_areStays 242 = .ok (.goto (-56), 3) := by decide +kernel
theorem dL_areStays_245 : decode cL_areStays 245 = .ok (.iinc 6 1, 3) := by decide +kernel
theorem dL_areStays_248 : decode cL_areStays 248 = .ok (.goto (-213), 3) := by decide +kernel
theorem dL_areStays_251 : decode cL_areStays 251 = .ok (.iconst 0, 1) := by decide +kernel
theorem dL_areStays_252 : decode cL_areStays 252 = .ok (.istore 6, 2) := by decide +kernel
theorem dL_areStays_254 : decode cL_areStays 254 = .ok (.iload 6, 2) := by decide +kernel
theorem dL_areStays_256 : decode cL_areStays 256 = .ok (.aload_n 1, 1) := by decide +kernel
theorem dL_areStays_257 : decode cL_areStays 257 = .ok (.iconst 1, 1) := by decide +kernel
theorem dL_areStays_258 : decode cL_areStays 258 = .ok (.iaload, 1) := by decide +kernel
theorem dL_areStays_259 : decode cL_areStays 259 = .ok (.if_icmp .ge 179, 3) := by decide +kernel
theorem dL_areStays_262 : decode cL_areStays 262 = .ok (.iload 5, 2) := by decide +kernel
theorem dL_areStays_264 : decode cL_areStays 264 = .ok (.ifCond .eq 174, 3) := by decide +kernel
theorem dL_areStays_267 : decode cL_areStays 267 = .ok (.iconst 0, 1) := by decide +kernel
theorem dL_areStays_268 : decode cL_areStays 268 = .ok (.istore 7, 2) := by decide +kernel
theorem dL_areStays_270 : decode cL_areStays 270 = .ok (.iconst 0, 1) := by decide +kernel
theorem dL_areStays_271 : decode cL_areStays 271 = .ok (.istore 8, 2) := by decide +kernel
theorem dL_areStays_273 : decode cL_areStays 273 = .ok (.iload 8, 2) := by decide +kernel
theorem dL_areStays_275 : decode cL_areStays 275 = .ok (.aload_n 1, 1) := by decide +kernel
theorem dL_areStays_276 : decode cL_areStays 276 = .ok (.iconst 3, 1) := by decide +kernel
theorem dL_areStays_277 : decode cL_areStays 277 = .ok (.iaload, 1) := by decide +kernel
theorem dL_areStays_278 : decode cL_areStays 278 = .ok (.if_icmp .ge 130, 3) := by decide +kernel
theorem dL_areStays_281 : decode cL_areStays 281 = .ok (.aload_n 0, 1) := by decide +kernel
theorem dL_areStays_282 : decode cL_areStays 282 = .ok (.iload 8, 2) := by decide +kernel
theorem dL_areStays_284 : decode cL_areStays 284 = .ok (.iconst 0, 1) := by decide +kernel
theorem dL_areStays_285 : decode cL_areStays 285 = .ok (.invokestatic 137, 3) := by decide +kernel
theorem dL_areStays_288 : decode cL_areStays 288 = .ok (.istore 9, 2) := by decide +kernel
theorem dL_areStays_290 : decode cL_areStays 290 = .ok (.aload_n 0, 1) := by decide +kernel
theorem dL_areStays_291 : decode cL_areStays 291 = .ok (.iload 8, 2) := by decide +kernel
theorem dL_areStays_293 : decode cL_areStays 293 = .ok (.iconst 3, 1) := by decide +kernel
theorem dL_areStays_294 : decode cL_areStays 294 = .ok (.invokestatic 137, 3) := by decide +kernel
theorem dL_areStays_297 : decode cL_areStays 297 = .ok (.ifCond .ge 9, 3) := by decide +kernel
theorem dL_areStays_300 : decode cL_areStays 300 = .ok (.aload_n 1, 1) := by decide +kernel
theorem dL_areStays_301 : decode cL_areStays 301 = .ok (.iconst 4, 1) := by decide +kernel
theorem dL_areStays_302 : decode cL_areStays 302 = .ok (.iaload, 1) := by decide +kernel
theorem dL_areStays_303 : decode cL_areStays 303 = .ok (.goto 10, 3) := by decide +kernel
theorem dL_areStays_306 : decode cL_areStays 306 = .ok (.aload_n 0, 1) := by decide +kernel
theorem dL_areStays_307 : decode cL_areStays 307 = .ok (.iload 8, 2) := by decide +kernel
theorem dL_areStays_309 : decode cL_areStays 309 = .ok (.iconst 3, 1) := by decide +kernel
theorem dL_areStays_310 : decode cL_areStays 310 = .ok (.invokestatic 137, 3) := by decide +kernel
theorem dL_areStays_313 : decode cL_areStays 313 = .ok (.istore 10, 2) := by decide +kernel
theorem dL_areStays_315 : decode cL_areStays 315 = .ok (.aload_n 0, 1) := by decide +kernel
theorem dL_areStays_316 : decode cL_areStays 316 = .ok (.iload 8, 2) := by decide +kernel
theorem dL_areStays_318 : decode cL_areStays 318 = .ok (.iconst 2, 1) := by decide +kernel
theorem dL_areStays_319 : decode cL_areStays 319 = .ok (.invokestatic 137, 3) := by decide +kernel
theorem dL_areStays_322 : decode cL_areStays 322 = .ok (.istore 11, 2) := by decide +kernel
theorem dL_areStays_324 : decode cL_areStays 324 = .ok (.iload 11, 2) := by decide +kernel
theorem dL_areStays_326 : decode cL_areStays 326 = .ok (.iload 10, 2) := by decide +kernel
theorem dL_areStays_328 : decode cL_areStays 328 = .ok (.if_icmp .ge 74, 3) := by decide +kernel
theorem dL_areStays_331 : decode cL_areStays 331 = .ok (.aload_n 0, 1) := by decide +kernel
theorem dL_areStays_332 : decode cL_areStays 332 = .ok (.iload 8, 2) := by decide +kernel
theorem dL_areStays_334 : decode cL_areStays 334 = .ok (.iconst 1, 1) := by decide +kernel
theorem dL_areStays_335 : decode cL_areStays 335 = .ok (.invokestatic 137, 3) := by decide +kernel
theorem dL_areStays_338 : decode cL_areStays 338 = .ok (.iload 6, 2) := by decide +kernel
theorem dL_areStays_340 : decode cL_areStays 340 = .ok (.if_icmp .ne 62, 3) := by decide +kernel
theorem dL_areStays_343 : decode cL_areStays 343 = .ok (.iload 7, 2) := by decide +kernel
theorem dL_areStays_345 : decode cL_areStays 345 = .ok (.bipush 10, 2) := by decide +kernel
theorem dL_areStays_347 : decode cL_areStays 347 = .ok (.aload_n 2, 1) := by decide +kernel
theorem dL_areStays_348 : decode cL_areStays 348 = .ok (.iload 9, 2) := by decide +kernel
theorem dL_areStays_350 : decode cL_areStays 350 = .ok (.iaload, 1) := by decide +kernel
theorem dL_areStays_351 : decode cL_areStays 351 = .ok (.iload 11, 2) := by decide +kernel
theorem dL_areStays_353 : decode cL_areStays 353 = .ok (.iadd, 1) := by decide +kernel
theorem dL_areStays_354 : decode cL_areStays 354 = .ok (.sipush 365, 3) := by decide +kernel
theorem dL_areStays_357 : decode cL_areStays 357 = .ok (.idiv, 1) := by decide +kernel
theorem dL_areStays_358 : decode cL_areStays 358 = .ok (.iadd, 1) := by decide +kernel
theorem dL_areStays_359 : decode cL_areStays 359 = .ok (.iconst 5, 1) := by decide +kernel
theorem dL_areStays_360 : decode cL_areStays 360 = .ok (.aload_n 3, 1) := by decide +kernel
theorem dL_areStays_361 : decode cL_areStays 361 = .ok (.iload 9, 2) := by decide +kernel
theorem dL_areStays_363 : decode cL_areStays 363 = .ok (.iaload, 1) := by decide +kernel
theorem dL_areStays_364 : decode cL_areStays 364 = .ok (.iconst 1, 1) := by decide +kernel
theorem dL_areStays_365 : decode cL_areStays 365 = .ok (.iand, 1) := by decide +kernel
theorem dL_areStays_366 : decode cL_areStays 366 = .ok (.aload_n 3, 1) := by decide +kernel
theorem dL_areStays_367 : decode cL_areStays 367 = .ok (.iload 9, 2) := by decide +kernel
theorem dL_areStays_369 : decode cL_areStays 369 = .ok (.iaload, 1) := by decide +kernel
theorem dL_areStays_370 : decode cL_areStays 370 = .ok (.iconst 1, 1) := by decide +kernel
theorem dL_areStays_371 : decode cL_areStays 371 = .ok (.ishr, 1) := by decide +kernel
theorem dL_areStays_372 : decode cL_areStays 372 = .ok (.iconst 1, 1) := by decide +kernel
theorem dL_areStays_373 : decode cL_areStays 373 = .ok (.iand, 1) := by decide +kernel
theorem dL_areStays_374 : decode cL_areStays 374 = .ok (.iadd, 1) := by decide +kernel
theorem dL_areStays_375 : decode cL_areStays 375 = .ok (.aload_n 3, 1) := by decide +kernel
theorem dL_areStays_376 : decode cL_areStays 376 = .ok (.iload 9, 2) := by decide +kernel
theorem dL_areStays_378 : decode cL_areStays 378 = .ok (.iaload, 1) := by decide +kernel
theorem dL_areStays_379 : decode cL_areStays 379 = .ok (.iconst 2, 1) := by decide +kernel
theorem dL_areStays_380 : decode cL_areStays 380 = .ok (.ishr, 1) := by decide +kernel
theorem dL_areStays_381 : decode cL_areStays 381 = .ok (.iconst 1, 1) := by decide +kernel
theorem dL_areStays_382 : decode cL_areStays 382 = .ok (.iand, 1) := by decide +kernel
theorem dL_areStays_383 : decode cL_areStays 383 = .ok (.iadd, 1) := by decide +kernel
theorem dL_areStays_384 : decode cL_areStays 384 = .ok (.aload_n 3, 1) := by decide +kernel
theorem dL_areStays_385 : decode cL_areStays 385 = .ok (.iload 9, 2) := by decide +kernel
theorem dL_areStays_387 : decode cL_areStays 387 = .ok (.iaload, 1) := by decide +kernel
theorem dL_areStays_388 : decode cL_areStays 388 = .ok (.iconst 3, 1) := by decide +kernel
theorem dL_areStays_389 : decode cL_areStays 389 = .ok (.ishr, 1) := by decide +kernel
theorem dL_areStays_390 : decode cL_areStays 390 = .ok (.iadd, 1) := by decide +kernel
theorem dL_areStays_391 : decode cL_areStays 391 = .ok (.imul, 1) := by decide +kernel
theorem dL_areStays_392 : decode cL_areStays 392 = .ok (.iadd, 1) := by decide +kernel
theorem dL_areStays_393 : decode cL_areStays 393 = .ok (.iadd, 1) := by decide +kernel
theorem dL_areStays_394 : decode cL_areStays 394 = .ok (.istore 7, 2) := by decide +kernel
theorem dL_areStays_396 : decode cL_areStays 396 = .ok (.iinc 11 1, 3) := by decide +kernel
theorem dL_areStays_399 : decode cL_areStays 399 = .ok (.goto (-75), 3) := by decide +kernel
theorem dL_areStays_402 : decode cL_areStays 402 = .ok (.iinc 8 1, 3) := by decide +kernel
theorem dL_areStays_405 : decode cL_areStays 405 = .ok (.goto (-132), 3) := by decide +kernel
theorem dL_areStays_408 : decode cL_areStays 408 = .ok (.aload_n 0, 1) := by decide +kernel
theorem dL_areStays_409 : decode cL_areStays 409 = .ok (.iload 6, 2) := by decide +kernel
theorem dL_areStays_411 : decode cL_areStays 411 = .ok (.invokestatic 141, 3) := by decide +kernel
theorem dL_areStays_414 : decode cL_areStays 414 = .ok (.iload 7, 2) := by decide +kernel
theorem dL_areStays_416 : decode cL_areStays 416 = .ok (.aload 4, 2) := by decide +kernel
theorem dL_areStays_418 : decode cL_areStays 418 = .ok (.iload 6, 2) := by decide +kernel
theorem dL_areStays_420 : decode cL_areStays 420 = .ok (.iaload, 1) := by decide +kernel
theorem dL_areStays_421 : decode cL_areStays 421 = .ok (.isub, 1) := by decide +kernel
theorem dL_areStays_422 : decode cL_areStays 422 = .ok (.if_icmp .ne 7, 3) := by decide +kernel
theorem dL_areStays_425 : decode cL_areStays 425 = .ok (.iconst 1, 1) := by decide +kernel
theorem dL_areStays_426 : decode cL_areStays 426 = .ok (.goto 4, 3) := by decide +kernel
theorem dL_areStays_429 : decode cL_areStays 429 = .ok (.iconst 0, 1) := by decide +kernel
theorem dL_areStays_430 : decode cL_areStays 430 = .ok (.istore 5, 2) := by decide +kernel
theorem dL_areStays_432 : decode cL_areStays 432 = .ok (.iinc 6 1, 3) := by decide +kernel
theorem dL_areStays_435 : decode cL_areStays 435 = .ok (.goto (-181), 3) := by decide +kernel
theorem dL_areStays_438 : decode cL_areStays 438 = .ok (.iload 5, 2) := by decide +kernel
theorem dL_areStays_440 : decode cL_areStays 440 = .ok (.ireturn, 1) := by decide +kernel
theorem dL_areLoads_0 : decode cL_areLoads 0 = .ok (.iconst 1, 1) := by decide +kernel
theorem dL_areLoads_1 : decode cL_areLoads 1 = .ok (.istore_n 3, 1) := by decide +kernel
theorem dL_areLoads_2 : decode cL_areLoads 2 = .ok (.iconst 0, 1) := by decide +kernel
theorem dL_areLoads_3 : decode cL_areLoads 3 = .ok (.istore 4, 2) := by decide +kernel
theorem dL_areLoads_5 : decode cL_areLoads 5 = .ok (.iload 4, 2) := by decide +kernel
theorem dL_areLoads_7 : decode cL_areLoads 7 = .ok (.iconst 5, 1) := by decide +kernel
theorem dL_areLoads_8 : decode cL_areLoads 8 = .ok (.if_icmp .ge 121, 3) := by decide +kernel
theorem dL_areLoads_11 : decode cL_areLoads 11 = .ok (.iload_n 3, 1) := by decide +kernel
theorem dL_areLoads_12 : decode cL_areLoads 12 = .ok (.ifCond .eq 117, 3) := by decide +kernel
theorem dL_areLoads_15 : decode cL_areLoads 15 = .ok (.iconst 0, 1) := by decide +kernel
theorem dL_areLoads_16 : decode cL_areLoads 16 = .ok (.istore 5, 2) := by decide +kernel
theorem dL_areLoads_18 : decode cL_areLoads 18 = .ok (.iconst 0, 1) := by decide +kernel
theorem dL_areLoads_19 : decode cL_areLoads 19 = .ok (.istore 6, 2) := by decide +kernel
theorem dL_areLoads_21 : decode cL_areLoads 21 = .ok (.iload 6, 2) := by decide +kernel
theorem dL_areLoads_23 : decode cL_areLoads 23 = .ok (.aload_n 1, 1) := by decide +kernel
theorem dL_areLoads_24 : decode cL_areLoads 24 = .ok (.iconst 0, 1) := by decide +kernel
theorem dL_areLoads_25 : decode cL_areLoads 25 = .ok (.iaload, 1) := by decide +kernel
theorem dL_areLoads_26 : decode cL_areLoads 26 = .ok (.if_icmp .ge 80, 3) := by decide +kernel
theorem dL_areLoads_29 : decode cL_areLoads 29 = .ok (.iload 5, 2) := by decide +kernel
theorem dL_areLoads_31 : decode cL_areLoads 31 = .ok (.aload_n 0, 1) := by decide +kernel
theorem dL_areLoads_32 : decode cL_areLoads 32 = .ok (.iload 6, 2) := by decide +kernel
theorem dL_areLoads_34 : decode cL_areLoads 34 = .ok (.bipush 6, 2) := by decide +kernel
theorem dL_areLoads_36 : decode cL_areLoads 36 = .ok (.invokestatic 119, 3) := by decide +kernel
theorem dL_areLoads_39 : decode cL_areLoads 39 = .ok (.iload 4, 2) := by decide +kernel
theorem dL_areLoads_41 : decode cL_areLoads 41 = .ok (.if_icmp .ne 55, 3) := by decide +kernel
theorem dL_areLoads_44 : decode cL_areLoads 44 = .ok (.iconst 2, 1) := by decide +kernel
theorem dL_areLoads_45 : decode cL_areLoads 45 = .ok (.aload_n 0, 1) := by decide +kernel
theorem dL_areLoads_46 : decode cL_areLoads 46 = .ok (.iload 6, 2) := by decide +kernel
theorem dL_areLoads_48 : decode cL_areLoads 48 = .ok (.iconst 0, 1) := by decide +kernel
theorem dL_areLoads_49 : decode cL_areLoads 49 = .ok (.invokestatic 119, 3) := by decide +kernel
theorem dL_areLoads_52 : decode cL_areLoads 52 = .ok (.ifCond .ge 7, 3) := by decide +kernel
theorem dL_areLoads_55 : decode cL_areLoads 55 = .ok (.iconst 0, 1) := by decide +kernel
theorem dL_areLoads_56 : decode cL_areLoads 56 = .ok (.goto 4, 3) := by decide +kernel
theorem dL_areLoads_59 : decode cL_areLoads 59 = .ok (.iconst 3, 1) := by decide +kernel
theorem dL_areLoads_60 : decode cL_areLoads 60 = .ok (.iadd, 1) := by decide +kernel
theorem dL_areLoads_61 : decode cL_areLoads 61 = .ok (.aload_n 2, 1) := by decide +kernel
theorem dL_areLoads_62 : decode cL_areLoads 62 = .ok (.iload 6, 2) := by decide +kernel
theorem dL_areLoads_64 : decode cL_areLoads 64 = .ok (.iaload, 1) := by decide +kernel
theorem dL_areLoads_65 : decode cL_areLoads 65 = .ok (.iconst 1, 1) := by decide +kernel
theorem dL_areLoads_66 : decode cL_areLoads 66 = .ok (.iand, 1) := by decide +kernel
theorem dL_areLoads_67 : decode cL_areLoads 67 = .ok (.iadd, 1) := by decide +kernel
theorem dL_areLoads_68 : decode cL_areLoads 68 = .ok (.aload_n 2, 1) := by decide +kernel
theorem dL_areLoads_69 : decode cL_areLoads 69 = .ok (.iload 6, 2) := by decide +kernel
theorem dL_areLoads_71 : decode cL_areLoads 71 = .ok (.iaload, 1) := by decide +kernel
theorem dL_areLoads_72 : decode cL_areLoads 72 = .ok (.iconst 1, 1) := by decide +kernel
theorem dL_areLoads_73 : decode cL_areLoads 73 = .ok (.ishr, 1) := by decide +kernel
theorem dL_areLoads_74 : decode cL_areLoads 74 = .ok (.iconst 1, 1) := by decide +kernel
theorem dL_areLoads_75 : decode cL_areLoads 75 = .ok (.iand, 1) := by decide +kernel
theorem dL_areLoads_76 : decode cL_areLoads 76 = .ok (.iadd, 1) := by decide +kernel
theorem dL_areLoads_77 : decode cL_areLoads 77 = .ok (.aload_n 2, 1) := by decide +kernel
theorem dL_areLoads_78 : decode cL_areLoads 78 = .ok (.iload 6, 2) := by decide +kernel
theorem dL_areLoads_80 : decode cL_areLoads 80 = .ok (.iaload, 1) := by decide +kernel
theorem dL_areLoads_81 : decode cL_areLoads 81 = .ok (.iconst 2, 1) := by decide +kernel
theorem dL_areLoads_82 : decode cL_areLoads 82 = .ok (.ishr, 1) := by decide +kernel
theorem dL_areLoads_83 : decode cL_areLoads 83 = .ok (.iconst 1, 1) := by decide +kernel
theorem dL_areLoads_84 : decode cL_areLoads 84 = .ok (.iand, 1) := by decide +kernel
theorem dL_areLoads_85 : decode cL_areLoads 85 = .ok (.iadd, 1) := by decide +kernel
theorem dL_areLoads_86 : decode cL_areLoads 86 = .ok (.aload_n 2, 1) := by decide +kernel
theorem dL_areLoads_87 : decode cL_areLoads 87 = .ok (.iload 6, 2) := by decide +kernel
theorem dL_areLoads_89 : decode cL_areLoads 89 = .ok (.iaload, 1) := by decide +kernel
theorem dL_areLoads_90 : decode cL_areLoads 90 = .ok (.iconst 3, 1) := by decide +kernel
theorem dL_areLoads_91 : decode cL_areLoads 91 = .ok (.ishr, 1) := by decide +kernel
theorem dL_areLoads_92 : decode cL_areLoads 92 = .ok (.iadd, 1) := by decide +kernel
theorem dL_areLoads_93 : decode cL_areLoads 93 = .ok (.goto 4, 3) := by decide +kernel
theorem dL_areLoads_96 : decode cL_areLoads 96 = .ok (.iconst 0, 1) := by decide +kernel
theorem dL_areLoads_97 : decode cL_areLoads 97 = .ok (.iadd, 1) := by decide +kernel
theorem dL_areLoads_98 : decode cL_areLoads 98 = .ok (.istore 5, 2) := by decide +kernel
theorem dL_areLoads_100 : decode cL_areLoads 100 = .ok (.iinc 6 1, 3) := by decide +kernel
theorem dL_areLoads_103 : decode cL_areLoads 103 = .ok (.goto (-82), 3) := by decide +kernel
theorem dL_areLoads_106 : decode cL_areLoads 106 = .ok (.aload_n 0, 1) := by decide +kernel
theorem dL_areLoads_107 : decode cL_areLoads 107 = .ok (.iload 4, 2) := by decide +kernel
theorem dL_areLoads_109 : decode cL_areLoads 109 = .ok (.invokestatic 143, 3) := by decide +kernel
theorem dL_areLoads_112 : decode cL_areLoads 112 = .ok (.iload 5, 2) := by decide +kernel
theorem dL_areLoads_114 : decode cL_areLoads 114 = .ok (.if_icmp .ne 7, 3) := by decide +kernel
theorem dL_areLoads_117 : decode cL_areLoads 117 = .ok (.iconst 1, 1) := by decide +kernel
theorem dL_areLoads_118 : decode cL_areLoads 118 = .ok (.goto 4, 3) := by decide +kernel
theorem dL_areLoads_121 : decode cL_areLoads 121 = .ok (.iconst 0, 1) := by decide +kernel
theorem dL_areLoads_122 : decode cL_areLoads 122 = .ok (.istore_n 3, 1) := by decide +kernel
theorem dL_areLoads_123 : decode cL_areLoads 123 = .ok (.iinc 4 1, 3) := by decide +kernel
theorem dL_areLoads_126 : decode cL_areLoads 126 = .ok (.goto (-121), 3) := by decide +kernel
theorem dL_areLoads_129 : decode cL_areLoads 129 = .ok (.iload_n 3, 1) := by decide +kernel
theorem dL_areLoads_130 : decode cL_areLoads 130 = .ok (.ireturn, 1) := by decide +kernel
theorem dL_makes_0 : decode cL_makes 0 = .ok (.iload 6, 2) := by decide +kernel
theorem dL_makes_2 : decode cL_makes 2 = .ok (.iconst 3, 1) := by decide +kernel
theorem dL_makes_3 : decode cL_makes 3 = .ok (.invokestatic 145, 3) := by decide +kernel
theorem dL_makes_6 : decode cL_makes 6 = .ok (.ifCond .gt 10, 3) := by decide +kernel
theorem dL_makes_9 : decode cL_makes 9 = .ok (.aload_n 1, 1) := by decide +kernel
theorem dL_makes_10 : decode cL_makes 10 = .ok (.iconst 1, 1) := by decide +kernel
theorem dL_makes_11 : decode cL_makes 11 = .ok (.iaload, 1) := by decide +kernel
theorem dL_makes_12 : decode cL_makes 12 = .ok (.iconst 4, 1) := by decide +kernel
theorem dL_makes_13 : decode cL_makes 13 = .ok (.if_icmp .ne 152, 3) := by decide +kernel
theorem dL_makes_16 : decode cL_makes 16 = .ok (.iload 7, 2) := by decide +kernel
theorem dL_makes_18 : decode cL_makes 18 = .ok (.sipush 6500, 3) := by decide +kernel
theorem dL_makes_21 : decode cL_makes 21 = .ok (.invokestatic 145, 3) := by decide +kernel
theorem dL_makes_24 : decode cL_makes 24 = .ok (.istore 8, 2) := by decide +kernel
theorem dL_makes_26 : decode cL_makes 26 = .ok (.iload 7, 2) := by decide +kernel
theorem dL_makes_28 : decode cL_makes 28 = .ok (.bipush 13, 2) := by decide +kernel
theorem dL_makes_30 : decode cL_makes 30 = .ok (.ishr, 1) := by decide +kernel
theorem dL_makes_31 : decode cL_makes 31 = .ok (.iconst 3, 1) := by decide +kernel
theorem dL_makes_32 : decode cL_makes 32 = .ok (.invokestatic 145, 3) := by decide +kernel
theorem dL_makes_35 : decode cL_makes 35 = .ok (.ifCond .ne 16, 3) := by decide +kernel
theorem dL_makes_38 : decode cL_makes 38 = .ok (.iload 7, 2) := by decide +kernel
theorem dL_makes_40 : decode cL_makes 40 = .ok (.bipush 15, 2) := by decide +kernel
theorem dL_makes_42 : decode cL_makes 42 = .ok (.ishr, 1) := by decide +kernel
theorem dL_makes_43 : decode cL_makes 43 = .ok (.bipush 16, 2) := by decide +kernel
theorem dL_makes_45 : decode cL_makes 45 = .ok (.invokestatic 145, 3) := by decide +kernel
theorem dL_makes_48 : decode cL_makes 48 = .ok (.goto 4, 3) := by decide +kernel
theorem dL_makes_51 : decode cL_makes 51 = .ok (.iconst 0, 1) := by decide +kernel
theorem dL_makes_52 : decode cL_makes 52 = .ok (.istore 9, 2) := by decide +kernel
theorem dL_makes_54 : decode cL_makes 54 = .ok (.iload 7, 2) := by decide +kernel
theorem dL_makes_56 : decode cL_makes 56 = .ok (.bipush 19, 2) := by decide +kernel
theorem dL_makes_58 : decode cL_makes 58 = .ok (.ishr, 1) := by decide +kernel
theorem dL_makes_59 : decode cL_makes 59 = .ok (.iconst 3, 1) := by decide +kernel
theorem dL_makes_60 : decode cL_makes 60 = .ok (.invokestatic 145, 3) := by decide +kernel
theorem dL_makes_63 : decode cL_makes 63 = .ok (.istore 10, 2) := by decide +kernel
theorem dL_makes_65 : decode cL_makes 65 = .ok (.aload_n 0, 1) := by decide +kernel
theorem dL_makes_66 : decode cL_makes 66 = .ok (.iload 8, 2) := by decide +kernel
theorem dL_makes_68 : decode cL_makes 68 = .ok (.iload 9, 2) := by decide +kernel
theorem dL_makes_70 : decode cL_makes 70 = .ok (.iload 10, 2) := by decide +kernel
theorem dL_makes_72 : decode cL_makes 72 = .ok (.iload 6, 2) := by decide +kernel
theorem dL_makes_74 : decode cL_makes 74 = .ok (.iconst 2, 1) := by decide +kernel
theorem dL_makes_75 : decode cL_makes 75 = .ok (.ishr, 1) := by decide +kernel
theorem dL_makes_76 : decode cL_makes 76 = .ok (.bipush 51, 2) := by decide +kernel
theorem dL_makes_78 : decode cL_makes 78 = .ok (.invokestatic 145, 3) := by decide +kernel
theorem dL_makes_81 : decode cL_makes 81 = .ok (.iload 6, 2) := by decide +kernel
theorem dL_makes_83 : decode cL_makes 83 = .ok (.bipush 8, 2) := by decide +kernel
theorem dL_makes_85 : decode cL_makes 85 = .ok (.ishr, 1) := by decide +kernel
theorem dL_makes_86 : decode cL_makes 86 = .ok (.iconst 4, 1) := by decide +kernel
theorem dL_makes_87 : decode cL_makes 87 = .ok (.invokestatic 145, 3) := by decide +kernel
theorem dL_makes_90 : decode cL_makes 90 = .ok (.invokestatic 148, 3) := by decide +kernel
theorem dL_makes_93 : decode cL_makes 93 = .ok (.istore 11, 2) := by decide +kernel
theorem dL_makes_95 : decode cL_makes 95 = .ok (.aload_n 1, 1) := by decide +kernel
theorem dL_makes_96 : decode cL_makes 96 = .ok (.iconst 0, 1) := by decide +kernel
theorem dL_makes_97 : decode cL_makes 97 = .ok (.iaload, 1) := by decide +kernel
theorem dL_makes_98 : decode cL_makes 98 = .ok (.bipush 16, 2) := by decide +kernel
theorem dL_makes_100 : decode cL_makes 100 = .ok (.if_icmp .ne 16, 3) := by decide +kernel
theorem dL_makes_103 : decode cL_makes 103 = .ok (.iload 11, 2) := by decide +kernel
theorem dL_makes_105 : decode cL_makes 105 = .ok (.ldc 21, 2) := by decide +kernel
theorem dL_makes_107 : decode cL_makes 107 = .ok (.if_icmp .ne 7, 3) := by decide +kernel
theorem dL_makes_110 : decode cL_makes 110 = .ok (.iconst 1, 1) := by decide +kernel
theorem dL_makes_111 : decode cL_makes 111 = .ok (.goto 4, 3) := by decide +kernel
theorem dL_makes_114 : decode cL_makes 114 = .ok (.iconst 0, 1) := by decide +kernel
theorem dL_makes_115 : decode cL_makes 115 = .ok (.ireturn, 1) := by decide +kernel
theorem dL_makes_116 : decode cL_makes 116 = .ok (.aload_n 2, 1) := by decide +kernel
theorem dL_makes_117 : decode cL_makes 117 = .ok (.aload_n 1, 1) := by decide +kernel
theorem dL_makes_118 : decode cL_makes 118 = .ok (.iconst 0, 1) := by decide +kernel
theorem dL_makes_119 : decode cL_makes 119 = .ok (.iaload, 1) := by decide +kernel
theorem dL_makes_120 : decode cL_makes 120 = .ok (.iload 8, 2) := by decide +kernel
theorem dL_makes_122 : decode cL_makes 122 = .ok (.aload_n 1, 1) := by decide +kernel
theorem dL_makes_123 : decode cL_makes 123 = .ok (.iconst 4, 1) := by decide +kernel
theorem dL_makes_124 : decode cL_makes 124 = .ok (.iaload, 1) := by decide +kernel
theorem dL_makes_125 : decode cL_makes 125 = .ok (.isub, 1) := by decide +kernel
theorem dL_makes_126 : decode cL_makes 126 = .ok (.iastore, 1) := by decide +kernel
theorem dL_makes_127 : decode cL_makes 127 = .ok (.aload_n 3, 1) := by decide +kernel
theorem dL_makes_128 : decode cL_makes 128 = .ok (.aload_n 1, 1) := by decide +kernel
theorem dL_makes_129 : decode cL_makes 129 = .ok (.iconst 0, 1) := by decide +kernel
theorem dL_makes_130 : decode cL_makes 130 = .ok (.iaload, 1) := by decide +kernel
theorem dL_makes_131 : decode cL_makes 131 = .ok (.iload 9, 2) := by decide +kernel
theorem dL_makes_133 : decode cL_makes 133 = .ok (.iastore, 1) := by decide +kernel
theorem dL_makes_134 : decode cL_makes 134 = .ok (.aload 4, 2) := by decide +kernel
theorem dL_makes_136 : decode cL_makes 136 = .ok (.aload_n 1, 1) := by decide +kernel
theorem dL_makes_137 : decode cL_makes 137 = .ok (.iconst 0, 1) := by decide +kernel
theorem dL_makes_138 : decode cL_makes 138 = .ok (.iaload, 1) := by decide +kernel
theorem dL_makes_139 : decode cL_makes 139 = .ok (.iload 10, 2) := by decide +kernel
theorem dL_makes_141 : decode cL_makes 141 = .ok (.iastore, 1) := by decide +kernel
theorem dL_makes_142 : decode cL_makes 142 = .ok (.aload_n 1, 1) := by decide +kernel
theorem dL_makes_143 : decode cL_makes 143 = .ok (.iconst 0, 1) := by decide +kernel
theorem dL_makes_144 : decode cL_makes 144 = .ok (.dup2, 1) := by decide +kernel
theorem dL_makes_145 : decode cL_makes 145 = .ok (.iaload, 1) := by decide +kernel
theorem dL_makes_146 : decode cL_makes 146 = .ok (.iconst 1, 1) := by decide +kernel
theorem dL_makes_147 : decode cL_makes 147 = .ok (.iadd, 1) := by decide +kernel
theorem dL_makes_148 : decode cL_makes 148 = .ok (.iastore, 1) := by decide +kernel
theorem dL_makes_149 : decode cL_makes 149 = .ok (.iload 11, 2) := by decide +kernel
theorem dL_makes_151 : decode cL_makes 151 = .ok (.aload_n 1, 1) := by decide +kernel
theorem dL_makes_152 : decode cL_makes 152 = .ok (.iconst 0, 1) := by decide +kernel
theorem dL_makes_153 : decode cL_makes 153 = .ok (.iaload, 1) := by decide +kernel
theorem dL_makes_154 : decode cL_makes 154 = .ok (.iconst 1, 1) := by decide +kernel
theorem dL_makes_155 : decode cL_makes 155 = .ok (.isub, 1) := by decide +kernel
theorem dL_makes_156 : decode cL_makes 156 = .ok (.if_icmp .ne 7, 3) := by decide +kernel
theorem dL_makes_159 : decode cL_makes 159 = .ok (.iconst 1, 1) := by decide +kernel
theorem dL_makes_160 : decode cL_makes 160 = .ok (.goto 4, 3) := by decide +kernel
theorem dL_makes_163 : decode cL_makes 163 = .ok (.iconst 0, 1) := by decide +kernel
theorem dL_makes_164 : decode cL_makes 164 = .ok (.ireturn, 1) := by decide +kernel
theorem dL_makes_165 : decode cL_makes 165 = .ok (.aload 5, 2) := by decide +kernel
theorem dL_makes_167 : decode cL_makes 167 = .ok (.aload_n 1, 1) := by decide +kernel
theorem dL_makes_168 : decode cL_makes 168 = .ok (.iconst 1, 1) := by decide +kernel
theorem dL_makes_169 : decode cL_makes 169 = .ok (.iaload, 1) := by decide +kernel
theorem dL_makes_170 : decode cL_makes 170 = .ok (.iconst 1, 1) := by decide +kernel
theorem dL_makes_171 : decode cL_makes 171 = .ok (.iload 7, 2) := by decide +kernel
theorem dL_makes_173 : decode cL_makes 173 = .ok (.iconst 4, 1) := by decide +kernel
theorem dL_makes_174 : decode cL_makes 174 = .ok (.invokestatic 145, 3) := by decide +kernel
theorem dL_makes_177 : decode cL_makes 177 = .ok (.iadd, 1) := by decide +kernel
theorem dL_makes_178 : decode cL_makes 178 = .ok (.iastore, 1) := by decide +kernel
theorem dL_makes_179 : decode cL_makes 179 = .ok (.aload_n 1, 1) := by decide +kernel
theorem dL_makes_180 : decode cL_makes 180 = .ok (.iconst 1, 1) := by decide +kernel
theorem dL_makes_181 : decode cL_makes 181 = .ok (.dup2, 1) := by decide +kernel
theorem dL_makes_182 : decode cL_makes 182 = .ok (.iaload, 1) := by decide +kernel
theorem dL_makes_183 : decode cL_makes 183 = .ok (.iconst 1, 1) := by decide +kernel
theorem dL_makes_184 : decode cL_makes 184 = .ok (.iadd, 1) := by decide +kernel
theorem dL_makes_185 : decode cL_makes 185 = .ok (.iastore, 1) := by decide +kernel
theorem dL_makes_186 : decode cL_makes 186 = .ok (.aload_n 0, 1) := by decide +kernel
theorem dL_makes_187 : decode cL_makes 187 = .ok (.iload 6, 2) := by decide +kernel
theorem dL_makes_189 : decode cL_makes 189 = .ok (.iconst 2, 1) := by decide +kernel
theorem dL_makes_190 : decode cL_makes 190 = .ok (.ishr, 1) := by decide +kernel
theorem dL_makes_191 : decode cL_makes 191 = .ok (.bipush 51, 2) := by decide +kernel
theorem dL_makes_193 : decode cL_makes 193 = .ok (.invokestatic 145, 3) := by decide +kernel
theorem dL_makes_196 : decode cL_makes 196 = .ok (.iload 6, 2) := by decide +kernel
theorem dL_makes_198 : decode cL_makes 198 = .ok (.bipush 8, 2) := by decide +kernel
theorem dL_makes_200 : decode cL_makes 200 = .ok (.ishr, 1) := by decide +kernel
theorem dL_makes_201 : decode cL_makes 201 = .ok (.iconst 4, 1) := by decide +kernel
theorem dL_makes_202 : decode cL_makes 202 = .ok (.invokestatic 145, 3) := by decide +kernel
theorem dL_makes_205 : decode cL_makes 205 = .ok (.aload 5, 2) := by decide +kernel
theorem dL_makes_207 : decode cL_makes 207 = .ok (.aload_n 1, 1) := by decide +kernel
theorem dL_makes_208 : decode cL_makes 208 = .ok (.iconst 1, 1) := by decide +kernel
theorem dL_makes_209 : decode cL_makes 209 = .ok (.iaload, 1) := by decide +kernel
theorem dL_makes_210 : decode cL_makes 210 = .ok (.iconst 1, 1) := by decide +kernel
theorem dL_makes_211 : decode cL_makes 211 = .ok (.isub, 1) := by decide +kernel
theorem dL_makes_212 : decode cL_makes 212 = .ok (.iaload, 1) := by decide +kernel
theorem dL_makes_213 : decode cL_makes 213 = .ok (.invokestatic 151, 3) := by decide +kernel
theorem dL_makes_216 : decode cL_makes 216 = .ok (.aload_n 1, 1) := by decide +kernel
theorem dL_makes_217 : decode cL_makes 217 = .ok (.iconst 1, 1) := by decide +kernel
theorem dL_makes_218 : decode cL_makes 218 = .ok (.iaload, 1) := by decide +kernel
theorem dL_makes_219 : decode cL_makes 219 = .ok (.iconst 1, 1) := by decide +kernel
theorem dL_makes_220 : decode cL_makes 220 = .ok (.isub, 1) := by decide +kernel
theorem dL_makes_221 : decode cL_makes 221 = .ok (.if_icmp .ne 65, 3) := by decide +kernel
theorem dL_makes_224 : decode cL_makes 224 = .ok (.aload_n 0, 1) := by decide +kernel
theorem dL_makes_225 : decode cL_makes 225 = .ok (.aload_n 1, 1) := by decide +kernel
theorem dL_makes_226 : decode cL_makes 226 = .ok (.iconst 1, 1) := by decide +kernel
theorem dL_makes_227 : decode cL_makes 227 = .ok (.iaload, 1) := by decide +kernel
theorem dL_makes_228 : decode cL_makes 228 = .ok (.iconst 1, 1) := by decide +kernel
theorem dL_makes_229 : decode cL_makes 229 = .ok (.isub, 1) := by decide +kernel
theorem dL_makes_230 : decode cL_makes 230 = .ok (.iconst 0, 1) := by decide +kernel
theorem dL_makes_231 : decode cL_makes 231 = .ok (.bipush 17, 2) := by decide +kernel
theorem dL_makes_233 : decode cL_makes 233 = .ok (.aload_n 1, 1) := by decide +kernel
theorem dL_makes_234 : decode cL_makes 234 = .ok (.iconst 4, 1) := by decide +kernel
theorem dL_makes_235 : decode cL_makes 235 = .ok (.iaload, 1) := by decide +kernel
theorem dL_makes_236 : decode cL_makes 236 = .ok (.iload 7, 2) := by decide +kernel
theorem dL_makes_238 : decode cL_makes 238 = .ok (.iconst 4, 1) := by decide +kernel
theorem dL_makes_239 : decode cL_makes 239 = .ok (.ishr, 1) := by decide +kernel
theorem dL_makes_240 : decode cL_makes 240 = .ok (.sipush 900, 3) := by decide +kernel
theorem dL_makes_243 : decode cL_makes 243 = .ok (.invokestatic 145, 3) := by decide +kernel
theorem dL_makes_246 : decode cL_makes 246 = .ok (.iadd, 1) := by decide +kernel
theorem dL_makes_247 : decode cL_makes 247 = .ok (.invokestatic 154, 3) := by decide +kernel
theorem dL_makes_250 : decode cL_makes 250 = .ok (.ifCond .ne 36, 3) := by decide +kernel
theorem dL_makes_253 : decode cL_makes 253 = .ok (.aload_n 0, 1) := by decide +kernel
theorem dL_makes_254 : decode cL_makes 254 = .ok (.aload_n 1, 1) := by decide +kernel
theorem dL_makes_255 : decode cL_makes 255 = .ok (.iconst 1, 1) := by decide +kernel
theorem dL_makes_256 : decode cL_makes 256 = .ok (.iaload, 1) := by decide +kernel
theorem dL_makes_257 : decode cL_makes 257 = .ok (.iconst 1, 1) := by decide +kernel
theorem dL_makes_258 : decode cL_makes 258 = .ok (.isub, 1) := by decide +kernel
theorem dL_makes_259 : decode cL_makes 259 = .ok (.bipush 15, 2) := by decide +kernel
theorem dL_makes_261 : decode cL_makes 261 = .ok (.aload_n 1, 1) := by decide +kernel
theorem dL_makes_262 : decode cL_makes 262 = .ok (.iconst 4, 1) := by decide +kernel
theorem dL_makes_263 : decode cL_makes 263 = .ok (.iaload, 1) := by decide +kernel
theorem dL_makes_264 : decode cL_makes 264 = .ok (.iload 7, 2) := by decide +kernel
theorem dL_makes_266 : decode cL_makes 266 = .ok (.bipush 14, 2) := by decide +kernel
theorem dL_makes_268 : decode cL_makes 268 = .ok (.ishr, 1) := by decide +kernel
theorem dL_makes_269 : decode cL_makes 269 = .ok (.sipush 900, 3) := by decide +kernel
theorem dL_makes_272 : decode cL_makes 272 = .ok (.invokestatic 145, 3) := by decide +kernel
theorem dL_makes_275 : decode cL_makes 275 = .ok (.iadd, 1) := by decide +kernel
theorem dL_makes_276 : decode cL_makes 276 = .ok (.invokestatic 157, 3) := by decide +kernel
theorem dL_makes_279 : decode cL_makes 279 = .ok (.ifCond .ne 7, 3) := by decide +kernel
theorem dL_makes_282 : decode cL_makes 282 = .ok (.iconst 1, 1) := by decide +kernel
theorem dL_makes_283 : decode cL_makes 283 = .ok (.goto 4, 3) := by decide +kernel
theorem dL_makes_286 : decode cL_makes 286 = .ok (.iconst 0, 1) := by decide +kernel
theorem dL_makes_287 : decode cL_makes 287 = .ok (.ireturn, 1) := by decide +kernel
theorem dL_orders_0 : decode cL_orders 0 = .ok (.aload_n 1, 1) := by decide +kernel
theorem dL_orders_1 : decode cL_orders 1 = .ok (.iconst 2, 1) := by decide +kernel
theorem dL_orders_2 : decode cL_orders 2 = .ok (.iaload, 1) := by decide +kernel
theorem dL_orders_3 : decode cL_orders 3 = .ok (.bipush 32, 2) := by decide +kernel
theorem dL_orders_5 : decode cL_orders 5 = .ok (.if_icmp .ne 5, 3) := by decide +kernel
theorem dL_orders_8 : decode cL_orders 8 = .ok (.iconst 1, 1) := by decide +kernel
theorem dL_orders_9 : decode cL_orders 9 = .ok (.ireturn, 1) := by decide +kernel
theorem dL_orders_10 : decode cL_orders 10 = .ok (.iload 4, 2) := by decide +kernel
theorem dL_orders_12 : decode cL_orders 12 = .ok (.aload_n 1, 1) := by decide +kernel
theorem dL_orders_13 : decode cL_orders 13 = .ok (.iconst 0, 1) := by decide +kernel
theorem dL_orders_14 : decode cL_orders 14 = .ok (.iaload, 1) := by decide +kernel
theorem dL_orders_15 : decode cL_orders 15 = .ok (.invokestatic 145, 3) := by decide +kernel
theorem dL_orders_18 : decode cL_orders 18 = .ok (.istore 6, 2) := by decide +kernel
theorem dL_orders_20 : decode cL_orders 20 = .ok (.iload 4, 2) := by decide +kernel
theorem dL_orders_22 : decode cL_orders 22 = .ok (.iconst 5, 1) := by decide +kernel
theorem dL_orders_23 : decode cL_orders 23 = .ok (.ishr, 1) := by decide +kernel
theorem dL_orders_24 : decode cL_orders 24 = .ok (.iconst 4, 1) := by decide +kernel
theorem dL_orders_25 : decode cL_orders 25 = .ok (.invokestatic 145, 3) := by decide +kernel
theorem dL_orders_28 : decode cL_orders 28 = .ok (.ifCond .le 7, 3) := by decide +kernel
theorem dL_orders_31 : decode cL_orders 31 = .ok (.iconst 0, 1) := by decide +kernel
theorem dL_orders_32 : decode cL_orders 32 = .ok (.goto 14, 3) := by decide +kernel
theorem dL_orders_35 : decode cL_orders 35 = .ok (.iconst 1, 1) := by decide +kernel
theorem dL_orders_36 : decode cL_orders 36 = .ok (.iload 4, 2) := by decide +kernel
theorem dL_orders_38 : decode cL_orders 38 = .ok (.bipush 7, 2) := by decide +kernel
theorem dL_orders_40 : decode cL_orders 40 = .ok (.ishr, 1) := by decide +kernel
theorem dL_orders_41 : decode cL_orders 41 = .ok (.iconst 2, 1) := by decide +kernel
theorem dL_orders_42 : decode cL_orders 42 = .ok (.invokestatic 145, 3) := by decide +kernel
theorem dL_orders_45 : decode cL_orders 45 = .ok (.iadd, 1) := by decide +kernel
theorem dL_orders_46 : decode cL_orders 46 = .ok (.istore 7, 2) := by decide +kernel
theorem dL_orders_48 : decode cL_orders 48 = .ok (.aload_n 1, 1) := by decide +kernel
theorem dL_orders_49 : decode cL_orders 49 = .ok (.iconst 4, 1) := by decide +kernel
theorem dL_orders_50 : decode cL_orders 50 = .ok (.iaload, 1) := by decide +kernel
theorem dL_orders_51 : decode cL_orders 51 = .ok (.iload 5, 2) := by decide +kernel
theorem dL_orders_53 : decode cL_orders 53 = .ok (.iconst 3, 1) := by decide +kernel
theorem dL_orders_54 : decode cL_orders 54 = .ok (.invokestatic 145, 3) := by decide +kernel
theorem dL_orders_57 : decode cL_orders 57 = .ok (.ifCond .le 7, 3) := by decide +kernel
theorem dL_orders_60 : decode cL_orders 60 = .ok (.iconst 0, 1) := by decide +kernel
theorem dL_orders_61 : decode cL_orders 61 = .ok (.goto 12, 3) := by decide +kernel
theorem dL_orders_64 : decode cL_orders 64 = .ok (.iload 5, 2) := by decide +kernel
theorem dL_orders_66 : decode cL_orders 66 = .ok (.iconst 2, 1) := by decide +kernel
theorem dL_orders_67 : decode cL_orders 67 = .ok (.ishr, 1) := by decide +kernel
theorem dL_orders_68 : decode cL_orders 68 = .ok (.bipush 30, 2) := by decide +kernel
theorem dL_orders_70 : decode cL_orders 70 = .ok (.invokestatic 145, 3) := by decide +kernel
theorem dL_orders_73 : decode cL_orders 73 = .ok (.iadd, 1) := by decide +kernel
theorem dL_orders_74 : decode cL_orders 74 = .ok (.istore 8, 2) := by decide +kernel
theorem dL_orders_76 : decode cL_orders 76 = .ok (.iconst 1, 1) := by decide +kernel
theorem dL_orders_77 : decode cL_orders 77 = .ok (.iload 5, 2) := by decide +kernel
theorem dL_orders_79 : decode cL_orders 79 = .ok (.bipush 7, 2) := by decide +kernel
theorem dL_orders_81 : decode cL_orders 81 = .ok (.ishr, 1) := by decide +kernel
theorem dL_orders_82 : decode cL_orders 82 = .ok (.iload 7, 2) := by decide +kernel
theorem dL_orders_84 : decode cL_orders 84 = .ok (.ifCond .ne 9, 3) := by decide +kernel
theorem dL_orders_87 : decode cL_orders 87 = .ok (.sipush 300, 3) := by decide +kernel
theorem dL_orders_90 : decode cL_orders 90 = .ok (.goto 5, 3) := by decide +kernel
theorem dL_orders_93 : decode cL_orders 93 = .ok (.bipush 10, 2) := by decide +kernel
theorem dL_orders_95 : decode cL_orders 95 = .ok (.invokestatic 145, 3) := by decide +kernel
theorem dL_orders_98 : decode cL_orders 98 = .ok (.iadd, 1) := by decide +kernel
theorem dL_orders_99 : decode cL_orders 99 = .ok (.istore 9, 2) := by decide +kernel
theorem dL_orders_101 : decode cL_orders 101 = .ok (.aload_n 0, 1) := by decide +kernel
theorem dL_orders_102 : decode cL_orders 102 = .ok (.iload 6, 2) := by decide +kernel
theorem dL_orders_104 : decode cL_orders 104 = .ok (.iload 7, 2) := by decide +kernel
theorem dL_orders_106 : decode cL_orders 106 = .ok (.iload 8, 2) := by decide +kernel
theorem dL_orders_108 : decode cL_orders 108 = .ok (.iload 9, 2) := by decide +kernel
theorem dL_orders_110 : decode cL_orders 110 = .ok (.invokestatic 159, 3) := by decide +kernel
theorem dL_orders_113 : decode cL_orders 113 = .ok (.istore 10, 2) := by decide +kernel
theorem dL_orders_115 : decode cL_orders 115 = .ok (.aload_n 2, 1) := by decide +kernel
theorem dL_orders_116 : decode cL_orders 116 = .ok (.aload_n 1, 1) := by decide +kernel
theorem dL_orders_117 : decode cL_orders 117 = .ok (.iconst 2, 1) := by decide +kernel
theorem dL_orders_118 : decode cL_orders 118 = .ok (.iaload, 1) := by decide +kernel
theorem dL_orders_119 : decode cL_orders 119 = .ok (.iload 6, 2) := by decide +kernel
theorem dL_orders_121 : decode cL_orders 121 = .ok (.iastore, 1) := by decide +kernel
theorem dL_orders_122 : decode cL_orders 122 = .ok (.aload_n 3, 1) := by decide +kernel
theorem dL_orders_123 : decode cL_orders 123 = .ok (.iconst 2, 1) := by decide +kernel
theorem dL_orders_124 : decode cL_orders 124 = .ok (.aload_n 1, 1) := by decide +kernel
theorem dL_orders_125 : decode cL_orders 125 = .ok (.iconst 2, 1) := by decide +kernel
theorem dL_orders_126 : decode cL_orders 126 = .ok (.iaload, 1) := by decide +kernel
theorem dL_orders_127 : decode cL_orders 127 = .ok (.imul, 1) := by decide +kernel
theorem dL_orders_128 : decode cL_orders 128 = .ok (.iload 8, 2) := by decide +kernel
theorem dL_orders_130 : decode cL_orders 130 = .ok (.iastore, 1) := by decide +kernel
theorem dL_orders_131 : decode cL_orders 131 = .ok (.aload_n 3, 1) := by decide +kernel
theorem dL_orders_132 : decode cL_orders 132 = .ok (.iconst 2, 1) := by decide +kernel
theorem dL_orders_133 : decode cL_orders 133 = .ok (.aload_n 1, 1) := by decide +kernel
theorem dL_orders_134 : decode cL_orders 134 = .ok (.iconst 2, 1) := by decide +kernel
theorem dL_orders_135 : decode cL_orders 135 = .ok (.iaload, 1) := by decide +kernel
theorem dL_orders_136 : decode cL_orders 136 = .ok (.imul, 1) := by decide +kernel
theorem dL_orders_137 : decode cL_orders 137 = .ok (.iconst 1, 1) := by decide +kernel
theorem dL_orders_138 : decode cL_orders 138 = .ok (.iadd, 1) := by decide +kernel
theorem dL_orders_139 : decode cL_orders 139 = .ok (.iload 8, 2) := by decide +kernel
theorem dL_orders_141 : decode cL_orders 141 = .ok (.iload 9, 2) := by decide +kernel
theorem dL_orders_143 : decode cL_orders 143 = .ok (.iadd, 1) := by decide +kernel
theorem dL_orders_144 : decode cL_orders 144 = .ok (.iconst 1, 1) := by decide +kernel
theorem dL_orders_145 : decode cL_orders 145 = .ok (.isub, 1) := by decide +kernel
theorem dL_orders_146 : decode cL_orders 146 = .ok (.iastore, 1) := by decide +kernel
theorem dL_orders_147 : decode cL_orders 147 = .ok (.aload_n 1, 1) := by decide +kernel
theorem dL_orders_148 : decode cL_orders 148 = .ok (.iconst 2, 1) := by decide +kernel
theorem dL_orders_149 : decode cL_orders 149 = .ok (.dup2, 1) := by decide +kernel
theorem dL_orders_150 : decode cL_orders 150 = .ok (.iaload, 1) := by decide +kernel
theorem dL_orders_151 : decode cL_orders 151 = .ok (.iconst 1, 1) := by decide +kernel
theorem dL_orders_152 : decode cL_orders 152 = .ok (.iadd, 1) := by decide +kernel
theorem dL_orders_153 : decode cL_orders 153 = .ok (.iastore, 1) := by decide +kernel
theorem dL_orders_154 : decode cL_orders 154 = .ok (.iload 10, 2) := by decide +kernel
theorem dL_orders_156 : decode cL_orders 156 = .ok (.aload_n 1, 1) := by decide +kernel
theorem dL_orders_157 : decode cL_orders 157 = .ok (.iconst 2, 1) := by decide +kernel
theorem dL_orders_158 : decode cL_orders 158 = .ok (.iaload, 1) := by decide +kernel
theorem dL_orders_159 : decode cL_orders 159 = .ok (.iconst 1, 1) := by decide +kernel
theorem dL_orders_160 : decode cL_orders 160 = .ok (.isub, 1) := by decide +kernel
theorem dL_orders_161 : decode cL_orders 161 = .ok (.if_icmp .ne 54, 3) := by decide +kernel
theorem dL_orders_164 : decode cL_orders 164 = .ok (.aload_n 0, 1) := by decide +kernel
theorem dL_orders_165 : decode cL_orders 165 = .ok (.iload 6, 2) := by decide +kernel
theorem dL_orders_167 : decode cL_orders 167 = .ok (.iload 8, 2) := by decide +kernel
theorem dL_orders_169 : decode cL_orders 169 = .ok (.invokestatic 161, 3) := by decide +kernel
theorem dL_orders_172 : decode cL_orders 172 = .ok (.iload 10, 2) := by decide +kernel
theorem dL_orders_174 : decode cL_orders 174 = .ok (.if_icmp .ne 41, 3) := by decide +kernel
theorem dL_orders_177 : decode cL_orders 177 = .ok (.aload_n 0, 1) := by decide +kernel
theorem dL_orders_178 : decode cL_orders 178 = .ok (.iload 6, 2) := by decide +kernel
theorem dL_orders_180 : decode cL_orders 180 = .ok (.iload 8, 2) := by decide +kernel
theorem dL_orders_182 : decode cL_orders 182 = .ok (.iload 9, 2) := by decide +kernel
theorem dL_orders_184 : decode cL_orders 184 = .ok (.iadd, 1) := by decide +kernel
theorem dL_orders_185 : decode cL_orders 185 = .ok (.iconst 1, 1) := by decide +kernel
theorem dL_orders_186 : decode cL_orders 186 = .ok (.isub, 1) := by decide +kernel
theorem dL_orders_187 : decode cL_orders 187 = .ok (.invokestatic 161, 3) := by decide +kernel
theorem dL_orders_190 : decode cL_orders 190 = .ok (.iload 10, 2) := by decide +kernel
theorem dL_orders_192 : decode cL_orders 192 = .ok (.if_icmp .ne 23, 3) := by decide +kernel
theorem dL_orders_195 : decode cL_orders 195 = .ok (.aload_n 0, 1) := by decide +kernel
theorem dL_orders_196 : decode cL_orders 196 = .ok (.iload 6, 2) := by decide +kernel
theorem dL_orders_198 : decode cL_orders 198 = .ok (.iload 8, 2) := by decide +kernel
theorem dL_orders_200 : decode cL_orders 200 = .ok (.iload 9, 2) := by decide +kernel
theorem dL_orders_202 : decode cL_orders 202 = .ok (.iadd, 1) := by decide +kernel
theorem dL_orders_203 : decode cL_orders 203 = .ok (.invokestatic 161, 3) := by decide +kernel
theorem dL_orders_206 : decode cL_orders 206 = .ok (.iload 10, 2) := by decide +kernel
theorem dL_orders_208 : decode cL_orders 208 = .ok (.if_icmp .eq 7, 3) := by decide +kernel
theorem dL_orders_211 : decode cL_orders 211 = .ok (.iconst 1, 1) := by decide +kernel
theorem dL_orders_212 : decode cL_orders 212 = .ok (.goto 4, 3) := by decide +kernel
theorem dL_orders_215 : decode cL_orders 215 = .ok (.iconst 0, 1) := by decide +kernel
theorem dL_orders_216 : decode cL_orders 216 = .ok (.istore 11, 2) := by decide +kernel
theorem dL_orders_218 : decode cL_orders 218 = .ok (.iload 5, 2) := by decide +kernel
theorem dL_orders_220 : decode cL_orders 220 = .ok (.iconst 3, 1) := by decide +kernel
theorem dL_orders_221 : decode cL_orders 221 = .ok (.ishr, 1) := by decide +kernel
theorem dL_orders_222 : decode cL_orders 222 = .ok (.sipush 600, 3) := by decide +kernel
theorem dL_orders_225 : decode cL_orders 225 = .ok (.invokestatic 145, 3) := by decide +kernel
theorem dL_orders_228 : decode cL_orders 228 = .ok (.istore 12, 2) := by decide +kernel
theorem dL_orders_230 : decode cL_orders 230 = .ok (.iconst (-1), 1) := by decide +kernel
theorem dL_orders_231 : decode cL_orders 231 = .ok (.istore 13, 2) := by decide +kernel
theorem dL_orders_233 : decode cL_orders 233 = .ok (.iconst 0, 1) := by decide +kernel
theorem dL_orders_234 : decode cL_orders 234 = .ok (.istore 14, 2) := by decide +kernel
theorem dL_orders_236 : decode cL_orders 236 = .ok (.iload 14, 2) := by decide +kernel
theorem dL_orders_238 : decode cL_orders 238 = .ok (.aload_n 1, 1) := by decide +kernel
theorem dL_orders_239 : decode cL_orders 239 = .ok (.iconst 2, 1) := by decide +kernel
theorem dL_orders_240 : decode cL_orders 240 = .ok (.iaload, 1) := by decide +kernel
theorem dL_orders_241 : decode cL_orders 241 = .ok (.if_icmp .ge 51, 3) := by decide +kernel
theorem dL_orders_244 : decode cL_orders 244 = .ok (.aload_n 2, 1) := by decide +kernel
theorem dL_orders_245 : decode cL_orders 245 = .ok (.iload 14, 2) := by decide +kernel
theorem dL_orders_247 : decode cL_orders 247 = .ok (.iaload, 1) := by decide +kernel
theorem dL_orders_248 : decode cL_orders 248 = .ok (.iload 6, 2) := by decide +kernel
theorem dL_orders_250 : decode cL_orders 250 = .ok (.if_icmp .ne 32, 3) := by decide +kernel
theorem dL_orders_253 : decode cL_orders 253 = .ok (.aload_n 3, 1) := by decide +kernel
theorem dL_orders_254 : decode cL_orders 254 = .ok (.iconst 2, 1) := by decide +kernel
theorem dL_orders_255 : decode cL_orders 255 = .ok (.iload 14, 2) := by decide +kernel
theorem dL_orders_257 : decode cL_orders 257 = .ok (.imul, 1) := by decide +kernel
theorem dL_orders_258 : decode cL_orders 258 = .ok (.iaload, 1) := by decide +kernel
theorem dL_orders_259 : decode cL_orders 259 = .ok (.iload 12, 2) := by decide +kernel
theorem dL_orders_261 : decode cL_orders 261 = .ok (.if_icmp .gt 21, 3) := by decide +kernel
theorem dL_orders_264 : decode cL_orders 264 = .ok (.iload 12, 2) := by decide +kernel
theorem dL_orders_266 : decode cL_orders 266 = .ok (.aload_n 3, 1) := by decide +kernel
theorem dL_orders_267 : decode cL_orders 267 = .ok (.iconst 2, 1) := by decide +kernel
theorem dL_orders_268 : decode cL_orders 268 = .ok (.iload 14, 2) := by decide +kernel
theorem dL_orders_270 : decode cL_orders 270 = .ok (.imul, 1) := by decide +kernel
theorem dL_orders_271 : decode cL_orders 271 = .ok (.iconst 1, 1) := by decide +kernel
theorem dL_orders_272 : decode cL_orders 272 = .ok (.iadd, 1) := by decide +kernel
theorem dL_orders_273 : decode cL_orders 273 = .ok (.iaload, 1) := by decide +kernel
theorem dL_orders_274 : decode cL_orders 274 = .ok (.if_icmp .gt 8, 3) := by decide +kernel
theorem dL_orders_277 : decode cL_orders 277 = .ok (.iload 14, 2) := by decide +kernel
theorem dL_orders_279 : decode cL_orders 279 = .ok (.goto 5, 3) := by decide +kernel
theorem dL_orders_282 : decode cL_orders 282 = .ok (.iload 13, 2) := by decide +kernel
theorem dL_orders_284 : decode cL_orders 284 = .ok (.istore 13, 2) := by decide +kernel
theorem dL_orders_286 : decode cL_orders 286 = .ok (.iinc 14 1, 3) := by decide +kernel
theorem dL_orders_289 : decode cL_orders 289 = .ok (.goto (-53), 3) := by decide +kernel
theorem dL_orders_292 : decode cL_orders 292 = .ok (.iload 11, 2) := by decide +kernel
theorem dL_orders_294 : decode cL_orders 294 = .ok (.ifCond .eq 20, 3) := by decide +kernel
theorem dL_orders_297 : decode cL_orders 297 = .ok (.aload_n 0, 1) := by decide +kernel
theorem dL_orders_298 : decode cL_orders 298 = .ok (.iload 6, 2) := by decide +kernel
theorem dL_orders_300 : decode cL_orders 300 = .ok (.iload 12, 2) := by decide +kernel
theorem dL_orders_302 : decode cL_orders 302 = .ok (.invokestatic 161, 3) := by decide +kernel
theorem dL_orders_305 : decode cL_orders 305 = .ok (.iload 13, 2) := by decide +kernel
theorem dL_orders_307 : decode cL_orders 307 = .ok (.if_icmp .ne 7, 3) := by decide +kernel
theorem dL_orders_310 : decode cL_orders 310 = .ok (.iconst 1, 1) := by decide +kernel
theorem dL_orders_311 : decode cL_orders 311 = .ok (.goto 4, 3) := by decide +kernel
theorem dL_orders_314 : decode cL_orders 314 = .ok (.iconst 0, 1) := by decide +kernel
theorem dL_orders_315 : decode cL_orders 315 = .ok (.ireturn, 1) := by decide +kernel
theorem dL_places_0 : decode cL_places 0 = .ok (.iload_n 3, 1) := by decide +kernel
theorem dL_places_1 : decode cL_places 1 = .ok (.iconst 4, 1) := by decide +kernel
theorem dL_places_2 : decode cL_places 2 = .ok (.invokestatic 145, 3) := by decide +kernel
theorem dL_places_5 : decode cL_places 5 = .ok (.ifCond .ne 138, 3) := by decide +kernel
theorem dL_places_8 : decode cL_places 8 = .ok (.iload 4, 2) := by decide +kernel
theorem dL_places_10 : decode cL_places 10 = .ok (.iconst 3, 1) := by decide +kernel
theorem dL_places_11 : decode cL_places 11 = .ok (.invokestatic 145, 3) := by decide +kernel
theorem dL_places_14 : decode cL_places 14 = .ok (.istore 5, 2) := by decide +kernel
theorem dL_places_16 : decode cL_places 16 = .ok (.iconst 0, 1) := by decide +kernel
theorem dL_places_17 : decode cL_places 17 = .ok (.istore 6, 2) := by decide +kernel
theorem dL_places_19 : decode cL_places 19 = .ok (.iconst 0, 1) := by decide +kernel
theorem dL_places_20 : decode cL_places 20 = .ok (.istore 7, 2) := by decide +kernel
theorem dL_places_22 : decode cL_places 22 = .ok (.iload 7, 2) := by decide +kernel
theorem dL_places_24 : decode cL_places 24 = .ok (.aload_n 1, 1) := by decide +kernel
theorem dL_places_25 : decode cL_places 25 = .ok (.iconst 0, 1) := by decide +kernel
theorem dL_places_26 : decode cL_places 26 = .ok (.iaload, 1) := by decide +kernel
theorem dL_places_27 : decode cL_places 27 = .ok (.if_icmp .ge 38, 3) := by decide +kernel
theorem dL_places_30 : decode cL_places 30 = .ok (.iload 6, 2) := by decide +kernel
theorem dL_places_32 : decode cL_places 32 = .ok (.aload_n 2, 1) := by decide +kernel
theorem dL_places_33 : decode cL_places 33 = .ok (.iload 7, 2) := by decide +kernel
theorem dL_places_35 : decode cL_places 35 = .ok (.iaload, 1) := by decide +kernel
theorem dL_places_36 : decode cL_places 36 = .ok (.iload 5, 2) := by decide +kernel
theorem dL_places_38 : decode cL_places 38 = .ok (.if_icmp .ne 17, 3) := by decide +kernel
