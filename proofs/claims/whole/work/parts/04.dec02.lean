theorem dX9_init_207 : decode cX9_init 207 = .ok (.sipush 1024, 3) := by decide +kernel
theorem dX9_init_210 : decode cX9_init 210 = .ok (.newarray .int, 2) := by decide +kernel
theorem dX9_init_212 : decode cX9_init 212 = .ok (.putfield 86, 3) := by decide +kernel
theorem dX9_init_215 : decode cX9_init 215 = .ok (.aload_n 0, 1) := by decide +kernel
theorem dX9_init_216 : decode cX9_init 216 = .ok (.sipush 1024, 3) := by decide +kernel
theorem dX9_init_219 : decode cX9_init 219 = .ok (.newarray .int, 2) := by decide +kernel
theorem dX9_init_221 : decode cX9_init 221 = .ok (.putfield 89, 3) := by decide +kernel
theorem dX9_init_224 : decode cX9_init 224 = .ok (.aload_n 0, 1) := by decide +kernel
theorem dX9_init_225 : decode cX9_init 225 = .ok (.sipush 1024, 3) := by decide +kernel
theorem dX9_init_228 : decode cX9_init 228 = .ok (.newarray .int, 2) := by decide +kernel
theorem dX9_init_230 : decode cX9_init 230 = .ok (.putfield 92, 3) := by decide +kernel
theorem dX9_init_233 : decode cX9_init 233 = .ok (.aload_n 0, 1) := by decide +kernel
theorem dX9_init_234 : decode cX9_init 234 = .ok (.sipush 1024, 3) := by decide +kernel
theorem dX9_init_237 : decode cX9_init 237 = .ok (.newarray .int, 2) := by decide +kernel
theorem dX9_init_239 : decode cX9_init 239 = .ok (.putfield 95, 3) := by decide +kernel
theorem dX9_init_242 : decode cX9_init 242 = .ok (.aload_n 0, 1) := by decide +kernel
theorem dX9_init_243 : decode cX9_init 243 = .ok (.sipush 1024, 3) := by decide +kernel
theorem dX9_init_246 : decode cX9_init 246 = .ok (.newarray .int, 2) := by decide +kernel
theorem dX9_init_248 : decode cX9_init 248 = .ok (.putfield 98, 3) := by decide +kernel
theorem dX9_init_251 : decode cX9_init 251 = .ok (.aload_n 0, 1) := by decide +kernel
theorem dX9_init_252 : decode cX9_init 252 = .ok (.bipush 16, 2) := by decide +kernel
theorem dX9_init_254 : decode cX9_init 254 = .ok (.newarray .int, 2) := by decide +kernel
theorem dX9_init_256 : decode cX9_init 256 = .ok (.putfield 101, 3) := by decide +kernel
theorem dX9_init_259 : decode cX9_init 259 = .ok (.aload_n 0, 1) := by decide +kernel
theorem dX9_init_260 : decode cX9_init 260 = .ok (.sipush 480, 3) := by decide +kernel
theorem dX9_init_263 : decode cX9_init 263 = .ok (.newarray .int, 2) := by decide +kernel
theorem dX9_init_265 : decode cX9_init 265 = .ok (.putfield 104, 3) := by decide +kernel
theorem dX9_init_268 : decode cX9_init 268 = .ok (.aload_n 0, 1) := by decide +kernel
theorem dX9_init_269 : decode cX9_init 269 = .ok (.sipush 480, 3) := by decide +kernel
theorem dX9_init_272 : decode cX9_init 272 = .ok (.newarray .int, 2) := by decide +kernel
theorem dX9_init_274 : decode cX9_init 274 = .ok (.putfield 107, 3) := by decide +kernel
theorem dX9_init_277 : decode cX9_init 277 = .ok (.aload_n 0, 1) := by decide +kernel
theorem dX9_init_278 : decode cX9_init 278 = .ok (.sipush 480, 3) := by decide +kernel
theorem dX9_init_281 : decode cX9_init 281 = .ok (.newarray .int, 2) := by decide +kernel
theorem dX9_init_283 : decode cX9_init 283 = .ok (.putfield 110, 3) := by decide +kernel
theorem dX9_init_286 : decode cX9_init 286 = .ok (.aload_n 0, 1) := by decide +kernel
theorem dX9_init_287 : decode cX9_init 287 = .ok (.bipush 60, 2) := by decide +kernel
theorem dX9_init_289 : decode cX9_init 289 = .ok (.newarray .int, 2) := by decide +kernel
theorem dX9_init_291 : decode cX9_init 291 = .ok (.putfield 113, 3) := by decide +kernel
theorem dX9_init_294 : decode cX9_init 294 = .ok (.aload_n 0, 1) := by decide +kernel
theorem dX9_init_295 : decode cX9_init 295 = .ok (.bipush 60, 2) := by decide +kernel
theorem dX9_init_297 : decode cX9_init 297 = .ok (.newarray .int, 2) := by decide +kernel
theorem dX9_init_299 : decode cX9_init 299 = .ok (.putfield 116, 3) := by decide +kernel
theorem dX9_init_302 : decode cX9_init 302 = .ok (.aload_n 0, 1) := by decide +kernel
theorem dX9_init_303 : decode cX9_init 303 = .ok (.bipush 60, 2) := by decide +kernel
theorem dX9_init_305 : decode cX9_init 305 = .ok (.newarray .int, 2) := by decide +kernel
theorem dX9_init_307 : decode cX9_init 307 = .ok (.putfield 119, 3) := by decide +kernel
theorem dX9_init_310 : decode cX9_init 310 = .ok (.aload_n 0, 1) := by decide +kernel
theorem dX9_init_311 : decode cX9_init 311 = .ok (.bipush 60, 2) := by decide +kernel
theorem dX9_init_313 : decode cX9_init 313 = .ok (.newarray .int, 2) := by decide +kernel
theorem dX9_init_315 : decode cX9_init 315 = .ok (.putfield 122, 3) := by decide +kernel
theorem dX9_init_318 : decode cX9_init 318 = .ok (.aload_n 0, 1) := by decide +kernel
theorem dX9_init_319 : decode cX9_init 319 = .ok (.bipush 100, 2) := by decide +kernel
theorem dX9_init_321 : decode cX9_init 321 = .ok (.newarray .int, 2) := by decide +kernel
theorem dX9_init_323 : decode cX9_init 323 = .ok (.putfield 125, 3) := by decide +kernel
theorem dX9_init_326 : decode cX9_init 326 = .ok (.aload_n 0, 1) := by decide +kernel
theorem dX9_init_327 : decode cX9_init 327 = .ok (.bipush 100, 2) := by decide +kernel
theorem dX9_init_329 : decode cX9_init 329 = .ok (.newarray .int, 2) := by decide +kernel
theorem dX9_init_331 : decode cX9_init 331 = .ok (.putfield 128, 3) := by decide +kernel
theorem dX9_init_334 : decode cX9_init 334 = .ok (.aload_n 0, 1) := by decide +kernel
theorem dX9_init_335 : decode cX9_init 335 = .ok (.bipush 100, 2) := by decide +kernel
theorem dX9_init_337 : decode cX9_init 337 = .ok (.newarray .int, 2) := by decide +kernel
theorem dX9_init_339 : decode cX9_init 339 = .ok (.putfield 131, 3) := by decide +kernel
theorem dX9_init_342 : decode cX9_init 342 = .ok (.aload_n 0, 1) := by decide +kernel
theorem dX9_init_343 : decode cX9_init 343 = .ok (.bipush 100, 2) := by decide +kernel
theorem dX9_init_345 : decode cX9_init 345 = .ok (.newarray .int, 2) := by decide +kernel
theorem dX9_init_347 : decode cX9_init 347 = .ok (.putfield 134, 3) := by decide +kernel
theorem dX9_init_350 : decode cX9_init 350 = .ok (.aload_n 0, 1) := by decide +kernel
theorem dX9_init_351 : decode cX9_init 351 = .ok (.bipush 100, 2) := by decide +kernel
theorem dX9_init_353 : decode cX9_init 353 = .ok (.newarray .int, 2) := by decide +kernel
theorem dX9_init_355 : decode cX9_init 355 = .ok (.putfield 137, 3) := by decide +kernel
theorem dX9_init_358 : decode cX9_init 358 = .ok (.aload_n 0, 1) := by decide +kernel
theorem dX9_init_359 : decode cX9_init 359 = .ok (.iconst 5, 1) := by decide +kernel
theorem dX9_init_360 : decode cX9_init 360 = .ok (.newarray .int, 2) := by decide +kernel
theorem dX9_init_362 : decode cX9_init 362 = .ok (.putfield 140, 3) := by decide +kernel
theorem dX9_init_365 : decode cX9_init 365 = .ok (.aload_n 0, 1) := by decide +kernel
theorem dX9_init_366 : decode cX9_init 366 = .ok (.iconst 5, 1) := by decide +kernel
theorem dX9_init_367 : decode cX9_init 367 = .ok (.newarray .int, 2) := by decide +kernel
theorem dX9_init_369 : decode cX9_init 369 = .ok (.putfield 143, 3) := by decide +kernel
theorem dX9_init_372 : decode cX9_init 372 = .ok (.aload_n 0, 1) := by decide +kernel
theorem dX9_init_373 : decode cX9_init 373 = .ok (.iconst 5, 1) := by decide +kernel
theorem dX9_init_374 : decode cX9_init 374 = .ok (.newarray .int, 2) := by decide +kernel
theorem dX9_init_376 : decode cX9_init 376 = .ok (.putfield 146, 3) := by decide +kernel
theorem dX9_init_379 : decode cX9_init 379 = .ok (.aload_n 0, 1) := by decide +kernel
theorem dX9_init_380 : decode cX9_init 380 = .ok (.bipush 50, 2) := by decide +kernel
theorem dX9_init_382 : decode cX9_init 382 = .ok (.newarray .boolean, 2) := by decide +kernel
theorem dX9_init_384 : decode cX9_init 384 = .ok (.putfield 149, 3) := by decide +kernel
theorem dX9_init_387 : decode cX9_init 387 = .ok (.aload_n 0, 1) := by decide +kernel
theorem dX9_init_388 : decode cX9_init 388 = .ok (.bipush 50, 2) := by decide +kernel
theorem dX9_init_390 : decode cX9_init 390 = .ok (.newarray .int, 2) := by decide +kernel
theorem dX9_init_392 : decode cX9_init 392 = .ok (.putfield 152, 3) := by decide +kernel
theorem dX9_init_395 : decode cX9_init 395 = .ok (.aload_n 0, 1) := by decide +kernel
theorem dX9_init_396 : decode cX9_init 396 = .ok (.bipush 10, 2) := by decide +kernel
theorem dX9_init_398 : decode cX9_init 398 = .ok (.newarray .int, 2) := by decide +kernel
theorem dX9_init_400 : decode cX9_init 400 = .ok (.putfield 155, 3) := by decide +kernel
theorem dX9_init_403 : decode cX9_init 403 = .ok (.return_, 1) := by decide +kernel
theorem dX9_thrown_0 : decode cX9_thrown 0 = .ok (.aload_n 0, 1) := by decide +kernel
theorem dX9_thrown_1 : decode cX9_thrown 1 = .ok (.getfield 158, 3) := by decide +kernel
theorem dX9_thrown_4 : decode cX9_thrown 4 = .ok (.ireturn, 1) := by decide +kernel
theorem dX9_in_0 : decode cX9_in 0 = .ok (.iload_n 0, 1) := by decide +kernel
theorem dX9_in_1 : decode cX9_in 1 = .ok (.iload_n 1, 1) := by decide +kernel
theorem dX9_in_2 : decode cX9_in 2 = .ok (.if_icmp .lt 12, 3) := by decide +kernel
theorem dX9_in_5 : decode cX9_in 5 = .ok (.iload_n 0, 1) := by decide +kernel
theorem dX9_in_6 : decode cX9_in 6 = .ok (.iload_n 2, 1) := by decide +kernel
theorem dX9_in_7 : decode cX9_in 7 = .ok (.if_icmp .gt 7, 3) := by decide +kernel
theorem dX9_in_10 : decode cX9_in 10 = .ok (.iconst 1, 1) := by decide +kernel
theorem dX9_in_11 : decode cX9_in 11 = .ok (.goto 4, 3) := by decide +kernel
theorem dX9_in_14 : decode cX9_in 14 = .ok (.iconst 0, 1) := by decide +kernel
theorem dX9_in_15 : decode cX9_in 15 = .ok (.ireturn, 1) := by decide +kernel
theorem dX9_goes_0 : decode cX9_goes 0 = .ok (.aload_n 0, 1) := by decide +kernel
theorem dX9_goes_1 : decode cX9_goes 1 = .ok (.iload_n 1, 1) := by decide +kernel
theorem dX9_goes_2 : decode cX9_goes 2 = .ok (.ifCond .ne 7, 3) := by decide +kernel
theorem dX9_goes_5 : decode cX9_goes 5 = .ok (.iconst 1, 1) := by decide +kernel
theorem dX9_goes_6 : decode cX9_goes 6 = .ok (.goto 20, 3) := by decide +kernel
theorem dX9_goes_9 : decode cX9_goes 9 = .ok (.iload_n 2, 1) := by decide +kernel
theorem dX9_goes_10 : decode cX9_goes 10 = .ok (.ifCond .ne 7, 3) := by decide +kernel
theorem dX9_goes_13 : decode cX9_goes 13 = .ok (.iconst 2, 1) := by decide +kernel
theorem dX9_goes_14 : decode cX9_goes 14 = .ok (.goto 12, 3) := by decide +kernel
theorem dX9_goes_17 : decode cX9_goes 17 = .ok (.iload_n 3, 1) := by decide +kernel
theorem dX9_goes_18 : decode cX9_goes 18 = .ok (.ifCond .ne 7, 3) := by decide +kernel
theorem dX9_goes_21 : decode cX9_goes 21 = .ok (.iconst 3, 1) := by decide +kernel
theorem dX9_goes_22 : decode cX9_goes 22 = .ok (.goto 4, 3) := by decide +kernel
theorem dX9_goes_25 : decode cX9_goes 25 = .ok (.iconst 0, 1) := by decide +kernel
theorem dX9_goes_26 : decode cX9_goes 26 = .ok (.putfield 158, 3) := by decide +kernel
theorem dX9_goes_29 : decode cX9_goes 29 = .ok (.aload_n 0, 1) := by decide +kernel
theorem dX9_goes_30 : decode cX9_goes 30 = .ok (.getfield 158, 3) := by decide +kernel
theorem dX9_goes_33 : decode cX9_goes 33 = .ok (.ifCond .ne 7, 3) := by decide +kernel
theorem dX9_goes_36 : decode cX9_goes 36 = .ok (.iconst 1, 1) := by decide +kernel
theorem dX9_goes_37 : decode cX9_goes 37 = .ok (.goto 4, 3) := by decide +kernel
theorem dX9_goes_40 : decode cX9_goes 40 = .ok (.iconst 0, 1) := by decide +kernel
theorem dX9_goes_41 : decode cX9_goes 41 = .ok (.ireturn, 1) := by decide +kernel
theorem dX9_isChild_0 : decode cX9_isChild 0 = .ok (.iload_n 1, 1) := by decide +kernel
theorem dX9_isChild_1 : decode cX9_isChild 1 = .ok (.iconst 0, 1) := by decide +kernel
theorem dX9_isChild_2 : decode cX9_isChild 2 = .ok (.aload_n 0, 1) := by decide +kernel
theorem dX9_isChild_3 : decode cX9_isChild 3 = .ok (.getfield 162, 3) := by decide +kernel
theorem dX9_isChild_6 : decode cX9_isChild 6 = .ok (.iconst 1, 1) := by decide +kernel
theorem dX9_isChild_7 : decode cX9_isChild 7 = .ok (.isub, 1) := by decide +kernel
theorem dX9_isChild_8 : decode cX9_isChild 8 = .ok (.invokestatic 165, 3) := by decide +kernel
theorem dX9_isChild_11 : decode cX9_isChild 11 = .ok (.ireturn, 1) := by decide +kernel
theorem dX9_isHome_0 : decode cX9_isHome 0 = .ok (.iload_n 1, 1) := by decide +kernel
theorem dX9_isHome_1 : decode cX9_isHome 1 = .ok (.iconst 0, 1) := by decide +kernel
theorem dX9_isHome_2 : decode cX9_isHome 2 = .ok (.aload_n 0, 1) := by decide +kernel
theorem dX9_isHome_3 : decode cX9_isHome 3 = .ok (.getfield 169, 3) := by decide +kernel
theorem dX9_isHome_6 : decode cX9_isHome 6 = .ok (.iconst 1, 1) := by decide +kernel
theorem dX9_isHome_7 : decode cX9_isHome 7 = .ok (.isub, 1) := by decide +kernel
theorem dX9_isHome_8 : decode cX9_isHome 8 = .ok (.invokestatic 165, 3) := by decide +kernel
theorem dX9_isHome_11 : decode cX9_isHome 11 = .ok (.ireturn, 1) := by decide +kernel
theorem dX9_ones_0 : decode cX9_ones 0 = .ok (.iload_n 0, 1) := by decide +kernel
theorem dX9_ones_1 : decode cX9_ones 1 = .ok (.iconst 1, 1) := by decide +kernel
theorem dX9_ones_2 : decode cX9_ones 2 = .ok (.iand, 1) := by decide +kernel
theorem dX9_ones_3 : decode cX9_ones 3 = .ok (.iload_n 0, 1) := by decide +kernel
theorem dX9_ones_4 : decode cX9_ones 4 = .ok (.iconst 1, 1) := by decide +kernel
theorem dX9_ones_5 : decode cX9_ones 5 = .ok (.ishr, 1) := by decide +kernel
theorem dX9_ones_6 : decode cX9_ones 6 = .ok (.iconst 1, 1) := by decide +kernel
theorem dX9_ones_7 : decode cX9_ones 7 = .ok (.iand, 1) := by decide +kernel
theorem dX9_ones_8 : decode cX9_ones 8 = .ok (.iadd, 1) := by decide +kernel
theorem dX9_ones_9 : decode cX9_ones 9 = .ok (.iload_n 0, 1) := by decide +kernel
theorem dX9_ones_10 : decode cX9_ones 10 = .ok (.iconst 2, 1) := by decide +kernel
theorem dX9_ones_11 : decode cX9_ones 11 = .ok (.ishr, 1) := by decide +kernel
theorem dX9_ones_12 : decode cX9_ones 12 = .ok (.iconst 1, 1) := by decide +kernel
theorem dX9_ones_13 : decode cX9_ones 13 = .ok (.iand, 1) := by decide +kernel
theorem dX9_ones_14 : decode cX9_ones 14 = .ok (.iadd, 1) := by decide +kernel
theorem dX9_ones_15 : decode cX9_ones 15 = .ok (.iload_n 0, 1) := by decide +kernel
theorem dX9_ones_16 : decode cX9_ones 16 = .ok (.iconst 3, 1) := by decide +kernel
theorem dX9_ones_17 : decode cX9_ones 17 = .ok (.ishr, 1) := by decide +kernel
theorem dX9_ones_18 : decode cX9_ones 18 = .ok (.iconst 1, 1) := by decide +kernel
theorem dX9_ones_19 : decode cX9_ones 19 = .ok (.iand, 1) := by decide +kernel
theorem dX9_ones_20 : decode cX9_ones 20 = .ok (.iadd, 1) := by decide +kernel
theorem dX9_ones_21 : decode cX9_ones 21 = .ok (.ireturn, 1) := by decide +kernel
theorem dX9_yearsOn_0 : decode cX9_yearsOn 0 = .ok (.aload_n 0, 1) := by decide +kernel
theorem dX9_yearsOn_1 : decode cX9_yearsOn 1 = .ok (.getfield 7, 3) := by decide +kernel
theorem dX9_yearsOn_4 : decode cX9_yearsOn 4 = .ok (.iload_n 1, 1) := by decide +kernel
theorem dX9_yearsOn_5 : decode cX9_yearsOn 5 = .ok (.iaload, 1) := by decide +kernel
theorem dX9_yearsOn_6 : decode cX9_yearsOn 6 = .ok (.iload_n 2, 1) := by decide +kernel
theorem dX9_yearsOn_7 : decode cX9_yearsOn 7 = .ok (.iadd, 1) := by decide +kernel
theorem dX9_yearsOn_8 : decode cX9_yearsOn 8 = .ok (.aload_n 0, 1) := by decide +kernel
theorem dX9_yearsOn_9 : decode cX9_yearsOn 9 = .ok (.getfield 13, 3) := by decide +kernel
theorem dX9_yearsOn_12 : decode cX9_yearsOn 12 = .ok (.iload_n 1, 1) := by decide +kernel
theorem dX9_yearsOn_13 : decode cX9_yearsOn 13 = .ok (.iaload, 1) := by decide +kernel
theorem dX9_yearsOn_14 : decode cX9_yearsOn 14 = .ok (.isub, 1) := by decide +kernel
theorem dX9_yearsOn_15 : decode cX9_yearsOn 15 = .ok (.sipush 365, 3) := by decide +kernel
theorem dX9_yearsOn_18 : decode cX9_yearsOn 18 = .ok (.idiv, 1) := by decide +kernel
theorem dX9_yearsOn_19 : decode cX9_yearsOn 19 = .ok (.ireturn, 1) := by decide +kernel
theorem dX9_homeOf_0 : decode cX9_homeOf 0 = .ok (.aload_n 0, 1) := by decide +kernel
theorem dX9_homeOf_1 : decode cX9_homeOf 1 = .ok (.getfield 34, 3) := by decide +kernel
theorem dX9_homeOf_4 : decode cX9_homeOf 4 = .ok (.iload_n 1, 1) := by decide +kernel
theorem dX9_homeOf_5 : decode cX9_homeOf 5 = .ok (.iaload, 1) := by decide +kernel
theorem dX9_homeOf_6 : decode cX9_homeOf 6 = .ok (.iconst (-1), 1) := by decide +kernel
theorem dX9_homeOf_7 : decode cX9_homeOf 7 = .ok (.if_icmp .ne 7, 3) := by decide +kernel
theorem dX9_homeOf_10 : decode cX9_homeOf 10 = .ok (.iconst (-1), 1) := by decide +kernel
theorem dX9_homeOf_11 : decode cX9_homeOf 11 = .ok (.goto 14, 3) := by decide +kernel
theorem dX9_homeOf_14 : decode cX9_homeOf 14 = .ok (.aload_n 0, 1) := by decide +kernel
theorem dX9_homeOf_15 : decode cX9_homeOf 15 = .ok (.getfield 128, 3) := by decide +kernel
theorem dX9_homeOf_18 : decode cX9_homeOf 18 = .ok (.aload_n 0, 1) := by decide +kernel
theorem dX9_homeOf_19 : decode cX9_homeOf 19 = .ok (.getfield 34, 3) := by decide +kernel
theorem dX9_homeOf_22 : decode cX9_homeOf 22 = .ok (.iload_n 1, 1) := by decide +kernel
theorem dX9_homeOf_23 : decode cX9_homeOf 23 = .ok (.iaload, 1) := by decide +kernel
theorem dX9_homeOf_24 : decode cX9_homeOf 24 = .ok (.iaload, 1) := by decide +kernel
theorem dX9_homeOf_25 : decode cX9_homeOf 25 = .ok (.ireturn, 1) := by decide +kernel
theorem dX9_loadOf_0 : decode cX9_loadOf 0 = .ok (.iconst 0, 1) := by decide +kernel
theorem dX9_loadOf_1 : decode cX9_loadOf 1 = .ok (.istore_n 2, 1) := by decide +kernel
theorem dX9_loadOf_2 : decode cX9_loadOf 2 = .ok (.iconst 0, 1) := by decide +kernel
theorem dX9_loadOf_3 : decode cX9_loadOf 3 = .ok (.istore_n 3, 1) := by decide +kernel
theorem dX9_loadOf_4 : decode cX9_loadOf 4 = .ok (.iload_n 3, 1) := by decide +kernel
theorem dX9_loadOf_5 : decode cX9_loadOf 5 = .ok (.aload_n 0, 1) := by decide +kernel
theorem dX9_loadOf_6 : decode cX9_loadOf 6 = .ok (.getfield 162, 3) := by decide +kernel
theorem dX9_loadOf_9 : decode cX9_loadOf 9 = .ok (.if_icmp .ge 53, 3) := by decide +kernel
theorem dX9_loadOf_12 : decode cX9_loadOf 12 = .ok (.iload_n 2, 1) := by decide +kernel
theorem dX9_loadOf_13 : decode cX9_loadOf 13 = .ok (.aload_n 0, 1) := by decide +kernel
theorem dX9_loadOf_14 : decode cX9_loadOf 14 = .ok (.getfield 28, 3) := by decide +kernel
theorem dX9_loadOf_17 : decode cX9_loadOf 17 = .ok (.iload_n 3, 1) := by decide +kernel
theorem dX9_loadOf_18 : decode cX9_loadOf 18 = .ok (.iaload, 1) := by decide +kernel
theorem dX9_loadOf_19 : decode cX9_loadOf 19 = .ok (.iload_n 1, 1) := by decide +kernel
theorem dX9_loadOf_20 : decode cX9_loadOf 20 = .ok (.if_icmp .ne 33, 3) := by decide +kernel
theorem dX9_loadOf_23 : decode cX9_loadOf 23 = .ok (.iconst 2, 1) := by decide +kernel
theorem dX9_loadOf_24 : decode cX9_loadOf 24 = .ok (.aload_n 0, 1) := by decide +kernel
theorem dX9_loadOf_25 : decode cX9_loadOf 25 = .ok (.getfield 16, 3) := by decide +kernel
theorem dX9_loadOf_28 : decode cX9_loadOf 28 = .ok (.iload_n 3, 1) := by decide +kernel
theorem dX9_loadOf_29 : decode cX9_loadOf 29 = .ok (.iaload, 1) := by decide +kernel
theorem dX9_loadOf_30 : decode cX9_loadOf 30 = .ok (.invokestatic 172, 3) := by decide +kernel
theorem dX9_loadOf_33 : decode cX9_loadOf 33 = .ok (.iadd, 1) := by decide +kernel
theorem dX9_loadOf_34 : decode cX9_loadOf 34 = .ok (.aload_n 0, 1) := by decide +kernel
theorem dX9_loadOf_35 : decode cX9_loadOf 35 = .ok (.getfield 34, 3) := by decide +kernel
theorem dX9_loadOf_38 : decode cX9_loadOf 38 = .ok (.iload_n 3, 1) := by decide +kernel
theorem dX9_loadOf_39 : decode cX9_loadOf 39 = .ok (.iaload, 1) := by decide +kernel
theorem dX9_loadOf_40 : decode cX9_loadOf 40 = .ok (.iconst (-1), 1) := by decide +kernel
theorem dX9_loadOf_41 : decode cX9_loadOf 41 = .ok (.if_icmp .ne 7, 3) := by decide +kernel
theorem dX9_loadOf_44 : decode cX9_loadOf 44 = .ok (.iconst 0, 1) := by decide +kernel
theorem dX9_loadOf_45 : decode cX9_loadOf 45 = .ok (.goto 4, 3) := by decide +kernel
theorem dX9_loadOf_48 : decode cX9_loadOf 48 = .ok (.iconst 3, 1) := by decide +kernel
theorem dX9_loadOf_49 : decode cX9_loadOf 49 = .ok (.iadd, 1) := by decide +kernel
theorem dX9_loadOf_50 : decode cX9_loadOf 50 = .ok (.goto 4, 3) := by decide +kernel
theorem dX9_loadOf_53 : decode cX9_loadOf 53 = .ok (.iconst 0, 1) := by decide +kernel
theorem dX9_loadOf_54 : decode cX9_loadOf 54 = .ok (.iadd, 1) := by decide +kernel
theorem dX9_loadOf_55 : decode cX9_loadOf 55 = .ok (.istore_n 2, 1) := by decide +kernel
theorem dX9_loadOf_56 : decode cX9_loadOf 56 = .ok (.iinc 3 1, 3) := by decide +kernel
theorem dX9_loadOf_59 : decode cX9_loadOf 59 = .ok (.goto (-55), 3) := by decide +kernel
theorem dX9_loadOf_62 : decode cX9_loadOf 62 = .ok (.iload_n 2, 1) := by decide +kernel
theorem dX9_loadOf_63 : decode cX9_loadOf 63 = .ok (.ireturn, 1) := by decide +kernel
theorem dX9_leastLoaded_0 : decode cX9_leastLoaded 0 = .ok (.iconst 0, 1) := by decide +kernel
theorem dX9_leastLoaded_1 : decode cX9_leastLoaded 1 = .ok (.istore_n 1, 1) := by decide +kernel
theorem dX9_leastLoaded_2 : decode cX9_leastLoaded 2 = .ok (.iconst 1, 1) := by decide +kernel
theorem dX9_leastLoaded_3 : decode cX9_leastLoaded 3 = .ok (.istore_n 2, 1) := by decide +kernel
theorem dX9_leastLoaded_4 : decode cX9_leastLoaded 4 = .ok (.iload_n 2, 1) := by decide +kernel
theorem dX9_leastLoaded_5 : decode cX9_leastLoaded 5 = .ok (.iconst 5, 1) := by decide +kernel
theorem dX9_leastLoaded_6 : decode cX9_leastLoaded 6 = .ok (.if_icmp .ge 28, 3) := by decide +kernel
theorem dX9_leastLoaded_9 : decode cX9_leastLoaded 9 = .ok (.aload_n 0, 1) := by decide +kernel
theorem dX9_leastLoaded_10 : decode cX9_leastLoaded 10 = .ok (.iload_n 2, 1) := by decide +kernel
theorem dX9_leastLoaded_11 : decode cX9_leastLoaded 11 = .ok (.invokevirtual 176, 3) := by decide +kernel
theorem dX9_leastLoaded_14 : decode cX9_leastLoaded 14 = .ok (.aload_n 0, 1) := by decide +kernel
theorem dX9_leastLoaded_15 : decode cX9_leastLoaded 15 = .ok (.iload_n 1, 1) := by decide +kernel
theorem dX9_leastLoaded_16 : decode cX9_leastLoaded 16 = .ok (.invokevirtual 176, 3) := by decide +kernel
theorem dX9_leastLoaded_19 : decode cX9_leastLoaded 19 = .ok (.if_icmp .ge 7, 3) := by decide +kernel
theorem dX9_leastLoaded_22 : decode cX9_leastLoaded 22 = .ok (.iload_n 2, 1) := by decide +kernel
theorem dX9_leastLoaded_23 : decode cX9_leastLoaded 23 = .ok (.goto 4, 3) := by decide +kernel
theorem dX9_leastLoaded_26 : decode cX9_leastLoaded 26 = .ok (.iload_n 1, 1) := by decide +kernel
theorem dX9_leastLoaded_27 : decode cX9_leastLoaded 27 = .ok (.istore_n 1, 1) := by decide +kernel
theorem dX9_leastLoaded_28 : decode cX9_leastLoaded 28 = .ok (.iinc 2 1, 3) := by decide +kernel
theorem dX9_leastLoaded_31 : decode cX9_leastLoaded 31 = .ok (.goto (-27), 3) := by decide +kernel
theorem dX9_leastLoaded_34 : decode cX9_leastLoaded 34 = .ok (.iload_n 1, 1) := by decide +kernel
theorem dX9_leastLoaded_35 : decode cX9_leastLoaded 35 = .ok (.ireturn, 1) := by decide +kernel
theorem dX9_child_0 : decode cX9_child 0 = .ok (.iload_n 1, 1) := by decide +kernel
theorem dX9_child_1 : decode cX9_child 1 = .ok (.iconst 0, 1) := by decide +kernel
theorem dX9_child_2 : decode cX9_child 2 = .ok (.sipush 7000, 3) := by decide +kernel
theorem dX9_child_5 : decode cX9_child 5 = .ok (.invokestatic 165, 3) := by decide +kernel
theorem dX9_child_8 : decode cX9_child 8 = .ok (.ifCond .eq 48, 3) := by decide +kernel
theorem dX9_child_11 : decode cX9_child 11 = .ok (.iload_n 2, 1) := by decide +kernel
theorem dX9_child_12 : decode cX9_child 12 = .ok (.iconst 0, 1) := by decide +kernel
theorem dX9_child_13 : decode cX9_child 13 = .ok (.bipush 15, 2) := by decide +kernel
theorem dX9_child_15 : decode cX9_child 15 = .ok (.invokestatic 165, 3) := by decide +kernel
theorem dX9_child_18 : decode cX9_child 18 = .ok (.ifCond .eq 38, 3) := by decide +kernel
theorem dX9_child_21 : decode cX9_child 21 = .ok (.iload_n 3, 1) := by decide +kernel
theorem dX9_child_22 : decode cX9_child 22 = .ok (.iconst 0, 1) := by decide +kernel
theorem dX9_child_23 : decode cX9_child 23 = .ok (.bipush 7, 2) := by decide +kernel
theorem dX9_child_25 : decode cX9_child 25 = .ok (.invokestatic 165, 3) := by decide +kernel
theorem dX9_child_28 : decode cX9_child 28 = .ok (.ifCond .eq 28, 3) := by decide +kernel
theorem dX9_child_31 : decode cX9_child 31 = .ok (.iload 4, 2) := by decide +kernel
theorem dX9_child_33 : decode cX9_child 33 = .ok (.iconst 0, 1) := by decide +kernel
theorem dX9_child_34 : decode cX9_child 34 = .ok (.bipush 50, 2) := by decide +kernel
theorem dX9_child_36 : decode cX9_child 36 = .ok (.invokestatic 165, 3) := by decide +kernel
theorem dX9_child_39 : decode cX9_child 39 = .ok (.ifCond .eq 17, 3) := by decide +kernel
theorem dX9_child_42 : decode cX9_child 42 = .ok (.iload 5, 2) := by decide +kernel
theorem dX9_child_44 : decode cX9_child 44 = .ok (.iconst 0, 1) := by decide +kernel
theorem dX9_child_45 : decode cX9_child 45 = .ok (.iconst 3, 1) := by decide +kernel
theorem dX9_child_46 : decode cX9_child 46 = .ok (.invokestatic 165, 3) := by decide +kernel
theorem dX9_child_49 : decode cX9_child 49 = .ok (.ifCond .eq 7, 3) := by decide +kernel
theorem dX9_child_52 : decode cX9_child 52 = .ok (.iconst 1, 1) := by decide +kernel
theorem dX9_child_53 : decode cX9_child 53 = .ok (.goto 4, 3) := by decide +kernel
theorem dX9_child_56 : decode cX9_child 56 = .ok (.iconst 0, 1) := by decide +kernel
theorem dX9_child_57 : decode cX9_child 57 = .ok (.istore 6, 2) := by decide +kernel
theorem dX9_child_59 : decode cX9_child 59 = .ok (.aload_n 0, 1) := by decide +kernel
theorem dX9_child_60 : decode cX9_child 60 = .ok (.iload 6, 2) := by decide +kernel
theorem dX9_child_62 : decode cX9_child 62 = .ok (.aload_n 0, 1) := by decide +kernel
theorem dX9_child_63 : decode cX9_child 63 = .ok (.getfield 162, 3) := by decide +kernel
theorem dX9_child_66 : decode cX9_child 66 = .ok (.bipush 16, 2) := by decide +kernel
theorem dX9_child_68 : decode cX9_child 68 = .ok (.if_icmp .ge 7, 3) := by decide +kernel
theorem dX9_child_71 : decode cX9_child 71 = .ok (.iconst 1, 1) := by decide +kernel
theorem dX9_child_72 : decode cX9_child 72 = .ok (.goto 4, 3) := by decide +kernel
theorem dX9_child_75 : decode cX9_child 75 = .ok (.iconst 0, 1) := by decide +kernel
theorem dX9_child_76 : decode cX9_child 76 = .ok (.iconst 1, 1) := by decide +kernel
theorem dX9_child_77 : decode cX9_child 77 = .ok (.invokevirtual 179, 3) := by decide +kernel
theorem dX9_child_80 : decode cX9_child 80 = .ok (.ifCond .ne 5, 3) := by decide +kernel
theorem dX9_child_83 : decode cX9_child 83 = .ok (.iconst 0, 1) := by decide +kernel
theorem dX9_child_84 : decode cX9_child 84 = .ok (.ireturn, 1) := by decide +kernel
theorem dX9_child_85 : decode cX9_child 85 = .ok (.aload_n 0, 1) := by decide +kernel
theorem dX9_child_86 : decode cX9_child 86 = .ok (.invokevirtual 183, 3) := by decide +kernel
theorem dX9_child_89 : decode cX9_child 89 = .ok (.istore 7, 2) := by decide +kernel
theorem dX9_child_91 : decode cX9_child 91 = .ok (.aload_n 0, 1) := by decide +kernel
theorem dX9_child_92 : decode cX9_child 92 = .ok (.getfield 7, 3) := by decide +kernel
theorem dX9_child_95 : decode cX9_child 95 = .ok (.aload_n 0, 1) := by decide +kernel
theorem dX9_child_96 : decode cX9_child 96 = .ok (.getfield 162, 3) := by decide +kernel
theorem dX9_child_99 : decode cX9_child 99 = .ok (.iload_n 1, 1) := by decide +kernel
theorem dX9_child_100 : decode cX9_child 100 = .ok (.iastore, 1) := by decide +kernel
theorem dX9_child_101 : decode cX9_child 101 = .ok (.aload_n 0, 1) := by decide +kernel
theorem dX9_child_102 : decode cX9_child 102 = .ok (.getfield 13, 3) := by decide +kernel
theorem dX9_child_105 : decode cX9_child 105 = .ok (.aload_n 0, 1) := by decide +kernel
theorem dX9_child_106 : decode cX9_child 106 = .ok (.getfield 162, 3) := by decide +kernel
theorem dX9_child_109 : decode cX9_child 109 = .ok (.aload_n 0, 1) := by decide +kernel
theorem dX9_child_110 : decode cX9_child 110 = .ok (.getfield 187, 3) := by decide +kernel
theorem dX9_child_113 : decode cX9_child 113 = .ok (.iastore, 1) := by decide +kernel
theorem dX9_child_114 : decode cX9_child 114 = .ok (.aload_n 0, 1) := by decide +kernel
theorem dX9_child_115 : decode cX9_child 115 = .ok (.getfield 16, 3) := by decide +kernel
theorem dX9_child_118 : decode cX9_child 118 = .ok (.aload_n 0, 1) := by decide +kernel
theorem dX9_child_119 : decode cX9_child 119 = .ok (.getfield 162, 3) := by decide +kernel
theorem dX9_child_122 : decode cX9_child 122 = .ok (.iload_n 2, 1) := by decide +kernel
theorem dX9_child_123 : decode cX9_child 123 = .ok (.iastore, 1) := by decide +kernel
theorem dX9_child_124 : decode cX9_child 124 = .ok (.aload_n 0, 1) := by decide +kernel
theorem dX9_child_125 : decode cX9_child 125 = .ok (.getfield 19, 3) := by decide +kernel
theorem dX9_child_128 : decode cX9_child 128 = .ok (.aload_n 0, 1) := by decide +kernel
theorem dX9_child_129 : decode cX9_child 129 = .ok (.getfield 162, 3) := by decide +kernel
theorem dX9_child_132 : decode cX9_child 132 = .ok (.iload_n 3, 1) := by decide +kernel
theorem dX9_child_133 : decode cX9_child 133 = .ok (.iastore, 1) := by decide +kernel
theorem dX9_child_134 : decode cX9_child 134 = .ok (.aload_n 0, 1) := by decide +kernel
theorem dX9_child_135 : decode cX9_child 135 = .ok (.getfield 22, 3) := by decide +kernel
theorem dX9_child_138 : decode cX9_child 138 = .ok (.aload_n 0, 1) := by decide +kernel
theorem dX9_child_139 : decode cX9_child 139 = .ok (.getfield 162, 3) := by decide +kernel
theorem dX9_child_142 : decode cX9_child 142 = .ok (.iload 4, 2) := by decide +kernel
theorem dX9_child_144 : decode cX9_child 144 = .ok (.iastore, 1) := by decide +kernel
theorem dX9_child_145 : decode cX9_child 145 = .ok (.aload_n 0, 1) := by decide +kernel
theorem dX9_child_146 : decode cX9_child 146 = .ok (.getfield 25, 3) := by decide +kernel
theorem dX9_child_149 : decode cX9_child 149 = .ok (.aload_n 0, 1) := by decide +kernel
theorem dX9_child_150 : decode cX9_child 150 = .ok (.getfield 162, 3) := by decide +kernel
theorem dX9_child_153 : decode cX9_child 153 = .ok (.iload 5, 2) := by decide +kernel
theorem dX9_child_155 : decode cX9_child 155 = .ok (.iastore, 1) := by decide +kernel
theorem dX9_child_156 : decode cX9_child 156 = .ok (.aload_n 0, 1) := by decide +kernel
theorem dX9_child_157 : decode cX9_child 157 = .ok (.getfield 28, 3) := by decide +kernel
theorem dX9_child_160 : decode cX9_child 160 = .ok (.aload_n 0, 1) := by decide +kernel
theorem dX9_child_161 : decode cX9_child 161 = .ok (.getfield 162, 3) := by decide +kernel
theorem dX9_child_164 : decode cX9_child 164 = .ok (.iload 7, 2) := by decide +kernel
theorem dX9_child_166 : decode cX9_child 166 = .ok (.iastore, 1) := by decide +kernel
theorem dX9_child_167 : decode cX9_child 167 = .ok (.aload_n 0, 1) := by decide +kernel
theorem dX9_child_168 : decode cX9_child 168 = .ok (.getfield 31, 3) := by decide +kernel
theorem dX9_child_171 : decode cX9_child 171 = .ok (.aload_n 0, 1) := by decide +kernel
theorem dX9_child_172 : decode cX9_child 172 = .ok (.getfield 162, 3) := by decide +kernel
theorem dX9_child_175 : decode cX9_child 175 = .ok (.iconst (-1), 1) := by decide +kernel
theorem dX9_child_176 : decode cX9_child 176 = .ok (.iastore, 1) := by decide +kernel
theorem dX9_child_177 : decode cX9_child 177 = .ok (.aload_n 0, 1) := by decide +kernel
theorem dX9_child_178 : decode cX9_child 178 = .ok (.getfield 34, 3) := by decide +kernel
theorem dX9_child_181 : decode cX9_child 181 = .ok (.aload_n 0, 1) := by decide +kernel
theorem dX9_child_182 : decode cX9_child 182 = .ok (.getfield 162, 3) := by decide +kernel
theorem dX9_child_185 : decode cX9_child 185 = .ok (.iconst (-1), 1) := by decide +kernel
theorem dX9_child_186 : decode cX9_child 186 = .ok (.iastore, 1) := by decide +kernel
theorem dX9_child_187 : decode cX9_child 187 = .ok (.aload_n 0, 1) := by decide +kernel
theorem dX9_child_188 : decode cX9_child 188 = .ok (.dup, 1) := by decide +kernel
theorem dX9_child_189 : decode cX9_child 189 = .ok (.getfield 162, 3) := by decide +kernel
theorem dX9_child_192 : decode cX9_child 192 = .ok (.iconst 1, 1) := by decide +kernel
theorem dX9_child_193 : decode cX9_child 193 = .ok (.iadd, 1) := by decide +kernel
theorem dX9_child_194 : decode cX9_child 194 = .ok (.putfield 162, 3) := by decide +kernel
theorem dX9_child_197 : decode cX9_child 197 = .ok (.aload_n 0, 1) := by decide +kernel
theorem dX9_child_198 : decode cX9_child 198 = .ok (.getfield 162, 3) := by decide +kernel
theorem dX9_child_201 : decode cX9_child 201 = .ok (.iconst 1, 1) := by decide +kernel
theorem dX9_child_202 : decode cX9_child 202 = .ok (.isub, 1) := by decide +kernel
theorem dX9_child_203 : decode cX9_child 203 = .ok (.ireturn, 1) := by decide +kernel
theorem dX9_home_0 : decode cX9_home 0 = .ok (.aload_n 0, 1) := by decide +kernel
theorem dX9_home_1 : decode cX9_home 1 = .ok (.iload_n 1, 1) := by decide +kernel
theorem dX9_home_2 : decode cX9_home 2 = .ok (.iconst 0, 1) := by decide +kernel
theorem dX9_home_3 : decode cX9_home 3 = .ok (.bipush 50, 2) := by decide +kernel
theorem dX9_home_5 : decode cX9_home 5 = .ok (.invokestatic 165, 3) := by decide +kernel
theorem dX9_home_8 : decode cX9_home 8 = .ok (.ifCond .eq 25, 3) := by decide +kernel
theorem dX9_home_11 : decode cX9_home 11 = .ok (.iload_n 2, 1) := by decide +kernel
theorem dX9_home_12 : decode cX9_home 12 = .ok (.iconst 0, 1) := by decide +kernel
theorem dX9_home_13 : decode cX9_home 13 = .ok (.iconst 3, 1) := by decide +kernel
theorem dX9_home_14 : decode cX9_home 14 = .ok (.invokestatic 165, 3) := by decide +kernel
theorem dX9_home_17 : decode cX9_home 17 = .ok (.ifCond .eq 16, 3) := by decide +kernel
theorem dX9_home_20 : decode cX9_home 20 = .ok (.iload_n 3, 1) := by decide +kernel
theorem dX9_home_21 : decode cX9_home 21 = .ok (.iconst 1, 1) := by decide +kernel
theorem dX9_home_22 : decode cX9_home 22 = .ok (.iconst 5, 1) := by decide +kernel
theorem dX9_home_23 : decode cX9_home 23 = .ok (.invokestatic 165, 3) := by decide +kernel
theorem dX9_home_26 : decode cX9_home 26 = .ok (.ifCond .eq 7, 3) := by decide +kernel
theorem dX9_home_29 : decode cX9_home 29 = .ok (.iconst 1, 1) := by decide +kernel
theorem dX9_home_30 : decode cX9_home 30 = .ok (.goto 4, 3) := by decide +kernel
theorem dX9_home_33 : decode cX9_home 33 = .ok (.iconst 0, 1) := by decide +kernel
theorem dX9_home_34 : decode cX9_home 34 = .ok (.aload_n 0, 1) := by decide +kernel
theorem dX9_home_35 : decode cX9_home 35 = .ok (.getfield 169, 3) := by decide +kernel
theorem dX9_home_38 : decode cX9_home 38 = .ok (.bipush 10, 2) := by decide +kernel
theorem dX9_home_40 : decode cX9_home 40 = .ok (.if_icmp .ge 7, 3) := by decide +kernel
theorem dX9_home_43 : decode cX9_home 43 = .ok (.iconst 1, 1) := by decide +kernel
theorem dX9_home_44 : decode cX9_home 44 = .ok (.goto 4, 3) := by decide +kernel
theorem dX9_home_47 : decode cX9_home 47 = .ok (.iconst 0, 1) := by decide +kernel
theorem dX9_home_48 : decode cX9_home 48 = .ok (.iconst 1, 1) := by decide +kernel
theorem dX9_home_49 : decode cX9_home 49 = .ok (.invokevirtual 179, 3) := by decide +kernel
theorem dX9_home_52 : decode cX9_home 52 = .ok (.ifCond .ne 5, 3) := by decide +kernel
theorem dX9_home_55 : decode cX9_home 55 = .ok (.iconst 0, 1) := by decide +kernel
theorem dX9_home_56 : decode cX9_home 56 = .ok (.ireturn, 1) := by decide +kernel
theorem dX9_home_57 : decode cX9_home 57 = .ok (.aload_n 0, 1) := by decide +kernel
theorem dX9_home_58 : decode cX9_home 58 = .ok (.getfield 65, 3) := by decide +kernel
theorem dX9_home_61 : decode cX9_home 61 = .ok (.aload_n 0, 1) := by decide +kernel
theorem dX9_home_62 : decode cX9_home 62 = .ok (.getfield 169, 3) := by decide +kernel
theorem dX9_home_65 : decode cX9_home 65 = .ok (.iload_n 1, 1) := by decide +kernel
theorem dX9_home_66 : decode cX9_home 66 = .ok (.iastore, 1) := by decide +kernel
theorem dX9_home_67 : decode cX9_home 67 = .ok (.aload_n 0, 1) := by decide +kernel
theorem dX9_home_68 : decode cX9_home 68 = .ok (.getfield 68, 3) := by decide +kernel
theorem dX9_home_71 : decode cX9_home 71 = .ok (.aload_n 0, 1) := by decide +kernel
theorem dX9_home_72 : decode cX9_home 72 = .ok (.getfield 169, 3) := by decide +kernel
theorem dX9_home_75 : decode cX9_home 75 = .ok (.iload_n 2, 1) := by decide +kernel
theorem dX9_home_76 : decode cX9_home 76 = .ok (.iastore, 1) := by decide +kernel
theorem dX9_home_77 : decode cX9_home 77 = .ok (.aload_n 0, 1) := by decide +kernel
theorem dX9_home_78 : decode cX9_home 78 = .ok (.getfield 71, 3) := by decide +kernel
theorem dX9_home_81 : decode cX9_home 81 = .ok (.aload_n 0, 1) := by decide +kernel
theorem dX9_home_82 : decode cX9_home 82 = .ok (.getfield 169, 3) := by decide +kernel
theorem dX9_home_85 : decode cX9_home 85 = .ok (.iload_n 3, 1) := by decide +kernel
theorem dX9_home_86 : decode cX9_home 86 = .ok (.iastore, 1) := by decide +kernel
theorem dX9_home_87 : decode cX9_home 87 = .ok (.aload_n 0, 1) := by decide +kernel
theorem dX9_home_88 : decode cX9_home 88 = .ok (.dup, 1) := by decide +kernel
theorem dX9_home_89 : decode cX9_home 89 = .ok (.getfield 169, 3) := by decide +kernel
theorem dX9_home_92 : decode cX9_home 92 = .ok (.iconst 1, 1) := by decide +kernel
theorem dX9_home_93 : decode cX9_home 93 = .ok (.iadd, 1) := by decide +kernel
theorem dX9_home_94 : decode cX9_home 94 = .ok (.putfield 169, 3) := by decide +kernel
theorem dX9_home_97 : decode cX9_home 97 = .ok (.aload_n 0, 1) := by decide +kernel
theorem dX9_home_98 : decode cX9_home 98 = .ok (.getfield 169, 3) := by decide +kernel
theorem dX9_home_101 : decode cX9_home 101 = .ok (.iconst 1, 1) := by decide +kernel
theorem dX9_home_102 : decode cX9_home 102 = .ok (.isub, 1) := by decide +kernel
theorem dX9_home_103 : decode cX9_home 103 = .ok (.ireturn, 1) := by decide +kernel
theorem dX9_tells_0 : decode cX9_tells 0 = .ok (.aload_n 0, 1) := by decide +kernel
theorem dX9_tells_1 : decode cX9_tells 1 = .ok (.getfield 190, 3) := by decide +kernel
theorem dX9_tells_4 : decode cX9_tells 4 = .ok (.istore 6, 2) := by decide +kernel
theorem dX9_tells_6 : decode cX9_tells 6 = .ok (.iconst 0, 1) := by decide +kernel
theorem dX9_tells_7 : decode cX9_tells 7 = .ok (.istore 7, 2) := by decide +kernel
theorem dX9_tells_9 : decode cX9_tells 9 = .ok (.iload 7, 2) := by decide +kernel
theorem dX9_tells_11 : decode cX9_tells 11 = .ok (.aload_n 0, 1) := by decide +kernel
theorem dX9_tells_12 : decode cX9_tells 12 = .ok (.getfield 190, 3) := by decide +kernel
theorem dX9_tells_15 : decode cX9_tells 15 = .ok (.if_icmp .ge 54, 3) := by decide +kernel
theorem dX9_tells_18 : decode cX9_tells 18 = .ok (.aload_n 0, 1) := by decide +kernel
theorem dX9_tells_19 : decode cX9_tells 19 = .ok (.getfield 83, 3) := by decide +kernel
theorem dX9_tells_22 : decode cX9_tells 22 = .ok (.iload 7, 2) := by decide +kernel
theorem dX9_tells_24 : decode cX9_tells 24 = .ok (.iaload, 1) := by decide +kernel
theorem dX9_tells_25 : decode cX9_tells 25 = .ok (.iload_n 1, 1) := by decide +kernel
theorem dX9_tells_26 : decode cX9_tells 26 = .ok (.if_icmp .ne 33, 3) := by decide +kernel
theorem dX9_tells_29 : decode cX9_tells 29 = .ok (.aload_n 0, 1) := by decide +kernel
theorem dX9_tells_30 : decode cX9_tells 30 = .ok (.getfield 86, 3) := by decide +kernel
theorem dX9_tells_33 : decode cX9_tells 33 = .ok (.iload 7, 2) := by decide +kernel
theorem dX9_tells_35 : decode cX9_tells 35 = .ok (.iaload, 1) := by decide +kernel
theorem dX9_tells_36 : decode cX9_tells 36 = .ok (.iload_n 2, 1) := by decide +kernel
theorem dX9_tells_37 : decode cX9_tells 37 = .ok (.if_icmp .ne 22, 3) := by decide +kernel
theorem dX9_tells_40 : decode cX9_tells 40 = .ok (.aload_n 0, 1) := by decide +kernel
theorem dX9_tells_41 : decode cX9_tells 41 = .ok (.getfield 89, 3) := by decide +kernel
theorem dX9_tells_44 : decode cX9_tells 44 = .ok (.iload 7, 2) := by decide +kernel
theorem dX9_tells_46 : decode cX9_tells 46 = .ok (.iaload, 1) := by decide +kernel
theorem dX9_tells_47 : decode cX9_tells 47 = .ok (.aload_n 0, 1) := by decide +kernel
theorem dX9_tells_48 : decode cX9_tells 48 = .ok (.getfield 187, 3) := by decide +kernel
theorem dX9_tells_51 : decode cX9_tells 51 = .ok (.if_icmp .ne 8, 3) := by decide +kernel
theorem dX9_tells_54 : decode cX9_tells 54 = .ok (.iload 7, 2) := by decide +kernel
theorem dX9_tells_56 : decode cX9_tells 56 = .ok (.goto 5, 3) := by decide +kernel
theorem dX9_tells_59 : decode cX9_tells 59 = .ok (.iload 6, 2) := by decide +kernel
theorem dX9_tells_61 : decode cX9_tells 61 = .ok (.istore 6, 2) := by decide +kernel
theorem dX9_tells_63 : decode cX9_tells 63 = .ok (.iinc 7 1, 3) := by decide +kernel
theorem dX9_tells_66 : decode cX9_tells 66 = .ok (.goto (-57), 3) := by decide +kernel
theorem dX9_tells_69 : decode cX9_tells 69 = .ok (.aload_n 0, 1) := by decide +kernel
theorem dX9_tells_70 : decode cX9_tells 70 = .ok (.getfield 83, 3) := by decide +kernel
theorem dX9_tells_73 : decode cX9_tells 73 = .ok (.iload 6, 2) := by decide +kernel
theorem dX9_tells_75 : decode cX9_tells 75 = .ok (.iload_n 1, 1) := by decide +kernel
theorem dX9_tells_76 : decode cX9_tells 76 = .ok (.iastore, 1) := by decide +kernel
theorem dX9_tells_77 : decode cX9_tells 77 = .ok (.aload_n 0, 1) := by decide +kernel
theorem dX9_tells_78 : decode cX9_tells 78 = .ok (.getfield 86, 3) := by decide +kernel
theorem dX9_tells_81 : decode cX9_tells 81 = .ok (.iload 6, 2) := by decide +kernel
theorem dX9_tells_83 : decode cX9_tells 83 = .ok (.iload_n 2, 1) := by decide +kernel
theorem dX9_tells_84 : decode cX9_tells 84 = .ok (.iastore, 1) := by decide +kernel
theorem dX9_tells_85 : decode cX9_tells 85 = .ok (.aload_n 0, 1) := by decide +kernel
theorem dX9_tells_86 : decode cX9_tells 86 = .ok (.getfield 89, 3) := by decide +kernel
theorem dX9_tells_89 : decode cX9_tells 89 = .ok (.iload 6, 2) := by decide +kernel
theorem dX9_tells_91 : decode cX9_tells 91 = .ok (.aload_n 0, 1) := by decide +kernel
theorem dX9_tells_92 : decode cX9_tells 92 = .ok (.getfield 187, 3) := by decide +kernel
theorem dX9_tells_95 : decode cX9_tells 95 = .ok (.iastore, 1) := by decide +kernel
theorem dX9_tells_96 : decode cX9_tells 96 = .ok (.aload_n 0, 1) := by decide +kernel
theorem dX9_tells_97 : decode cX9_tells 97 = .ok (.getfield 92, 3) := by decide +kernel
theorem dX9_tells_100 : decode cX9_tells 100 = .ok (.iload 6, 2) := by decide +kernel
theorem dX9_tells_102 : decode cX9_tells 102 = .ok (.iload_n 3, 1) := by decide +kernel
theorem dX9_tells_103 : decode cX9_tells 103 = .ok (.iastore, 1) := by decide +kernel
theorem dX9_tells_104 : decode cX9_tells 104 = .ok (.aload_n 0, 1) := by decide +kernel
theorem dX9_tells_105 : decode cX9_tells 105 = .ok (.getfield 95, 3) := by decide +kernel
theorem dX9_tells_108 : decode cX9_tells 108 = .ok (.iload 6, 2) := by decide +kernel
theorem dX9_tells_110 : decode cX9_tells 110 = .ok (.iload 4, 2) := by decide +kernel
theorem dX9_tells_112 : decode cX9_tells 112 = .ok (.iastore, 1) := by decide +kernel
theorem dX9_tells_113 : decode cX9_tells 113 = .ok (.aload_n 0, 1) := by decide +kernel
theorem dX9_tells_114 : decode cX9_tells 114 = .ok (.getfield 98, 3) := by decide +kernel
theorem dX9_tells_117 : decode cX9_tells 117 = .ok (.iload 6, 2) := by decide +kernel
theorem dX9_tells_119 : decode cX9_tells 119 = .ok (.iload 5, 2) := by decide +kernel
theorem dX9_tells_121 : decode cX9_tells 121 = .ok (.iastore, 1) := by decide +kernel
theorem dX9_tells_122 : decode cX9_tells 122 = .ok (.aload_n 0, 1) := by decide +kernel
theorem dX9_tells_123 : decode cX9_tells 123 = .ok (.dup, 1) := by decide +kernel
theorem dX9_tells_124 : decode cX9_tells 124 = .ok (.getfield 190, 3) := by decide +kernel
theorem dX9_tells_127 : decode cX9_tells 127 = .ok (.iload 6, 2) := by decide +kernel
theorem dX9_tells_129 : decode cX9_tells 129 = .ok (.aload_n 0, 1) := by decide +kernel
theorem dX9_tells_130 : decode cX9_tells 130 = .ok (.getfield 190, 3) := by decide +kernel
theorem dX9_tells_133 : decode cX9_tells 133 = .ok (.if_icmp .ne 7, 3) := by decide +kernel
theorem dX9_tells_136 : decode cX9_tells 136 = .ok (.iconst 1, 1) := by decide +kernel
theorem dX9_tells_137 : decode cX9_tells 137 = .ok (.goto 4, 3) := by decide +kernel
theorem dX9_tells_140 : decode cX9_tells 140 = .ok (.iconst 0, 1) := by decide +kernel
theorem dX9_tells_141 : decode cX9_tells 141 = .ok (.iadd, 1) := by decide +kernel
theorem dX9_tells_142 : decode cX9_tells 142 = .ok (.putfield 190, 3) := by decide +kernel
theorem dX9_tells_145 : decode cX9_tells 145 = .ok (.return_, 1) := by decide +kernel
theorem dX9_toldOn_0 : decode cX9_toldOn 0 = .ok (.iconst (-1), 1) := by decide +kernel
theorem dX9_toldOn_1 : decode cX9_toldOn 1 = .ok (.istore 4, 2) := by decide +kernel
theorem dX9_toldOn_3 : decode cX9_toldOn 3 = .ok (.iconst 0, 1) := by decide +kernel
theorem dX9_toldOn_4 : decode cX9_toldOn 4 = .ok (.istore 5, 2) := by decide +kernel
theorem dX9_toldOn_6 : decode cX9_toldOn 6 = .ok (.iload 5, 2) := by decide +kernel
theorem dX9_toldOn_8 : decode cX9_toldOn 8 = .ok (.aload_n 0, 1) := by decide +kernel
theorem dX9_toldOn_9 : decode cX9_toldOn 9 = .ok (.getfield 190, 3) := by decide +kernel
theorem dX9_toldOn_12 : decode cX9_toldOn 12 = .ok (.if_icmp .ge 51, 3) := by decide +kernel
theorem dX9_toldOn_15 : decode cX9_toldOn 15 = .ok (.aload_n 0, 1) := by decide +kernel
theorem dX9_toldOn_16 : decode cX9_toldOn 16 = .ok (.getfield 83, 3) := by decide +kernel
theorem dX9_toldOn_19 : decode cX9_toldOn 19 = .ok (.iload 5, 2) := by decide +kernel
theorem dX9_toldOn_21 : decode cX9_toldOn 21 = .ok (.iaload, 1) := by decide +kernel
theorem dX9_toldOn_22 : decode cX9_toldOn 22 = .ok (.iload_n 1, 1) := by decide +kernel
theorem dX9_toldOn_23 : decode cX9_toldOn 23 = .ok (.if_icmp .ne 30, 3) := by decide +kernel
theorem dX9_toldOn_26 : decode cX9_toldOn 26 = .ok (.aload_n 0, 1) := by decide +kernel
theorem dX9_toldOn_27 : decode cX9_toldOn 27 = .ok (.getfield 86, 3) := by decide +kernel
theorem dX9_toldOn_30 : decode cX9_toldOn 30 = .ok (.iload 5, 2) := by decide +kernel
theorem dX9_toldOn_32 : decode cX9_toldOn 32 = .ok (.iaload, 1) := by decide +kernel
theorem dX9_toldOn_33 : decode cX9_toldOn 33 = .ok (.iload_n 2, 1) := by decide +kernel
theorem dX9_toldOn_34 : decode cX9_toldOn 34 = .ok (.if_icmp .ne 19, 3) := by decide +kernel
theorem dX9_toldOn_37 : decode cX9_toldOn 37 = .ok (.aload_n 0, 1) := by decide +kernel
theorem dX9_toldOn_38 : decode cX9_toldOn 38 = .ok (.getfield 89, 3) := by decide +kernel
theorem dX9_toldOn_41 : decode cX9_toldOn 41 = .ok (.iload 5, 2) := by decide +kernel
theorem dX9_toldOn_43 : decode cX9_toldOn 43 = .ok (.iaload, 1) := by decide +kernel
theorem dX9_toldOn_44 : decode cX9_toldOn 44 = .ok (.iload_n 3, 1) := by decide +kernel
theorem dX9_toldOn_45 : decode cX9_toldOn 45 = .ok (.if_icmp .gt 8, 3) := by decide +kernel
theorem dX9_toldOn_48 : decode cX9_toldOn 48 = .ok (.iload 5, 2) := by decide +kernel
theorem dX9_toldOn_50 : decode cX9_toldOn 50 = .ok (.goto 5, 3) := by decide +kernel
theorem dX9_toldOn_53 : decode cX9_toldOn 53 = .ok (.iload 4, 2) := by decide +kernel
theorem dX9_toldOn_55 : decode cX9_toldOn 55 = .ok (.istore 4, 2) := by decide +kernel
theorem dX9_toldOn_57 : decode cX9_toldOn 57 = .ok (.iinc 5 1, 3) := by decide +kernel
theorem dX9_toldOn_60 : decode cX9_toldOn 60 = .ok (.goto (-54), 3) := by decide +kernel
theorem dX9_toldOn_63 : decode cX9_toldOn 63 = .ok (.iload 4, 2) := by decide +kernel
theorem dX9_toldOn_65 : decode cX9_toldOn 65 = .ok (.ireturn, 1) := by decide +kernel
theorem dX9_approve_0 : decode cX9_approve 0 = .ok (.aload_n 0, 1) := by decide +kernel
theorem dX9_approve_1 : decode cX9_approve 1 = .ok (.aload_n 0, 1) := by decide +kernel
theorem dX9_approve_2 : decode cX9_approve 2 = .ok (.iload_n 1, 1) := by decide +kernel
theorem dX9_approve_3 : decode cX9_approve 3 = .ok (.invokevirtual 193, 3) := by decide +kernel
theorem dX9_approve_6 : decode cX9_approve 6 = .ok (.iload_n 2, 1) := by decide +kernel
theorem dX9_approve_7 : decode cX9_approve 7 = .ok (.iconst 0, 1) := by decide +kernel
theorem dX9_approve_8 : decode cX9_approve 8 = .ok (.bipush 17, 2) := by decide +kernel
theorem dX9_approve_10 : decode cX9_approve 10 = .ok (.invokestatic 165, 3) := by decide +kernel
theorem dX9_approve_13 : decode cX9_approve 13 = .ok (.ifCond .eq 29, 3) := by decide +kernel
theorem dX9_approve_16 : decode cX9_approve 16 = .ok (.iload_n 3, 1) := by decide +kernel
theorem dX9_approve_17 : decode cX9_approve 17 = .ok (.iload_n 2, 1) := by decide +kernel
theorem dX9_approve_18 : decode cX9_approve 18 = .ok (.bipush 17, 2) := by decide +kernel
theorem dX9_approve_20 : decode cX9_approve 20 = .ok (.invokestatic 165, 3) := by decide +kernel
theorem dX9_approve_23 : decode cX9_approve 23 = .ok (.ifCond .eq 19, 3) := by decide +kernel
theorem dX9_approve_26 : decode cX9_approve 26 = .ok (.iload 4, 2) := by decide +kernel
theorem dX9_approve_28 : decode cX9_approve 28 = .ok (.iconst 0, 1) := by decide +kernel
theorem dX9_approve_29 : decode cX9_approve 29 = .ok (.sipush 20000, 3) := by decide +kernel
theorem dX9_approve_32 : decode cX9_approve 32 = .ok (.invokestatic 165, 3) := by decide +kernel
theorem dX9_approve_35 : decode cX9_approve 35 = .ok (.ifCond .eq 7, 3) := by decide +kernel
theorem dX9_approve_38 : decode cX9_approve 38 = .ok (.iconst 1, 1) := by decide +kernel
theorem dX9_approve_39 : decode cX9_approve 39 = .ok (.goto 4, 3) := by decide +kernel
theorem dX9_approve_42 : decode cX9_approve 42 = .ok (.iconst 0, 1) := by decide +kernel
theorem dX9_approve_43 : decode cX9_approve 43 = .ok (.iconst 1, 1) := by decide +kernel
theorem dX9_approve_44 : decode cX9_approve 44 = .ok (.invokevirtual 179, 3) := by decide +kernel
theorem dX9_approve_47 : decode cX9_approve 47 = .ok (.ifCond .eq 13, 3) := by decide +kernel
theorem dX9_approve_50 : decode cX9_approve 50 = .ok (.aload_n 0, 1) := by decide +kernel
theorem dX9_approve_51 : decode cX9_approve 51 = .ok (.iload_n 1, 1) := by decide +kernel
theorem dX9_approve_52 : decode cX9_approve 52 = .ok (.iconst 0, 1) := by decide +kernel
theorem dX9_approve_53 : decode cX9_approve 53 = .ok (.iload_n 2, 1) := by decide +kernel
theorem dX9_approve_54 : decode cX9_approve 54 = .ok (.iload_n 3, 1) := by decide +kernel
theorem dX9_approve_55 : decode cX9_approve 55 = .ok (.iload 4, 2) := by decide +kernel
theorem dX9_approve_57 : decode cX9_approve 57 = .ok (.invokevirtual 197, 3) := by decide +kernel
theorem dX9_approve_60 : decode cX9_approve 60 = .ok (.return_, 1) := by decide +kernel
theorem dX9_train_0 : decode cX9_train 0 = .ok (.aload_n 0, 1) := by decide +kernel
theorem dX9_train_1 : decode cX9_train 1 = .ok (.aload_n 0, 1) := by decide +kernel
theorem dX9_train_2 : decode cX9_train 2 = .ok (.iload_n 1, 1) := by decide +kernel
theorem dX9_train_3 : decode cX9_train 3 = .ok (.invokevirtual 193, 3) := by decide +kernel
theorem dX9_train_6 : decode cX9_train 6 = .ok (.iload_n 2, 1) := by decide +kernel
theorem dX9_train_7 : decode cX9_train 7 = .ok (.iconst 0, 1) := by decide +kernel
theorem dX9_train_8 : decode cX9_train 8 = .ok (.bipush 15, 2) := by decide +kernel
theorem dX9_train_10 : decode cX9_train 10 = .ok (.invokestatic 165, 3) := by decide +kernel
theorem dX9_train_13 : decode cX9_train 13 = .ok (.ifCond .eq 18, 3) := by decide +kernel
theorem dX9_train_16 : decode cX9_train 16 = .ok (.iload_n 3, 1) := by decide +kernel
theorem dX9_train_17 : decode cX9_train 17 = .ok (.iconst 0, 1) := by decide +kernel
theorem dX9_train_18 : decode cX9_train 18 = .ok (.sipush 20000, 3) := by decide +kernel
theorem dX9_train_21 : decode cX9_train 21 = .ok (.invokestatic 165, 3) := by decide +kernel
theorem dX9_train_24 : decode cX9_train 24 = .ok (.ifCond .eq 7, 3) := by decide +kernel
theorem dX9_train_27 : decode cX9_train 27 = .ok (.iconst 1, 1) := by decide +kernel
theorem dX9_train_28 : decode cX9_train 28 = .ok (.goto 4, 3) := by decide +kernel
theorem dX9_train_31 : decode cX9_train 31 = .ok (.iconst 0, 1) := by decide +kernel
theorem dX9_train_32 : decode cX9_train 32 = .ok (.iconst 1, 1) := by decide +kernel
theorem dX9_train_33 : decode cX9_train 33 = .ok (.invokevirtual 179, 3) := by decide +kernel
theorem dX9_train_36 : decode cX9_train 36 = .ok (.ifCond .eq 12, 3) := by decide +kernel
theorem dX9_train_39 : decode cX9_train 39 = .ok (.aload_n 0, 1) := by decide +kernel
theorem dX9_train_40 : decode cX9_train 40 = .ok (.iload_n 1, 1) := by decide +kernel
theorem dX9_train_41 : decode cX9_train 41 = .ok (.iconst 1, 1) := by decide +kernel
theorem dX9_train_42 : decode cX9_train 42 = .ok (.iload_n 2, 1) := by decide +kernel
theorem dX9_train_43 : decode cX9_train 43 = .ok (.iconst 0, 1) := by decide +kernel
theorem dX9_train_44 : decode cX9_train 44 = .ok (.iload_n 3, 1) := by decide +kernel
theorem dX9_train_45 : decode cX9_train 45 = .ok (.invokevirtual 197, 3) := by decide +kernel
theorem dX9_train_48 : decode cX9_train 48 = .ok (.return_, 1) := by decide +kernel
theorem dX9_rest_0 : decode cX9_rest 0 = .ok (.aload_n 0, 1) := by decide +kernel
theorem dX9_rest_1 : decode cX9_rest 1 = .ok (.aload_n 0, 1) := by decide +kernel
theorem dX9_rest_2 : decode cX9_rest 2 = .ok (.iload_n 1, 1) := by decide +kernel
theorem dX9_rest_3 : decode cX9_rest 3 = .ok (.invokevirtual 193, 3) := by decide +kernel
theorem dX9_rest_6 : decode cX9_rest 6 = .ok (.iload_n 2, 1) := by decide +kernel
theorem dX9_rest_7 : decode cX9_rest 7 = .ok (.aload_n 0, 1) := by decide +kernel
theorem dX9_rest_8 : decode cX9_rest 8 = .ok (.getfield 187, 3) := by decide +kernel
theorem dX9_rest_11 : decode cX9_rest 11 = .ok (.sipush 20000, 3) := by decide +kernel
theorem dX9_rest_14 : decode cX9_rest 14 = .ok (.invokestatic 165, 3) := by decide +kernel
theorem dX9_rest_17 : decode cX9_rest 17 = .ok (.ifCond .eq 18, 3) := by decide +kernel
theorem dX9_rest_20 : decode cX9_rest 20 = .ok (.iload_n 3, 1) := by decide +kernel
theorem dX9_rest_21 : decode cX9_rest 21 = .ok (.iload_n 2, 1) := by decide +kernel
theorem dX9_rest_22 : decode cX9_rest 22 = .ok (.sipush 20000, 3) := by decide +kernel
theorem dX9_rest_25 : decode cX9_rest 25 = .ok (.invokestatic 165, 3) := by decide +kernel
theorem dX9_rest_28 : decode cX9_rest 28 = .ok (.ifCond .eq 7, 3) := by decide +kernel
theorem dX9_rest_31 : decode cX9_rest 31 = .ok (.iconst 1, 1) := by decide +kernel
theorem dX9_rest_32 : decode cX9_rest 32 = .ok (.goto 4, 3) := by decide +kernel
theorem dX9_rest_35 : decode cX9_rest 35 = .ok (.iconst 0, 1) := by decide +kernel
theorem dX9_rest_36 : decode cX9_rest 36 = .ok (.iconst 1, 1) := by decide +kernel
theorem dX9_rest_37 : decode cX9_rest 37 = .ok (.invokevirtual 179, 3) := by decide +kernel
theorem dX9_rest_40 : decode cX9_rest 40 = .ok (.ifCond .eq 12, 3) := by decide +kernel
theorem dX9_rest_43 : decode cX9_rest 43 = .ok (.aload_n 0, 1) := by decide +kernel
theorem dX9_rest_44 : decode cX9_rest 44 = .ok (.iload_n 1, 1) := by decide +kernel
theorem dX9_rest_45 : decode cX9_rest 45 = .ok (.iconst 2, 1) := by decide +kernel
theorem dX9_rest_46 : decode cX9_rest 46 = .ok (.iload_n 2, 1) := by decide +kernel
theorem dX9_rest_47 : decode cX9_rest 47 = .ok (.iconst 0, 1) := by decide +kernel
theorem dX9_rest_48 : decode cX9_rest 48 = .ok (.iload_n 3, 1) := by decide +kernel
theorem dX9_rest_49 : decode cX9_rest 49 = .ok (.invokevirtual 197, 3) := by decide +kernel
theorem dX9_rest_52 : decode cX9_rest 52 = .ok (.return_, 1) := by decide +kernel
theorem dX9_isLate_0 : decode cX9_isLate 0 = .ok (.aload_n 0, 1) := by decide +kernel
theorem dX9_isLate_1 : decode cX9_isLate 1 = .ok (.getfield 110, 3) := by decide +kernel
theorem dX9_isLate_4 : decode cX9_isLate 4 = .ok (.iload_n 1, 1) := by decide +kernel
theorem dX9_isLate_5 : decode cX9_isLate 5 = .ok (.iaload, 1) := by decide +kernel
theorem dX9_isLate_6 : decode cX9_isLate 6 = .ok (.aload_n 0, 1) := by decide +kernel
theorem dX9_isLate_7 : decode cX9_isLate 7 = .ok (.getfield 187, 3) := by decide +kernel
theorem dX9_isLate_10 : decode cX9_isLate 10 = .ok (.bipush 30, 2) := by decide +kernel
theorem dX9_isLate_12 : decode cX9_isLate 12 = .ok (.isub, 1) := by decide +kernel
theorem dX9_isLate_13 : decode cX9_isLate 13 = .ok (.if_icmp .le 7, 3) := by decide +kernel
theorem dX9_isLate_16 : decode cX9_isLate 16 = .ok (.iconst 1, 1) := by decide +kernel
theorem dX9_isLate_17 : decode cX9_isLate 17 = .ok (.goto 4, 3) := by decide +kernel
theorem dX9_isLate_20 : decode cX9_isLate 20 = .ok (.iconst 0, 1) := by decide +kernel
theorem dX9_isLate_21 : decode cX9_isLate 21 = .ok (.ireturn, 1) := by decide +kernel
theorem dX9_isGreatest_0 : decode cX9_isGreatest 0 = .ok (.iconst 1, 1) := by decide +kernel
theorem dX9_isGreatest_1 : decode cX9_isGreatest 1 = .ok (.istore_n 3, 1) := by decide +kernel
theorem dX9_isGreatest_2 : decode cX9_isGreatest 2 = .ok (.bipush 30, 2) := by decide +kernel
theorem dX9_isGreatest_4 : decode cX9_isGreatest 4 = .ok (.iload_n 1, 1) := by decide +kernel
theorem dX9_isGreatest_5 : decode cX9_isGreatest 5 = .ok (.imul, 1) := by decide +kernel
theorem dX9_isGreatest_6 : decode cX9_isGreatest 6 = .ok (.istore 4, 2) := by decide +kernel
theorem dX9_isGreatest_8 : decode cX9_isGreatest 8 = .ok (.iload 4, 2) := by decide +kernel
theorem dX9_isGreatest_10 : decode cX9_isGreatest 10 = .ok (.bipush 30, 2) := by decide +kernel
theorem dX9_isGreatest_12 : decode cX9_isGreatest 12 = .ok (.iload_n 1, 1) := by decide +kernel
theorem dX9_isGreatest_13 : decode cX9_isGreatest 13 = .ok (.imul, 1) := by decide +kernel
theorem dX9_isGreatest_14 : decode cX9_isGreatest 14 = .ok (.aload_n 0, 1) := by decide +kernel
theorem dX9_isGreatest_15 : decode cX9_isGreatest 15 = .ok (.getfield 101, 3) := by decide +kernel
theorem dX9_isGreatest_18 : decode cX9_isGreatest 18 = .ok (.iload_n 1, 1) := by decide +kernel
theorem dX9_isGreatest_19 : decode cX9_isGreatest 19 = .ok (.iaload, 1) := by decide +kernel
theorem dX9_isGreatest_20 : decode cX9_isGreatest 20 = .ok (.iadd, 1) := by decide +kernel
theorem dX9_isGreatest_21 : decode cX9_isGreatest 21 = .ok (.if_icmp .ge 107, 3) := by decide +kernel
theorem dX9_isGreatest_24 : decode cX9_isGreatest 24 = .ok (.iload 4, 2) := by decide +kernel
theorem dX9_isGreatest_26 : decode cX9_isGreatest 26 = .ok (.iload_n 2, 1) := by decide +kernel
theorem dX9_isGreatest_27 : decode cX9_isGreatest 27 = .ok (.if_icmp .eq 39, 3) := by decide +kernel
theorem dX9_isGreatest_30 : decode cX9_isGreatest 30 = .ok (.aload_n 0, 1) := by decide +kernel
theorem dX9_isGreatest_31 : decode cX9_isGreatest 31 = .ok (.getfield 104, 3) := by decide +kernel
theorem dX9_isGreatest_34 : decode cX9_isGreatest 34 = .ok (.iload 4, 2) := by decide +kernel
theorem dX9_isGreatest_36 : decode cX9_isGreatest 36 = .ok (.iaload, 1) := by decide +kernel
theorem dX9_isGreatest_37 : decode cX9_isGreatest 37 = .ok (.aload_n 0, 1) := by decide +kernel
theorem dX9_isGreatest_38 : decode cX9_isGreatest 38 = .ok (.getfield 104, 3) := by decide +kernel
theorem dX9_isGreatest_41 : decode cX9_isGreatest 41 = .ok (.iload_n 2, 1) := by decide +kernel
theorem dX9_isGreatest_42 : decode cX9_isGreatest 42 = .ok (.iaload, 1) := by decide +kernel
theorem dX9_isGreatest_43 : decode cX9_isGreatest 43 = .ok (.if_icmp .ne 23, 3) := by decide +kernel
theorem dX9_isGreatest_46 : decode cX9_isGreatest 46 = .ok (.aload_n 0, 1) := by decide +kernel
theorem dX9_isGreatest_47 : decode cX9_isGreatest 47 = .ok (.getfield 110, 3) := by decide +kernel
theorem dX9_isGreatest_50 : decode cX9_isGreatest 50 = .ok (.iload 4, 2) := by decide +kernel
theorem dX9_isGreatest_52 : decode cX9_isGreatest 52 = .ok (.iaload, 1) := by decide +kernel
theorem dX9_isGreatest_53 : decode cX9_isGreatest 53 = .ok (.aload_n 0, 1) := by decide +kernel
theorem dX9_isGreatest_54 : decode cX9_isGreatest 54 = .ok (.getfield 110, 3) := by decide +kernel
theorem dX9_isGreatest_57 : decode cX9_isGreatest 57 = .ok (.iload_n 2, 1) := by decide +kernel
theorem dX9_isGreatest_58 : decode cX9_isGreatest 58 = .ok (.iaload, 1) := by decide +kernel
theorem dX9_isGreatest_59 : decode cX9_isGreatest 59 = .ok (.if_icmp .ne 7, 3) := by decide +kernel
theorem dX9_isGreatest_62 : decode cX9_isGreatest 62 = .ok (.iconst 1, 1) := by decide +kernel
theorem dX9_isGreatest_63 : decode cX9_isGreatest 63 = .ok (.goto 4, 3) := by decide +kernel
theorem dX9_isGreatest_66 : decode cX9_isGreatest 66 = .ok (.iconst 0, 1) := by decide +kernel
theorem dX9_isGreatest_67 : decode cX9_isGreatest 67 = .ok (.istore 5, 2) := by decide +kernel
theorem dX9_isGreatest_69 : decode cX9_isGreatest 69 = .ok (.iload_n 3, 1) := by decide +kernel
theorem dX9_isGreatest_70 : decode cX9_isGreatest 70 = .ok (.ifCond .eq 50, 3) := by decide +kernel
theorem dX9_isGreatest_73 : decode cX9_isGreatest 73 = .ok (.iload 5, 2) := by decide +kernel
theorem dX9_isGreatest_75 : decode cX9_isGreatest 75 = .ok (.ifCond .eq 41, 3) := by decide +kernel
theorem dX9_isGreatest_78 : decode cX9_isGreatest 78 = .ok (.aload_n 0, 1) := by decide +kernel
theorem dX9_isGreatest_79 : decode cX9_isGreatest 79 = .ok (.getfield 107, 3) := by decide +kernel
theorem dX9_isGreatest_82 : decode cX9_isGreatest 82 = .ok (.iload 4, 2) := by decide +kernel
theorem dX9_isGreatest_84 : decode cX9_isGreatest 84 = .ok (.iaload, 1) := by decide +kernel
theorem dX9_isGreatest_85 : decode cX9_isGreatest 85 = .ok (.aload_n 0, 1) := by decide +kernel
theorem dX9_isGreatest_86 : decode cX9_isGreatest 86 = .ok (.getfield 107, 3) := by decide +kernel
theorem dX9_isGreatest_89 : decode cX9_isGreatest 89 = .ok (.iload_n 2, 1) := by decide +kernel
theorem dX9_isGreatest_90 : decode cX9_isGreatest 90 = .ok (.iaload, 1) := by decide +kernel
theorem dX9_isGreatest_91 : decode cX9_isGreatest 91 = .ok (.if_icmp .lt 25, 3) := by decide +kernel
theorem dX9_isGreatest_94 : decode cX9_isGreatest 94 = .ok (.aload_n 0, 1) := by decide +kernel
theorem dX9_isGreatest_95 : decode cX9_isGreatest 95 = .ok (.getfield 107, 3) := by decide +kernel
theorem dX9_isGreatest_98 : decode cX9_isGreatest 98 = .ok (.iload 4, 2) := by decide +kernel
theorem dX9_isGreatest_100 : decode cX9_isGreatest 100 = .ok (.iaload, 1) := by decide +kernel
theorem dX9_isGreatest_101 : decode cX9_isGreatest 101 = .ok (.aload_n 0, 1) := by decide +kernel
theorem dX9_isGreatest_102 : decode cX9_isGreatest 102 = .ok (.getfield 107, 3) := by decide +kernel
theorem dX9_isGreatest_105 : decode cX9_isGreatest 105 = .ok (.iload_n 2, 1) := by decide +kernel
theorem dX9_isGreatest_106 : decode cX9_isGreatest 106 = .ok (.iaload, 1) := by decide +kernel
theorem dX9_isGreatest_107 : decode cX9_isGreatest 107 = .ok (.if_icmp .ne 13, 3) := by decide +kernel
theorem dX9_isGreatest_110 : decode cX9_isGreatest 110 = .ok (.iload 4, 2) := by decide +kernel
theorem dX9_isGreatest_112 : decode cX9_isGreatest 112 = .ok (.iload_n 2, 1) := by decide +kernel
theorem dX9_isGreatest_113 : decode cX9_isGreatest 113 = .ok (.if_icmp .le 7, 3) := by decide +kernel
theorem dX9_isGreatest_116 : decode cX9_isGreatest 116 = .ok (.iconst 1, 1) := by decide +kernel
theorem dX9_isGreatest_117 : decode cX9_isGreatest 117 = .ok (.goto 4, 3) := by decide +kernel
theorem dX9_isGreatest_120 : decode cX9_isGreatest 120 = .ok (.iconst 0, 1) := by decide +kernel
theorem dX9_isGreatest_121 : decode cX9_isGreatest 121 = .ok (.istore_n 3, 1) := by decide +kernel
theorem dX9_isGreatest_122 : decode cX9_isGreatest 122 = .ok (.iinc 4 1, 3) := by decide +kernel
theorem dX9_isGreatest_125 : decode cX9_isGreatest 125 = .ok (.goto (-117), 3) := by decide +kernel
theorem dX9_isGreatest_128 : decode cX9_isGreatest 128 = .ok (.iload_n 3, 1) := by decide +kernel
theorem dX9_isGreatest_129 : decode cX9_isGreatest 129 = .ok (.ireturn, 1) := by decide +kernel
theorem dX9_riskOf_0 : decode cX9_riskOf 0 = .ok (.iconst 0, 1) := by decide +kernel
theorem dX9_riskOf_1 : decode cX9_riskOf 1 = .ok (.istore_n 2, 1) := by decide +kernel
theorem dX9_riskOf_2 : decode cX9_riskOf 2 = .ok (.bipush 30, 2) := by decide +kernel
theorem dX9_riskOf_4 : decode cX9_riskOf 4 = .ok (.iload_n 1, 1) := by decide +kernel
theorem dX9_riskOf_5 : decode cX9_riskOf 5 = .ok (.imul, 1) := by decide +kernel
theorem dX9_riskOf_6 : decode cX9_riskOf 6 = .ok (.istore_n 3, 1) := by decide +kernel
theorem dX9_riskOf_7 : decode cX9_riskOf 7 = .ok (.iload_n 3, 1) := by decide +kernel
theorem dX9_riskOf_8 : decode cX9_riskOf 8 = .ok (.bipush 30, 2) := by decide +kernel
theorem dX9_riskOf_10 : decode cX9_riskOf 10 = .ok (.iload_n 1, 1) := by decide +kernel
theorem dX9_riskOf_11 : decode cX9_riskOf 11 = .ok (.imul, 1) := by decide +kernel
theorem dX9_riskOf_12 : decode cX9_riskOf 12 = .ok (.aload_n 0, 1) := by decide +kernel
theorem dX9_riskOf_13 : decode cX9_riskOf 13 = .ok (.getfield 101, 3) := by decide +kernel
theorem dX9_riskOf_16 : decode cX9_riskOf 16 = .ok (.iload_n 1, 1) := by decide +kernel
theorem dX9_riskOf_17 : decode cX9_riskOf 17 = .ok (.iaload, 1) := by decide +kernel
theorem dX9_riskOf_18 : decode cX9_riskOf 18 = .ok (.iadd, 1) := by decide +kernel
theorem dX9_riskOf_19 : decode cX9_riskOf 19 = .ok (.if_icmp .ge 39, 3) := by decide +kernel
theorem dX9_riskOf_22 : decode cX9_riskOf 22 = .ok (.iload_n 2, 1) := by decide +kernel
theorem dX9_riskOf_23 : decode cX9_riskOf 23 = .ok (.aload_n 0, 1) := by decide +kernel
theorem dX9_riskOf_24 : decode cX9_riskOf 24 = .ok (.iload_n 3, 1) := by decide +kernel
theorem dX9_riskOf_25 : decode cX9_riskOf 25 = .ok (.invokevirtual 201, 3) := by decide +kernel
theorem dX9_riskOf_28 : decode cX9_riskOf 28 = .ok (.ifCond .eq 21, 3) := by decide +kernel
theorem dX9_riskOf_31 : decode cX9_riskOf 31 = .ok (.aload_n 0, 1) := by decide +kernel
theorem dX9_riskOf_32 : decode cX9_riskOf 32 = .ok (.iload_n 1, 1) := by decide +kernel
theorem dX9_riskOf_33 : decode cX9_riskOf 33 = .ok (.iload_n 3, 1) := by decide +kernel
theorem dX9_riskOf_34 : decode cX9_riskOf 34 = .ok (.invokevirtual 204, 3) := by decide +kernel
theorem dX9_riskOf_37 : decode cX9_riskOf 37 = .ok (.ifCond .eq 12, 3) := by decide +kernel
theorem dX9_riskOf_40 : decode cX9_riskOf 40 = .ok (.aload_n 0, 1) := by decide +kernel
theorem dX9_riskOf_41 : decode cX9_riskOf 41 = .ok (.getfield 107, 3) := by decide +kernel
theorem dX9_riskOf_44 : decode cX9_riskOf 44 = .ok (.iload_n 3, 1) := by decide +kernel
theorem dX9_riskOf_45 : decode cX9_riskOf 45 = .ok (.iaload, 1) := by decide +kernel
theorem dX9_riskOf_46 : decode cX9_riskOf 46 = .ok (.goto 4, 3) := by decide +kernel
theorem dX9_riskOf_49 : decode cX9_riskOf 49 = .ok (.iconst 0, 1) := by decide +kernel
theorem dX9_riskOf_50 : decode cX9_riskOf 50 = .ok (.iadd, 1) := by decide +kernel
theorem dX9_riskOf_51 : decode cX9_riskOf 51 = .ok (.istore_n 2, 1) := by decide +kernel
theorem dX9_riskOf_52 : decode cX9_riskOf 52 = .ok (.iinc 3 1, 3) := by decide +kernel
theorem dX9_riskOf_55 : decode cX9_riskOf 55 = .ok (.goto (-48), 3) := by decide +kernel
theorem dX9_riskOf_58 : decode cX9_riskOf 58 = .ok (.iload_n 2, 1) := by decide +kernel
theorem dX9_riskOf_59 : decode cX9_riskOf 59 = .ok (.ireturn, 1) := by decide +kernel
theorem dX9_report_0 : decode cX9_report 0 = .ok (.aload_n 0, 1) := by decide +kernel
theorem dX9_report_1 : decode cX9_report 1 = .ok (.iload_n 1, 1) := by decide +kernel
theorem dX9_report_2 : decode cX9_report 2 = .ok (.invokevirtual 208, 3) := by decide +kernel
theorem dX9_report_5 : decode cX9_report 5 = .ok (.istore 4, 2) := by decide +kernel
theorem dX9_report_7 : decode cX9_report 7 = .ok (.aload_n 0, 1) := by decide +kernel
theorem dX9_report_8 : decode cX9_report 8 = .ok (.iload 4, 2) := by decide +kernel
theorem dX9_report_10 : decode cX9_report 10 = .ok (.iload_n 2, 1) := by decide +kernel
theorem dX9_report_11 : decode cX9_report 11 = .ok (.iconst 0, 1) := by decide +kernel
theorem dX9_report_12 : decode cX9_report 12 = .ok (.bipush 9, 2) := by decide +kernel
theorem dX9_report_14 : decode cX9_report 14 = .ok (.invokestatic 165, 3) := by decide +kernel
theorem dX9_report_17 : decode cX9_report 17 = .ok (.ifCond .eq 17, 3) := by decide +kernel
theorem dX9_report_20 : decode cX9_report 20 = .ok (.iload_n 3, 1) := by decide +kernel
theorem dX9_report_21 : decode cX9_report 21 = .ok (.iconst 1, 1) := by decide +kernel
theorem dX9_report_22 : decode cX9_report 22 = .ok (.bipush 9, 2) := by decide +kernel
theorem dX9_report_24 : decode cX9_report 24 = .ok (.invokestatic 165, 3) := by decide +kernel
theorem dX9_report_27 : decode cX9_report 27 = .ok (.ifCond .eq 7, 3) := by decide +kernel
theorem dX9_report_30 : decode cX9_report 30 = .ok (.iconst 1, 1) := by decide +kernel
theorem dX9_report_31 : decode cX9_report 31 = .ok (.goto 4, 3) := by decide +kernel
theorem dX9_report_34 : decode cX9_report 34 = .ok (.iconst 0, 1) := by decide +kernel
theorem dX9_report_35 : decode cX9_report 35 = .ok (.iload 4, 2) := by decide +kernel
theorem dX9_report_37 : decode cX9_report 37 = .ok (.ifCond .eq 27, 3) := by decide +kernel
theorem dX9_report_40 : decode cX9_report 40 = .ok (.aload_n 0, 1) := by decide +kernel
theorem dX9_report_41 : decode cX9_report 41 = .ok (.getfield 101, 3) := by decide +kernel
theorem dX9_report_44 : decode cX9_report 44 = .ok (.iload 4, 2) := by decide +kernel
theorem dX9_report_46 : decode cX9_report 46 = .ok (.ifCond .eq 7, 3) := by decide +kernel
theorem dX9_report_49 : decode cX9_report 49 = .ok (.iload_n 1, 1) := by decide +kernel
theorem dX9_report_50 : decode cX9_report 50 = .ok (.goto 4, 3) := by decide +kernel
theorem dX9_report_53 : decode cX9_report 53 = .ok (.iconst 0, 1) := by decide +kernel
theorem dX9_report_54 : decode cX9_report 54 = .ok (.iaload, 1) := by decide +kernel
theorem dX9_report_55 : decode cX9_report 55 = .ok (.bipush 30, 2) := by decide +kernel
theorem dX9_report_57 : decode cX9_report 57 = .ok (.if_icmp .ge 7, 3) := by decide +kernel
theorem dX9_report_60 : decode cX9_report 60 = .ok (.iconst 1, 1) := by decide +kernel
theorem dX9_report_61 : decode cX9_report 61 = .ok (.goto 4, 3) := by decide +kernel
theorem dX9_report_64 : decode cX9_report 64 = .ok (.iconst 0, 1) := by decide +kernel
theorem dX9_report_65 : decode cX9_report 65 = .ok (.invokevirtual 179, 3) := by decide +kernel
theorem dX9_report_68 : decode cX9_report 68 = .ok (.ifCond .ne 5, 3) := by decide +kernel
theorem dX9_report_71 : decode cX9_report 71 = .ok (.iconst 0, 1) := by decide +kernel
theorem dX9_report_72 : decode cX9_report 72 = .ok (.ireturn, 1) := by decide +kernel
theorem dX9_report_73 : decode cX9_report 73 = .ok (.bipush 30, 2) := by decide +kernel
theorem dX9_report_75 : decode cX9_report 75 = .ok (.iload_n 1, 1) := by decide +kernel
theorem dX9_report_76 : decode cX9_report 76 = .ok (.imul, 1) := by decide +kernel
theorem dX9_report_77 : decode cX9_report 77 = .ok (.aload_n 0, 1) := by decide +kernel
theorem dX9_report_78 : decode cX9_report 78 = .ok (.getfield 101, 3) := by decide +kernel
theorem dX9_report_81 : decode cX9_report 81 = .ok (.iload_n 1, 1) := by decide +kernel
theorem dX9_report_82 : decode cX9_report 82 = .ok (.iaload, 1) := by decide +kernel
theorem dX9_report_83 : decode cX9_report 83 = .ok (.iadd, 1) := by decide +kernel
theorem dX9_report_84 : decode cX9_report 84 = .ok (.istore 5, 2) := by decide +kernel
theorem dX9_report_86 : decode cX9_report 86 = .ok (.aload_n 0, 1) := by decide +kernel
theorem dX9_report_87 : decode cX9_report 87 = .ok (.getfield 104, 3) := by decide +kernel
theorem dX9_report_90 : decode cX9_report 90 = .ok (.iload 5, 2) := by decide +kernel
theorem dX9_report_92 : decode cX9_report 92 = .ok (.iload_n 2, 1) := by decide +kernel
theorem dX9_report_93 : decode cX9_report 93 = .ok (.iastore, 1) := by decide +kernel
theorem dX9_report_94 : decode cX9_report 94 = .ok (.aload_n 0, 1) := by decide +kernel
theorem dX9_report_95 : decode cX9_report 95 = .ok (.getfield 107, 3) := by decide +kernel
theorem dX9_report_98 : decode cX9_report 98 = .ok (.iload 5, 2) := by decide +kernel
theorem dX9_report_100 : decode cX9_report 100 = .ok (.iload_n 3, 1) := by decide +kernel
theorem dX9_report_101 : decode cX9_report 101 = .ok (.iastore, 1) := by decide +kernel
theorem dX9_report_102 : decode cX9_report 102 = .ok (.aload_n 0, 1) := by decide +kernel
theorem dX9_report_103 : decode cX9_report 103 = .ok (.getfield 110, 3) := by decide +kernel
theorem dX9_report_106 : decode cX9_report 106 = .ok (.iload 5, 2) := by decide +kernel
theorem dX9_report_108 : decode cX9_report 108 = .ok (.aload_n 0, 1) := by decide +kernel
theorem dX9_report_109 : decode cX9_report 109 = .ok (.getfield 187, 3) := by decide +kernel
theorem dX9_report_112 : decode cX9_report 112 = .ok (.iastore, 1) := by decide +kernel
theorem dX9_report_113 : decode cX9_report 113 = .ok (.aload_n 0, 1) := by decide +kernel
theorem dX9_report_114 : decode cX9_report 114 = .ok (.getfield 101, 3) := by decide +kernel
theorem dX9_report_117 : decode cX9_report 117 = .ok (.iload_n 1, 1) := by decide +kernel
theorem dX9_report_118 : decode cX9_report 118 = .ok (.dup2, 1) := by decide +kernel
theorem dX9_report_119 : decode cX9_report 119 = .ok (.iaload, 1) := by decide +kernel
theorem dX9_report_120 : decode cX9_report 120 = .ok (.iconst 1, 1) := by decide +kernel
theorem dX9_report_121 : decode cX9_report 121 = .ok (.iadd, 1) := by decide +kernel
theorem dX9_report_122 : decode cX9_report 122 = .ok (.iastore, 1) := by decide +kernel
theorem dX9_report_123 : decode cX9_report 123 = .ok (.aload_n 0, 1) := by decide +kernel
theorem dX9_report_124 : decode cX9_report 124 = .ok (.iload_n 1, 1) := by decide +kernel
theorem dX9_report_125 : decode cX9_report 125 = .ok (.invokevirtual 211, 3) := by decide +kernel
theorem dX9_report_128 : decode cX9_report 128 = .ok (.ireturn, 1) := by decide +kernel
theorem dX9_seenBy_0 : decode cX9_seenBy 0 = .ok (.aload_n 0, 1) := by decide +kernel
theorem dX9_seenBy_1 : decode cX9_seenBy 1 = .ok (.iload_n 1, 1) := by decide +kernel
theorem dX9_seenBy_2 : decode cX9_seenBy 2 = .ok (.invokevirtual 211, 3) := by decide +kernel
theorem dX9_seenBy_5 : decode cX9_seenBy 5 = .ok (.istore_n 2, 1) := by decide +kernel
theorem dX9_seenBy_6 : decode cX9_seenBy 6 = .ok (.iconst (-1), 1) := by decide +kernel
theorem dX9_seenBy_7 : decode cX9_seenBy 7 = .ok (.istore_n 3, 1) := by decide +kernel
theorem dX9_seenBy_8 : decode cX9_seenBy 8 = .ok (.bipush 30, 2) := by decide +kernel
theorem dX9_seenBy_10 : decode cX9_seenBy 10 = .ok (.iload_n 1, 1) := by decide +kernel
theorem dX9_seenBy_11 : decode cX9_seenBy 11 = .ok (.imul, 1) := by decide +kernel
theorem dX9_seenBy_12 : decode cX9_seenBy 12 = .ok (.aload_n 0, 1) := by decide +kernel
theorem dX9_seenBy_13 : decode cX9_seenBy 13 = .ok (.getfield 101, 3) := by decide +kernel
theorem dX9_seenBy_16 : decode cX9_seenBy 16 = .ok (.iload_n 1, 1) := by decide +kernel
theorem dX9_seenBy_17 : decode cX9_seenBy 17 = .ok (.iaload, 1) := by decide +kernel
theorem dX9_seenBy_18 : decode cX9_seenBy 18 = .ok (.iadd, 1) := by decide +kernel
theorem dX9_seenBy_19 : decode cX9_seenBy 19 = .ok (.iconst 1, 1) := by decide +kernel
theorem dX9_seenBy_20 : decode cX9_seenBy 20 = .ok (.isub, 1) := by decide +kernel
theorem dX9_seenBy_21 : decode cX9_seenBy 21 = .ok (.istore 4, 2) := by decide +kernel
theorem dX9_seenBy_23 : decode cX9_seenBy 23 = .ok (.iload 4, 2) := by decide +kernel
theorem dX9_seenBy_25 : decode cX9_seenBy 25 = .ok (.bipush 30, 2) := by decide +kernel
theorem dX9_seenBy_27 : decode cX9_seenBy 27 = .ok (.iload_n 1, 1) := by decide +kernel
theorem dX9_seenBy_28 : decode cX9_seenBy 28 = .ok (.imul, 1) := by decide +kernel
theorem dX9_seenBy_29 : decode cX9_seenBy 29 = .ok (.if_icmp .lt 46, 3) := by decide +kernel
theorem dX9_seenBy_32 : decode cX9_seenBy 32 = .ok (.aload_n 0, 1) := by decide +kernel
theorem dX9_seenBy_33 : decode cX9_seenBy 33 = .ok (.iload 4, 2) := by decide +kernel
theorem dX9_seenBy_35 : decode cX9_seenBy 35 = .ok (.invokevirtual 201, 3) := by decide +kernel
theorem dX9_seenBy_38 : decode cX9_seenBy 38 = .ok (.ifCond .eq 29, 3) := by decide +kernel
theorem dX9_seenBy_41 : decode cX9_seenBy 41 = .ok (.aload_n 0, 1) := by decide +kernel
theorem dX9_seenBy_42 : decode cX9_seenBy 42 = .ok (.getfield 110, 3) := by decide +kernel
theorem dX9_seenBy_45 : decode cX9_seenBy 45 = .ok (.iload 4, 2) := by decide +kernel
theorem dX9_seenBy_47 : decode cX9_seenBy 47 = .ok (.iaload, 1) := by decide +kernel
theorem dX9_seenBy_48 : decode cX9_seenBy 48 = .ok (.aload_n 0, 1) := by decide +kernel
theorem dX9_seenBy_49 : decode cX9_seenBy 49 = .ok (.getfield 31, 3) := by decide +kernel
theorem dX9_seenBy_52 : decode cX9_seenBy 52 = .ok (.iload_n 1, 1) := by decide +kernel
theorem dX9_seenBy_53 : decode cX9_seenBy 53 = .ok (.iaload, 1) := by decide +kernel
theorem dX9_seenBy_54 : decode cX9_seenBy 54 = .ok (.if_icmp .le 13, 3) := by decide +kernel
theorem dX9_seenBy_57 : decode cX9_seenBy 57 = .ok (.aload_n 0, 1) := by decide +kernel
theorem dX9_seenBy_58 : decode cX9_seenBy 58 = .ok (.getfield 110, 3) := by decide +kernel
theorem dX9_seenBy_61 : decode cX9_seenBy 61 = .ok (.iload 4, 2) := by decide +kernel
theorem dX9_seenBy_63 : decode cX9_seenBy 63 = .ok (.iaload, 1) := by decide +kernel
theorem dX9_seenBy_64 : decode cX9_seenBy 64 = .ok (.goto 4, 3) := by decide +kernel
theorem dX9_seenBy_67 : decode cX9_seenBy 67 = .ok (.iload_n 3, 1) := by decide +kernel
theorem dX9_seenBy_68 : decode cX9_seenBy 68 = .ok (.istore_n 3, 1) := by decide +kernel
theorem dX9_seenBy_69 : decode cX9_seenBy 69 = .ok (.iinc 4 (-1), 3) := by decide +kernel
theorem dX9_seenBy_72 : decode cX9_seenBy 72 = .ok (.goto (-49), 3) := by decide +kernel
theorem dX9_seenBy_75 : decode cX9_seenBy 75 = .ok (.iload_n 3, 1) := by decide +kernel
theorem dX9_seenBy_76 : decode cX9_seenBy 76 = .ok (.iconst (-1), 1) := by decide +kernel
theorem dX9_seenBy_77 : decode cX9_seenBy 77 = .ok (.if_icmp .ne 7, 3) := by decide +kernel
theorem dX9_seenBy_80 : decode cX9_seenBy 80 = .ok (.iconst (-1), 1) := by decide +kernel
theorem dX9_seenBy_81 : decode cX9_seenBy 81 = .ok (.goto 27, 3) := by decide +kernel
theorem dX9_seenBy_84 : decode cX9_seenBy 84 = .ok (.iload_n 3, 1) := by decide +kernel
theorem dX9_seenBy_85 : decode cX9_seenBy 85 = .ok (.iload_n 2, 1) := by decide +kernel
theorem dX9_seenBy_86 : decode cX9_seenBy 86 = .ok (.bipush 12, 2) := by decide +kernel
theorem dX9_seenBy_88 : decode cX9_seenBy 88 = .ok (.if_icmp .lt 7, 3) := by decide +kernel
theorem dX9_seenBy_91 : decode cX9_seenBy 91 = .ok (.iconst 1, 1) := by decide +kernel
theorem dX9_seenBy_92 : decode cX9_seenBy 92 = .ok (.goto 15, 3) := by decide +kernel
theorem dX9_seenBy_95 : decode cX9_seenBy 95 = .ok (.iload_n 2, 1) := by decide +kernel
theorem dX9_seenBy_96 : decode cX9_seenBy 96 = .ok (.bipush 6, 2) := by decide +kernel
theorem dX9_seenBy_98 : decode cX9_seenBy 98 = .ok (.if_icmp .lt 7, 3) := by decide +kernel
theorem dX9_seenBy_101 : decode cX9_seenBy 101 = .ok (.iconst 5, 1) := by decide +kernel
theorem dX9_seenBy_102 : decode cX9_seenBy 102 = .ok (.goto 5, 3) := by decide +kernel
theorem dX9_seenBy_105 : decode cX9_seenBy 105 = .ok (.bipush 20, 2) := by decide +kernel
theorem dX9_seenBy_107 : decode cX9_seenBy 107 = .ok (.iadd, 1) := by decide +kernel
theorem dX9_seenBy_108 : decode cX9_seenBy 108 = .ok (.ireturn, 1) := by decide +kernel
theorem dX9_see_0 : decode cX9_see 0 = .ok (.aload_n 0, 1) := by decide +kernel
theorem dX9_see_1 : decode cX9_see 1 = .ok (.aload_n 0, 1) := by decide +kernel
theorem dX9_see_2 : decode cX9_see 2 = .ok (.iload_n 1, 1) := by decide +kernel
theorem dX9_see_3 : decode cX9_see 3 = .ok (.invokevirtual 208, 3) := by decide +kernel
theorem dX9_see_6 : decode cX9_see 6 = .ok (.iconst 1, 1) := by decide +kernel
theorem dX9_see_7 : decode cX9_see 7 = .ok (.iconst 1, 1) := by decide +kernel
theorem dX9_see_8 : decode cX9_see 8 = .ok (.invokevirtual 179, 3) := by decide +kernel
theorem dX9_see_11 : decode cX9_see 11 = .ok (.ifCond .ne 5, 3) := by decide +kernel
theorem dX9_see_14 : decode cX9_see 14 = .ok (.iconst 0, 1) := by decide +kernel
theorem dX9_see_15 : decode cX9_see 15 = .ok (.ireturn, 1) := by decide +kernel
theorem dX9_see_16 : decode cX9_see 16 = .ok (.aload_n 0, 1) := by decide +kernel
theorem dX9_see_17 : decode cX9_see 17 = .ok (.iload_n 1, 1) := by decide +kernel
theorem dX9_see_18 : decode cX9_see 18 = .ok (.invokevirtual 214, 3) := by decide +kernel
theorem dX9_see_21 : decode cX9_see 21 = .ok (.iconst (-1), 1) := by decide +kernel
theorem dX9_see_22 : decode cX9_see 22 = .ok (.if_icmp .eq 19, 3) := by decide +kernel
theorem dX9_see_25 : decode cX9_see 25 = .ok (.aload_n 0, 1) := by decide +kernel
theorem dX9_see_26 : decode cX9_see 26 = .ok (.getfield 187, 3) := by decide +kernel
theorem dX9_see_29 : decode cX9_see 29 = .ok (.aload_n 0, 1) := by decide +kernel
theorem dX9_see_30 : decode cX9_see 30 = .ok (.iload_n 1, 1) := by decide +kernel
theorem dX9_see_31 : decode cX9_see 31 = .ok (.invokevirtual 214, 3) := by decide +kernel
theorem dX9_see_34 : decode cX9_see 34 = .ok (.if_icmp .le 7, 3) := by decide +kernel
theorem dX9_see_37 : decode cX9_see 37 = .ok (.iconst 1, 1) := by decide +kernel
theorem dX9_see_38 : decode cX9_see 38 = .ok (.goto 4, 3) := by decide +kernel
theorem dX9_see_41 : decode cX9_see 41 = .ok (.iconst 0, 1) := by decide +kernel
theorem dX9_see_42 : decode cX9_see 42 = .ok (.istore_n 2, 1) := by decide +kernel
theorem dX9_see_43 : decode cX9_see 43 = .ok (.aload_n 0, 1) := by decide +kernel
theorem dX9_see_44 : decode cX9_see 44 = .ok (.getfield 31, 3) := by decide +kernel
theorem dX9_see_47 : decode cX9_see 47 = .ok (.iload_n 1, 1) := by decide +kernel
theorem dX9_see_48 : decode cX9_see 48 = .ok (.aload_n 0, 1) := by decide +kernel
theorem dX9_see_49 : decode cX9_see 49 = .ok (.getfield 187, 3) := by decide +kernel
theorem dX9_see_52 : decode cX9_see 52 = .ok (.iastore, 1) := by decide +kernel
theorem dX9_see_53 : decode cX9_see 53 = .ok (.iload_n 2, 1) := by decide +kernel
theorem dX9_see_54 : decode cX9_see 54 = .ok (.ireturn, 1) := by decide +kernel
theorem dX9_risk_0 : decode cX9_risk 0 = .ok (.aload_n 0, 1) := by decide +kernel
theorem dX9_risk_1 : decode cX9_risk 1 = .ok (.aload_n 0, 1) := by decide +kernel
theorem dX9_risk_2 : decode cX9_risk 2 = .ok (.iload_n 1, 1) := by decide +kernel
theorem dX9_risk_3 : decode cX9_risk 3 = .ok (.invokevirtual 208, 3) := by decide +kernel
theorem dX9_risk_6 : decode cX9_risk 6 = .ok (.iconst 1, 1) := by decide +kernel
theorem dX9_risk_7 : decode cX9_risk 7 = .ok (.iconst 1, 1) := by decide +kernel
theorem dX9_risk_8 : decode cX9_risk 8 = .ok (.invokevirtual 179, 3) := by decide +kernel
theorem dX9_risk_11 : decode cX9_risk 11 = .ok (.ifCond .eq 11, 3) := by decide +kernel
theorem dX9_risk_14 : decode cX9_risk 14 = .ok (.aload_n 0, 1) := by decide +kernel
theorem dX9_risk_15 : decode cX9_risk 15 = .ok (.iload_n 1, 1) := by decide +kernel
theorem dX9_risk_16 : decode cX9_risk 16 = .ok (.invokevirtual 211, 3) := by decide +kernel
theorem dX9_risk_19 : decode cX9_risk 19 = .ok (.goto 4, 3) := by decide +kernel
theorem dX9_risk_22 : decode cX9_risk 22 = .ok (.iconst 0, 1) := by decide +kernel
theorem dX9_risk_23 : decode cX9_risk 23 = .ok (.ireturn, 1) := by decide +kernel
theorem dX9_seeBy_0 : decode cX9_seeBy 0 = .ok (.aload_n 0, 1) := by decide +kernel
theorem dX9_seeBy_1 : decode cX9_seeBy 1 = .ok (.aload_n 0, 1) := by decide +kernel
theorem dX9_seeBy_2 : decode cX9_seeBy 2 = .ok (.iload_n 1, 1) := by decide +kernel
theorem dX9_seeBy_3 : decode cX9_seeBy 3 = .ok (.invokevirtual 208, 3) := by decide +kernel
theorem dX9_seeBy_6 : decode cX9_seeBy 6 = .ok (.iconst 1, 1) := by decide +kernel
theorem dX9_seeBy_7 : decode cX9_seeBy 7 = .ok (.iconst 1, 1) := by decide +kernel
theorem dX9_seeBy_8 : decode cX9_seeBy 8 = .ok (.invokevirtual 179, 3) := by decide +kernel
theorem dX9_seeBy_11 : decode cX9_seeBy 11 = .ok (.ifCond .eq 11, 3) := by decide +kernel
theorem dX9_seeBy_14 : decode cX9_seeBy 14 = .ok (.aload_n 0, 1) := by decide +kernel
theorem dX9_seeBy_15 : decode cX9_seeBy 15 = .ok (.iload_n 1, 1) := by decide +kernel
theorem dX9_seeBy_16 : decode cX9_seeBy 16 = .ok (.invokevirtual 214, 3) := by decide +kernel
theorem dX9_seeBy_19 : decode cX9_seeBy 19 = .ok (.goto 4, 3) := by decide +kernel
theorem dX9_seeBy_22 : decode cX9_seeBy 22 = .ok (.iconst 0, 1) := by decide +kernel
theorem dX9_seeBy_23 : decode cX9_seeBy 23 = .ok (.ireturn, 1) := by decide +kernel
theorem dX9_order_0 : decode cX9_order 0 = .ok (.aload_n 0, 1) := by decide +kernel
theorem dX9_order_1 : decode cX9_order 1 = .ok (.aload_n 0, 1) := by decide +kernel
theorem dX9_order_2 : decode cX9_order 2 = .ok (.iload_n 1, 1) := by decide +kernel
theorem dX9_order_3 : decode cX9_order 3 = .ok (.invokevirtual 208, 3) := by decide +kernel
theorem dX9_order_6 : decode cX9_order 6 = .ok (.iload_n 2, 1) := by decide +kernel
theorem dX9_order_7 : decode cX9_order 7 = .ok (.iconst 0, 1) := by decide +kernel
theorem dX9_order_8 : decode cX9_order 8 = .ok (.iconst 2, 1) := by decide +kernel
theorem dX9_order_9 : decode cX9_order 9 = .ok (.invokestatic 165, 3) := by decide +kernel
theorem dX9_order_12 : decode cX9_order 12 = .ok (.ifCond .eq 33, 3) := by decide +kernel
theorem dX9_order_15 : decode cX9_order 15 = .ok (.iload_n 3, 1) := by decide +kernel
theorem dX9_order_16 : decode cX9_order 16 = .ok (.aload_n 0, 1) := by decide +kernel
theorem dX9_order_17 : decode cX9_order 17 = .ok (.getfield 187, 3) := by decide +kernel
theorem dX9_order_20 : decode cX9_order 20 = .ok (.sipush 20000, 3) := by decide +kernel
theorem dX9_order_23 : decode cX9_order 23 = .ok (.invokestatic 165, 3) := by decide +kernel
theorem dX9_order_26 : decode cX9_order 26 = .ok (.ifCond .eq 19, 3) := by decide +kernel
theorem dX9_order_29 : decode cX9_order 29 = .ok (.iload 4, 2) := by decide +kernel
theorem dX9_order_31 : decode cX9_order 31 = .ok (.iconst 1, 1) := by decide +kernel
theorem dX9_order_32 : decode cX9_order 32 = .ok (.sipush 7000, 3) := by decide +kernel
theorem dX9_order_35 : decode cX9_order 35 = .ok (.invokestatic 165, 3) := by decide +kernel
theorem dX9_order_38 : decode cX9_order 38 = .ok (.ifCond .eq 7, 3) := by decide +kernel
theorem dX9_order_41 : decode cX9_order 41 = .ok (.iconst 1, 1) := by decide +kernel
theorem dX9_order_42 : decode cX9_order 42 = .ok (.goto 4, 3) := by decide +kernel
theorem dX9_order_45 : decode cX9_order 45 = .ok (.iconst 0, 1) := by decide +kernel
theorem dX9_order_46 : decode cX9_order 46 = .ok (.aload_n 0, 1) := by decide +kernel
theorem dX9_order_47 : decode cX9_order 47 = .ok (.getfield 217, 3) := by decide +kernel
theorem dX9_order_50 : decode cX9_order 50 = .ok (.bipush 60, 2) := by decide +kernel
theorem dX9_order_52 : decode cX9_order 52 = .ok (.if_icmp .ge 7, 3) := by decide +kernel
theorem dX9_order_55 : decode cX9_order 55 = .ok (.iconst 1, 1) := by decide +kernel
theorem dX9_order_56 : decode cX9_order 56 = .ok (.goto 4, 3) := by decide +kernel
theorem dX9_order_59 : decode cX9_order 59 = .ok (.iconst 0, 1) := by decide +kernel
theorem dX9_order_60 : decode cX9_order 60 = .ok (.invokevirtual 179, 3) := by decide +kernel
theorem dX9_order_63 : decode cX9_order 63 = .ok (.ifCond .ne 5, 3) := by decide +kernel
theorem dX9_order_66 : decode cX9_order 66 = .ok (.iconst 0, 1) := by decide +kernel
theorem dX9_order_67 : decode cX9_order 67 = .ok (.ireturn, 1) := by decide +kernel
theorem dX9_order_68 : decode cX9_order 68 = .ok (.aload_n 0, 1) := by decide +kernel
theorem dX9_order_69 : decode cX9_order 69 = .ok (.getfield 113, 3) := by decide +kernel
theorem dX9_order_72 : decode cX9_order 72 = .ok (.aload_n 0, 1) := by decide +kernel
theorem dX9_order_73 : decode cX9_order 73 = .ok (.getfield 217, 3) := by decide +kernel
theorem dX9_order_76 : decode cX9_order 76 = .ok (.iload_n 1, 1) := by decide +kernel
theorem dX9_order_77 : decode cX9_order 77 = .ok (.iastore, 1) := by decide +kernel
theorem dX9_order_78 : decode cX9_order 78 = .ok (.aload_n 0, 1) := by decide +kernel
theorem dX9_order_79 : decode cX9_order 79 = .ok (.getfield 116, 3) := by decide +kernel
theorem dX9_order_82 : decode cX9_order 82 = .ok (.aload_n 0, 1) := by decide +kernel
theorem dX9_order_83 : decode cX9_order 83 = .ok (.getfield 217, 3) := by decide +kernel
theorem dX9_order_86 : decode cX9_order 86 = .ok (.iload_n 2, 1) := by decide +kernel
theorem dX9_order_87 : decode cX9_order 87 = .ok (.iastore, 1) := by decide +kernel
theorem dX9_order_88 : decode cX9_order 88 = .ok (.aload_n 0, 1) := by decide +kernel
theorem dX9_order_89 : decode cX9_order 89 = .ok (.getfield 119, 3) := by decide +kernel
theorem dX9_order_92 : decode cX9_order 92 = .ok (.aload_n 0, 1) := by decide +kernel
theorem dX9_order_93 : decode cX9_order 93 = .ok (.getfield 217, 3) := by decide +kernel
theorem dX9_order_96 : decode cX9_order 96 = .ok (.iload_n 3, 1) := by decide +kernel
theorem dX9_order_97 : decode cX9_order 97 = .ok (.iastore, 1) := by decide +kernel
theorem dX9_order_98 : decode cX9_order 98 = .ok (.aload_n 0, 1) := by decide +kernel
theorem dX9_order_99 : decode cX9_order 99 = .ok (.getfield 122, 3) := by decide +kernel
theorem dX9_order_102 : decode cX9_order 102 = .ok (.aload_n 0, 1) := by decide +kernel
theorem dX9_order_103 : decode cX9_order 103 = .ok (.getfield 217, 3) := by decide +kernel
theorem dX9_order_106 : decode cX9_order 106 = .ok (.iload_n 3, 1) := by decide +kernel
theorem dX9_order_107 : decode cX9_order 107 = .ok (.iload 4, 2) := by decide +kernel
theorem dX9_order_109 : decode cX9_order 109 = .ok (.iadd, 1) := by decide +kernel
theorem dX9_order_110 : decode cX9_order 110 = .ok (.iconst 1, 1) := by decide +kernel
theorem dX9_order_111 : decode cX9_order 111 = .ok (.isub, 1) := by decide +kernel
theorem dX9_order_112 : decode cX9_order 112 = .ok (.iastore, 1) := by decide +kernel
theorem dX9_order_113 : decode cX9_order 113 = .ok (.aload_n 0, 1) := by decide +kernel
theorem dX9_order_114 : decode cX9_order 114 = .ok (.dup, 1) := by decide +kernel
theorem dX9_order_115 : decode cX9_order 115 = .ok (.getfield 217, 3) := by decide +kernel
theorem dX9_order_118 : decode cX9_order 118 = .ok (.iconst 1, 1) := by decide +kernel
theorem dX9_order_119 : decode cX9_order 119 = .ok (.iadd, 1) := by decide +kernel
theorem dX9_order_120 : decode cX9_order 120 = .ok (.putfield 217, 3) := by decide +kernel
theorem dX9_order_123 : decode cX9_order 123 = .ok (.aload_n 0, 1) := by decide +kernel
theorem dX9_order_124 : decode cX9_order 124 = .ok (.getfield 217, 3) := by decide +kernel
theorem dX9_order_127 : decode cX9_order 127 = .ok (.iconst 1, 1) := by decide +kernel
theorem dX9_order_128 : decode cX9_order 128 = .ok (.isub, 1) := by decide +kernel
theorem dX9_order_129 : decode cX9_order 129 = .ok (.ireturn, 1) := by decide +kernel
theorem dX9_countsOn_0 : decode cX9_countsOn 0 = .ok (.iconst (-1), 1) := by decide +kernel
theorem dX9_countsOn_1 : decode cX9_countsOn 1 = .ok (.istore_n 3, 1) := by decide +kernel
theorem dX9_countsOn_2 : decode cX9_countsOn 2 = .ok (.iconst 0, 1) := by decide +kernel
theorem dX9_countsOn_3 : decode cX9_countsOn 3 = .ok (.istore 4, 2) := by decide +kernel
theorem dX9_countsOn_5 : decode cX9_countsOn 5 = .ok (.iload 4, 2) := by decide +kernel
theorem dX9_countsOn_7 : decode cX9_countsOn 7 = .ok (.aload_n 0, 1) := by decide +kernel
theorem dX9_countsOn_8 : decode cX9_countsOn 8 = .ok (.getfield 217, 3) := by decide +kernel
theorem dX9_countsOn_11 : decode cX9_countsOn 11 = .ok (.if_icmp .ge 48, 3) := by decide +kernel
theorem dX9_countsOn_14 : decode cX9_countsOn 14 = .ok (.aload_n 0, 1) := by decide +kernel
theorem dX9_countsOn_15 : decode cX9_countsOn 15 = .ok (.getfield 113, 3) := by decide +kernel
theorem dX9_countsOn_18 : decode cX9_countsOn 18 = .ok (.iload 4, 2) := by decide +kernel
theorem dX9_countsOn_20 : decode cX9_countsOn 20 = .ok (.iaload, 1) := by decide +kernel
theorem dX9_countsOn_21 : decode cX9_countsOn 21 = .ok (.iload_n 1, 1) := by decide +kernel
theorem dX9_countsOn_22 : decode cX9_countsOn 22 = .ok (.if_icmp .ne 29, 3) := by decide +kernel
theorem dX9_countsOn_25 : decode cX9_countsOn 25 = .ok (.iload_n 2, 1) := by decide +kernel
theorem dX9_countsOn_26 : decode cX9_countsOn 26 = .ok (.aload_n 0, 1) := by decide +kernel
theorem dX9_countsOn_27 : decode cX9_countsOn 27 = .ok (.getfield 119, 3) := by decide +kernel
theorem dX9_countsOn_30 : decode cX9_countsOn 30 = .ok (.iload 4, 2) := by decide +kernel
theorem dX9_countsOn_32 : decode cX9_countsOn 32 = .ok (.iaload, 1) := by decide +kernel
theorem dX9_countsOn_33 : decode cX9_countsOn 33 = .ok (.aload_n 0, 1) := by decide +kernel
theorem dX9_countsOn_34 : decode cX9_countsOn 34 = .ok (.getfield 122, 3) := by decide +kernel
theorem dX9_countsOn_37 : decode cX9_countsOn 37 = .ok (.iload 4, 2) := by decide +kernel
theorem dX9_countsOn_39 : decode cX9_countsOn 39 = .ok (.iaload, 1) := by decide +kernel
theorem dX9_countsOn_40 : decode cX9_countsOn 40 = .ok (.invokestatic 165, 3) := by decide +kernel
theorem dX9_countsOn_43 : decode cX9_countsOn 43 = .ok (.ifCond .eq 8, 3) := by decide +kernel
theorem dX9_countsOn_46 : decode cX9_countsOn 46 = .ok (.iload 4, 2) := by decide +kernel
theorem dX9_countsOn_48 : decode cX9_countsOn 48 = .ok (.goto 4, 3) := by decide +kernel
theorem dX9_countsOn_51 : decode cX9_countsOn 51 = .ok (.iload_n 3, 1) := by decide +kernel
theorem dX9_countsOn_52 : decode cX9_countsOn 52 = .ok (.istore_n 3, 1) := by decide +kernel
theorem dX9_countsOn_53 : decode cX9_countsOn 53 = .ok (.iinc 4 1, 3) := by decide +kernel
theorem dX9_countsOn_56 : decode cX9_countsOn 56 = .ok (.goto (-51), 3) := by decide +kernel
theorem dX9_countsOn_59 : decode cX9_countsOn 59 = .ok (.iload_n 3, 1) := by decide +kernel
theorem dX9_countsOn_60 : decode cX9_countsOn 60 = .ok (.ireturn, 1) := by decide +kernel
theorem dX9_kindOn_0 : decode cX9_kindOn 0 = .ok (.aload_n 0, 1) := by decide +kernel
theorem dX9_kindOn_1 : decode cX9_kindOn 1 = .ok (.iload_n 1, 1) := by decide +kernel
theorem dX9_kindOn_2 : decode cX9_kindOn 2 = .ok (.iload_n 2, 1) := by decide +kernel
theorem dX9_kindOn_3 : decode cX9_kindOn 3 = .ok (.invokevirtual 220, 3) := by decide +kernel
theorem dX9_kindOn_6 : decode cX9_kindOn 6 = .ok (.istore_n 3, 1) := by decide +kernel
theorem dX9_kindOn_7 : decode cX9_kindOn 7 = .ok (.iload_n 3, 1) := by decide +kernel
theorem dX9_kindOn_8 : decode cX9_kindOn 8 = .ok (.iconst (-1), 1) := by decide +kernel
theorem dX9_kindOn_9 : decode cX9_kindOn 9 = .ok (.if_icmp .ne 7, 3) := by decide +kernel
theorem dX9_kindOn_12 : decode cX9_kindOn 12 = .ok (.iconst (-1), 1) := by decide +kernel
theorem dX9_kindOn_13 : decode cX9_kindOn 13 = .ok (.goto 9, 3) := by decide +kernel
theorem dX9_kindOn_16 : decode cX9_kindOn 16 = .ok (.aload_n 0, 1) := by decide +kernel
theorem dX9_kindOn_17 : decode cX9_kindOn 17 = .ok (.getfield 116, 3) := by decide +kernel
theorem dX9_kindOn_20 : decode cX9_kindOn 20 = .ok (.iload_n 3, 1) := by decide +kernel
theorem dX9_kindOn_21 : decode cX9_kindOn 21 = .ok (.iaload, 1) := by decide +kernel
theorem dX9_kindOn_22 : decode cX9_kindOn 22 = .ok (.ireturn, 1) := by decide +kernel
theorem dX9_counts_0 : decode cX9_counts 0 = .ok (.aload_n 0, 1) := by decide +kernel
theorem dX9_counts_1 : decode cX9_counts 1 = .ok (.aload_n 0, 1) := by decide +kernel
theorem dX9_counts_2 : decode cX9_counts 2 = .ok (.iload_n 1, 1) := by decide +kernel
theorem dX9_counts_3 : decode cX9_counts 3 = .ok (.invokevirtual 208, 3) := by decide +kernel
theorem dX9_counts_6 : decode cX9_counts 6 = .ok (.iload_n 2, 1) := by decide +kernel
theorem dX9_counts_7 : decode cX9_counts 7 = .ok (.iconst 0, 1) := by decide +kernel
theorem dX9_counts_8 : decode cX9_counts 8 = .ok (.sipush 30000, 3) := by decide +kernel
theorem dX9_counts_11 : decode cX9_counts 11 = .ok (.invokestatic 165, 3) := by decide +kernel
theorem dX9_counts_14 : decode cX9_counts 14 = .ok (.iconst 1, 1) := by decide +kernel
theorem dX9_counts_15 : decode cX9_counts 15 = .ok (.invokevirtual 179, 3) := by decide +kernel
theorem dX9_counts_18 : decode cX9_counts 18 = .ok (.ifCond .eq 12, 3) := by decide +kernel
theorem dX9_counts_21 : decode cX9_counts 21 = .ok (.aload_n 0, 1) := by decide +kernel
theorem dX9_counts_22 : decode cX9_counts 22 = .ok (.iload_n 1, 1) := by decide +kernel
theorem dX9_counts_23 : decode cX9_counts 23 = .ok (.iload_n 2, 1) := by decide +kernel
theorem dX9_counts_24 : decode cX9_counts 24 = .ok (.invokevirtual 220, 3) := by decide +kernel
theorem dX9_counts_27 : decode cX9_counts 27 = .ok (.goto 4, 3) := by decide +kernel
theorem dX9_counts_30 : decode cX9_counts 30 = .ok (.iconst 0, 1) := by decide +kernel
theorem dX9_counts_31 : decode cX9_counts 31 = .ok (.ireturn, 1) := by decide +kernel
theorem dX9_wish_0 : decode cX9_wish 0 = .ok (.aload_n 0, 1) := by decide +kernel
theorem dX9_wish_1 : decode cX9_wish 1 = .ok (.aload_n 0, 1) := by decide +kernel
theorem dX9_wish_2 : decode cX9_wish 2 = .ok (.iload_n 1, 1) := by decide +kernel
theorem dX9_wish_3 : decode cX9_wish 3 = .ok (.invokevirtual 208, 3) := by decide +kernel
theorem dX9_wish_6 : decode cX9_wish 6 = .ok (.ifCond .eq 15, 3) := by decide +kernel
theorem dX9_wish_9 : decode cX9_wish 9 = .ok (.aload_n 0, 1) := by decide +kernel
theorem dX9_wish_10 : decode cX9_wish 10 = .ok (.iload_n 2, 1) := by decide +kernel
theorem dX9_wish_11 : decode cX9_wish 11 = .ok (.invokevirtual 193, 3) := by decide +kernel
theorem dX9_wish_14 : decode cX9_wish 14 = .ok (.ifCond .eq 7, 3) := by decide +kernel
theorem dX9_wish_17 : decode cX9_wish 17 = .ok (.iconst 1, 1) := by decide +kernel
theorem dX9_wish_18 : decode cX9_wish 18 = .ok (.goto 4, 3) := by decide +kernel
theorem dX9_wish_21 : decode cX9_wish 21 = .ok (.iconst 0, 1) := by decide +kernel
theorem dX9_wish_22 : decode cX9_wish 22 = .ok (.iconst 1, 1) := by decide +kernel
theorem dX9_wish_23 : decode cX9_wish 23 = .ok (.iconst 1, 1) := by decide +kernel
theorem dX9_wish_24 : decode cX9_wish 24 = .ok (.invokevirtual 179, 3) := by decide +kernel
theorem dX9_wish_27 : decode cX9_wish 27 = .ok (.ifCond .eq 41, 3) := by decide +kernel
theorem dX9_wish_30 : decode cX9_wish 30 = .ok (.aload_n 0, 1) := by decide +kernel
theorem dX9_wish_31 : decode cX9_wish 31 = .ok (.getfield 62, 3) := by decide +kernel
theorem dX9_wish_34 : decode cX9_wish 34 = .ok (.bipush 10, 2) := by decide +kernel
theorem dX9_wish_36 : decode cX9_wish 36 = .ok (.iload_n 1, 1) := by decide +kernel
theorem dX9_wish_37 : decode cX9_wish 37 = .ok (.imul, 1) := by decide +kernel
theorem dX9_wish_38 : decode cX9_wish 38 = .ok (.iload_n 2, 1) := by decide +kernel
theorem dX9_wish_39 : decode cX9_wish 39 = .ok (.iadd, 1) := by decide +kernel
theorem dX9_wish_40 : decode cX9_wish 40 = .ok (.iload_n 3, 1) := by decide +kernel
theorem dX9_wish_41 : decode cX9_wish 41 = .ok (.ifCond .eq 7, 3) := by decide +kernel
theorem dX9_wish_44 : decode cX9_wish 44 = .ok (.iconst 1, 1) := by decide +kernel
theorem dX9_wish_45 : decode cX9_wish 45 = .ok (.goto 22, 3) := by decide +kernel
theorem dX9_wish_48 : decode cX9_wish 48 = .ok (.aload_n 0, 1) := by decide +kernel
theorem dX9_wish_49 : decode cX9_wish 49 = .ok (.iload_n 1, 1) := by decide +kernel
theorem dX9_wish_50 : decode cX9_wish 50 = .ok (.aload_n 0, 1) := by decide +kernel
theorem dX9_wish_51 : decode cX9_wish 51 = .ok (.getfield 187, 3) := by decide +kernel
theorem dX9_wish_54 : decode cX9_wish 54 = .ok (.invokevirtual 224, 3) := by decide +kernel
theorem dX9_wish_57 : decode cX9_wish 57 = .ok (.bipush 12, 2) := by decide +kernel
theorem dX9_wish_59 : decode cX9_wish 59 = .ok (.if_icmp .lt 7, 3) := by decide +kernel
theorem dX9_wish_62 : decode cX9_wish 62 = .ok (.iconst 3, 1) := by decide +kernel
theorem dX9_wish_63 : decode cX9_wish 63 = .ok (.goto 4, 3) := by decide +kernel
theorem dX9_wish_66 : decode cX9_wish 66 = .ok (.iconst 2, 1) := by decide +kernel
theorem dX9_wish_67 : decode cX9_wish 67 = .ok (.iastore, 1) := by decide +kernel
theorem dX9_wish_68 : decode cX9_wish 68 = .ok (.return_, 1) := by decide +kernel
theorem dX9_others_0 : decode cX9_others 0 = .ok (.iconst 0, 1) := by decide +kernel
theorem dX9_others_1 : decode cX9_others 1 = .ok (.istore_n 3, 1) := by decide +kernel
theorem dX9_others_2 : decode cX9_others 2 = .ok (.iconst 0, 1) := by decide +kernel
theorem dX9_others_3 : decode cX9_others 3 = .ok (.istore 4, 2) := by decide +kernel
theorem dX9_others_5 : decode cX9_others 5 = .ok (.iload 4, 2) := by decide +kernel
theorem dX9_others_7 : decode cX9_others 7 = .ok (.aload_n 0, 1) := by decide +kernel
theorem dX9_others_8 : decode cX9_others 8 = .ok (.getfield 162, 3) := by decide +kernel
theorem dX9_others_11 : decode cX9_others 11 = .ok (.if_icmp .ge 33, 3) := by decide +kernel
theorem dX9_others_14 : decode cX9_others 14 = .ok (.iload_n 3, 1) := by decide +kernel
theorem dX9_others_15 : decode cX9_others 15 = .ok (.iload 4, 2) := by decide +kernel
theorem dX9_others_17 : decode cX9_others 17 = .ok (.iload_n 1, 1) := by decide +kernel
theorem dX9_others_18 : decode cX9_others 18 = .ok (.if_icmp .eq 17, 3) := by decide +kernel
theorem dX9_others_21 : decode cX9_others 21 = .ok (.aload_n 0, 1) := by decide +kernel
theorem dX9_others_22 : decode cX9_others 22 = .ok (.iload 4, 2) := by decide +kernel
theorem dX9_others_24 : decode cX9_others 24 = .ok (.invokevirtual 227, 3) := by decide +kernel
theorem dX9_others_27 : decode cX9_others 27 = .ok (.iload_n 2, 1) := by decide +kernel
theorem dX9_others_28 : decode cX9_others 28 = .ok (.if_icmp .ne 7, 3) := by decide +kernel
theorem dX9_others_31 : decode cX9_others 31 = .ok (.iconst 1, 1) := by decide +kernel
theorem dX9_others_32 : decode cX9_others 32 = .ok (.goto 4, 3) := by decide +kernel
theorem dX9_others_35 : decode cX9_others 35 = .ok (.iconst 0, 1) := by decide +kernel
theorem dX9_others_36 : decode cX9_others 36 = .ok (.iadd, 1) := by decide +kernel
theorem dX9_others_37 : decode cX9_others 37 = .ok (.istore_n 3, 1) := by decide +kernel
theorem dX9_others_38 : decode cX9_others 38 = .ok (.iinc 4 1, 3) := by decide +kernel
theorem dX9_others_41 : decode cX9_others 41 = .ok (.goto (-36), 3) := by decide +kernel
theorem dX9_others_44 : decode cX9_others 44 = .ok (.iload_n 3, 1) := by decide +kernel
theorem dX9_others_45 : decode cX9_others 45 = .ok (.ireturn, 1) := by decide +kernel
theorem dX9_whyOn_0 : decode cX9_whyOn 0 = .ok (.aload_n 0, 1) := by decide +kernel
theorem dX9_whyOn_1 : decode cX9_whyOn 1 = .ok (.iload_n 2, 1) := by decide +kernel
theorem dX9_whyOn_2 : decode cX9_whyOn 2 = .ok (.iconst 0, 1) := by decide +kernel
theorem dX9_whyOn_3 : decode cX9_whyOn 3 = .ok (.iload_n 3, 1) := by decide +kernel
theorem dX9_whyOn_4 : decode cX9_whyOn 4 = .ok (.invokevirtual 230, 3) := by decide +kernel
theorem dX9_whyOn_7 : decode cX9_whyOn 7 = .ok (.istore 4, 2) := by decide +kernel
theorem dX9_whyOn_9 : decode cX9_whyOn 9 = .ok (.aload_n 0, 1) := by decide +kernel
theorem dX9_whyOn_10 : decode cX9_whyOn 10 = .ok (.iload_n 2, 1) := by decide +kernel
theorem dX9_whyOn_11 : decode cX9_whyOn 11 = .ok (.iconst 1, 1) := by decide +kernel
theorem dX9_whyOn_12 : decode cX9_whyOn 12 = .ok (.iload_n 3, 1) := by decide +kernel
theorem dX9_whyOn_13 : decode cX9_whyOn 13 = .ok (.invokevirtual 230, 3) := by decide +kernel
theorem dX9_whyOn_16 : decode cX9_whyOn 16 = .ok (.istore 5, 2) := by decide +kernel
theorem dX9_whyOn_18 : decode cX9_whyOn 18 = .ok (.aload_n 0, 1) := by decide +kernel
theorem dX9_whyOn_19 : decode cX9_whyOn 19 = .ok (.iload_n 2, 1) := by decide +kernel
theorem dX9_whyOn_20 : decode cX9_whyOn 20 = .ok (.iconst 2, 1) := by decide +kernel
theorem dX9_whyOn_21 : decode cX9_whyOn 21 = .ok (.iload_n 3, 1) := by decide +kernel
theorem dX9_whyOn_22 : decode cX9_whyOn 22 = .ok (.invokevirtual 230, 3) := by decide +kernel
theorem dX9_whyOn_25 : decode cX9_whyOn 25 = .ok (.istore 6, 2) := by decide +kernel
theorem dX9_whyOn_27 : decode cX9_whyOn 27 = .ok (.iload 5, 2) := by decide +kernel
theorem dX9_whyOn_29 : decode cX9_whyOn 29 = .ok (.iconst (-1), 1) := by decide +kernel
theorem dX9_whyOn_30 : decode cX9_whyOn 30 = .ok (.if_icmp .eq 14, 3) := by decide +kernel
theorem dX9_whyOn_33 : decode cX9_whyOn 33 = .ok (.iload_n 3, 1) := by decide +kernel
theorem dX9_whyOn_34 : decode cX9_whyOn 34 = .ok (.aload_n 0, 1) := by decide +kernel
theorem dX9_whyOn_35 : decode cX9_whyOn 35 = .ok (.getfield 98, 3) := by decide +kernel
theorem dX9_whyOn_38 : decode cX9_whyOn 38 = .ok (.iload 5, 2) := by decide +kernel
theorem dX9_whyOn_40 : decode cX9_whyOn 40 = .ok (.iaload, 1) := by decide +kernel
theorem dX9_whyOn_41 : decode cX9_whyOn 41 = .ok (.if_icmp .le 7, 3) := by decide +kernel
theorem dX9_whyOn_44 : decode cX9_whyOn 44 = .ok (.iconst 0, 1) := by decide +kernel
theorem dX9_whyOn_45 : decode cX9_whyOn 45 = .ok (.goto 10, 3) := by decide +kernel
theorem dX9_whyOn_48 : decode cX9_whyOn 48 = .ok (.aload_n 0, 1) := by decide +kernel
theorem dX9_whyOn_49 : decode cX9_whyOn 49 = .ok (.getfield 92, 3) := by decide +kernel
theorem dX9_whyOn_52 : decode cX9_whyOn 52 = .ok (.iload 5, 2) := by decide +kernel
theorem dX9_whyOn_54 : decode cX9_whyOn 54 = .ok (.iaload, 1) := by decide +kernel
theorem dX9_whyOn_55 : decode cX9_whyOn 55 = .ok (.istore 7, 2) := by decide +kernel
theorem dX9_whyOn_57 : decode cX9_whyOn 57 = .ok (.aload_n 0, 1) := by decide +kernel
theorem dX9_whyOn_58 : decode cX9_whyOn 58 = .ok (.iload_n 1, 1) := by decide +kernel
theorem dX9_whyOn_59 : decode cX9_whyOn 59 = .ok (.iload_n 3, 1) := by decide +kernel
theorem dX9_whyOn_60 : decode cX9_whyOn 60 = .ok (.invokevirtual 234, 3) := by decide +kernel
theorem dX9_whyOn_63 : decode cX9_whyOn 63 = .ok (.ifCond .eq 5, 3) := by decide +kernel
theorem dX9_whyOn_66 : decode cX9_whyOn 66 = .ok (.iconst 1, 1) := by decide +kernel
theorem dX9_whyOn_67 : decode cX9_whyOn 67 = .ok (.ireturn, 1) := by decide +kernel
theorem dX9_whyOn_68 : decode cX9_whyOn 68 = .ok (.iload 4, 2) := by decide +kernel
theorem dX9_whyOn_70 : decode cX9_whyOn 70 = .ok (.iconst (-1), 1) := by decide +kernel
theorem dX9_whyOn_71 : decode cX9_whyOn 71 = .ok (.if_icmp .eq 14, 3) := by decide +kernel
theorem dX9_whyOn_74 : decode cX9_whyOn 74 = .ok (.iload_n 3, 1) := by decide +kernel
theorem dX9_whyOn_75 : decode cX9_whyOn 75 = .ok (.aload_n 0, 1) := by decide +kernel
theorem dX9_whyOn_76 : decode cX9_whyOn 76 = .ok (.getfield 98, 3) := by decide +kernel
theorem dX9_whyOn_79 : decode cX9_whyOn 79 = .ok (.iload 4, 2) := by decide +kernel
theorem dX9_whyOn_81 : decode cX9_whyOn 81 = .ok (.iaload, 1) := by decide +kernel
theorem dX9_whyOn_82 : decode cX9_whyOn 82 = .ok (.if_icmp .le 5, 3) := by decide +kernel
theorem dX9_whyOn_85 : decode cX9_whyOn 85 = .ok (.iconst 2, 1) := by decide +kernel
theorem dX9_whyOn_86 : decode cX9_whyOn 86 = .ok (.ireturn, 1) := by decide +kernel
theorem dX9_whyOn_87 : decode cX9_whyOn 87 = .ok (.aload_n 0, 1) := by decide +kernel
theorem dX9_whyOn_88 : decode cX9_whyOn 88 = .ok (.iload_n 1, 1) := by decide +kernel
theorem dX9_whyOn_89 : decode cX9_whyOn 89 = .ok (.iload_n 3, 1) := by decide +kernel
theorem dX9_whyOn_90 : decode cX9_whyOn 90 = .ok (.invokevirtual 224, 3) := by decide +kernel
theorem dX9_whyOn_93 : decode cX9_whyOn 93 = .ok (.aload_n 0, 1) := by decide +kernel
theorem dX9_whyOn_94 : decode cX9_whyOn 94 = .ok (.getfield 92, 3) := by decide +kernel
theorem dX9_whyOn_97 : decode cX9_whyOn 97 = .ok (.iload 4, 2) := by decide +kernel
theorem dX9_whyOn_99 : decode cX9_whyOn 99 = .ok (.iaload, 1) := by decide +kernel
theorem dX9_whyOn_100 : decode cX9_whyOn 100 = .ok (.aload_n 0, 1) := by decide +kernel
theorem dX9_whyOn_101 : decode cX9_whyOn 101 = .ok (.getfield 95, 3) := by decide +kernel
theorem dX9_whyOn_104 : decode cX9_whyOn 104 = .ok (.iload 4, 2) := by decide +kernel
theorem dX9_whyOn_106 : decode cX9_whyOn 106 = .ok (.iaload, 1) := by decide +kernel
theorem dX9_whyOn_107 : decode cX9_whyOn 107 = .ok (.invokestatic 165, 3) := by decide +kernel
theorem dX9_whyOn_110 : decode cX9_whyOn 110 = .ok (.ifCond .ne 5, 3) := by decide +kernel
theorem dX9_whyOn_113 : decode cX9_whyOn 113 = .ok (.iconst 3, 1) := by decide +kernel
theorem dX9_whyOn_114 : decode cX9_whyOn 114 = .ok (.ireturn, 1) := by decide +kernel
theorem dX9_whyOn_115 : decode cX9_whyOn 115 = .ok (.aload_n 0, 1) := by decide +kernel
theorem dX9_whyOn_116 : decode cX9_whyOn 116 = .ok (.getfield 16, 3) := by decide +kernel
theorem dX9_whyOn_119 : decode cX9_whyOn 119 = .ok (.iload_n 1, 1) := by decide +kernel
theorem dX9_whyOn_120 : decode cX9_whyOn 120 = .ok (.iaload, 1) := by decide +kernel
theorem dX9_whyOn_121 : decode cX9_whyOn 121 = .ok (.iload 7, 2) := by decide +kernel
theorem dX9_whyOn_123 : decode cX9_whyOn 123 = .ok (.iconst (-1), 1) := by decide +kernel
theorem dX9_whyOn_124 : decode cX9_whyOn 124 = .ok (.ixor, 1) := by decide +kernel
theorem dX9_whyOn_125 : decode cX9_whyOn 125 = .ok (.iand, 1) := by decide +kernel
theorem dX9_whyOn_126 : decode cX9_whyOn 126 = .ok (.ifCond .eq 7, 3) := by decide +kernel
theorem dX9_whyOn_129 : decode cX9_whyOn 129 = .ok (.iconst 4, 1) := by decide +kernel
theorem dX9_whyOn_130 : decode cX9_whyOn 130 = .ok (.goto 35, 3) := by decide +kernel
theorem dX9_whyOn_133 : decode cX9_whyOn 133 = .ok (.iload 6, 2) := by decide +kernel
theorem dX9_whyOn_135 : decode cX9_whyOn 135 = .ok (.iconst (-1), 1) := by decide +kernel
theorem dX9_whyOn_136 : decode cX9_whyOn 136 = .ok (.if_icmp .eq 28, 3) := by decide +kernel
theorem dX9_whyOn_139 : decode cX9_whyOn 139 = .ok (.iload_n 3, 1) := by decide +kernel
theorem dX9_whyOn_140 : decode cX9_whyOn 140 = .ok (.aload_n 0, 1) := by decide +kernel
theorem dX9_whyOn_141 : decode cX9_whyOn 141 = .ok (.getfield 92, 3) := by decide +kernel
theorem dX9_whyOn_144 : decode cX9_whyOn 144 = .ok (.iload 6, 2) := by decide +kernel
theorem dX9_whyOn_146 : decode cX9_whyOn 146 = .ok (.iaload, 1) := by decide +kernel
theorem dX9_whyOn_147 : decode cX9_whyOn 147 = .ok (.aload_n 0, 1) := by decide +kernel
theorem dX9_whyOn_148 : decode cX9_whyOn 148 = .ok (.getfield 98, 3) := by decide +kernel
theorem dX9_whyOn_151 : decode cX9_whyOn 151 = .ok (.iload 6, 2) := by decide +kernel
theorem dX9_whyOn_153 : decode cX9_whyOn 153 = .ok (.iaload, 1) := by decide +kernel
theorem dX9_whyOn_154 : decode cX9_whyOn 154 = .ok (.invokestatic 165, 3) := by decide +kernel
theorem dX9_whyOn_157 : decode cX9_whyOn 157 = .ok (.ifCond .eq 7, 3) := by decide +kernel
theorem dX9_whyOn_160 : decode cX9_whyOn 160 = .ok (.iconst 5, 1) := by decide +kernel
theorem dX9_whyOn_161 : decode cX9_whyOn 161 = .ok (.goto 4, 3) := by decide +kernel
theorem dX9_whyOn_164 : decode cX9_whyOn 164 = .ok (.iconst 0, 1) := by decide +kernel
theorem dX9_whyOn_165 : decode cX9_whyOn 165 = .ok (.ireturn, 1) := by decide +kernel
theorem dX9_whyNot_0 : decode cX9_whyNot 0 = .ok (.aload_n 0, 1) := by decide +kernel
theorem dX9_whyNot_1 : decode cX9_whyNot 1 = .ok (.iload_n 1, 1) := by decide +kernel
theorem dX9_whyNot_2 : decode cX9_whyNot 2 = .ok (.iload_n 2, 1) := by decide +kernel
theorem dX9_whyNot_3 : decode cX9_whyNot 3 = .ok (.aload_n 0, 1) := by decide +kernel
theorem dX9_whyNot_4 : decode cX9_whyNot 4 = .ok (.getfield 187, 3) := by decide +kernel
theorem dX9_whyNot_7 : decode cX9_whyNot 7 = .ok (.invokevirtual 237, 3) := by decide +kernel
theorem dX9_whyNot_10 : decode cX9_whyNot 10 = .ok (.istore_n 3, 1) := by decide +kernel
theorem dX9_whyNot_11 : decode cX9_whyNot 11 = .ok (.iload_n 3, 1) := by decide +kernel
theorem dX9_whyNot_12 : decode cX9_whyNot 12 = .ok (.ifCond .le 7, 3) := by decide +kernel
theorem dX9_whyNot_15 : decode cX9_whyNot 15 = .ok (.iload_n 3, 1) := by decide +kernel
theorem dX9_whyNot_16 : decode cX9_whyNot 16 = .ok (.goto 44, 3) := by decide +kernel
theorem dX9_whyNot_19 : decode cX9_whyNot 19 = .ok (.aload_n 0, 1) := by decide +kernel
theorem dX9_whyNot_20 : decode cX9_whyNot 20 = .ok (.iload_n 1, 1) := by decide +kernel
theorem dX9_whyNot_21 : decode cX9_whyNot 21 = .ok (.iload_n 2, 1) := by decide +kernel
theorem dX9_whyNot_22 : decode cX9_whyNot 22 = .ok (.invokevirtual 240, 3) := by decide +kernel
theorem dX9_whyNot_25 : decode cX9_whyNot 25 = .ok (.aload_n 0, 1) := by decide +kernel
theorem dX9_whyNot_26 : decode cX9_whyNot 26 = .ok (.getfield 71, 3) := by decide +kernel
theorem dX9_whyNot_29 : decode cX9_whyNot 29 = .ok (.iload_n 2, 1) := by decide +kernel
theorem dX9_whyNot_30 : decode cX9_whyNot 30 = .ok (.iaload, 1) := by decide +kernel
theorem dX9_whyNot_31 : decode cX9_whyNot 31 = .ok (.if_icmp .lt 8, 3) := by decide +kernel
theorem dX9_whyNot_34 : decode cX9_whyNot 34 = .ok (.bipush 6, 2) := by decide +kernel
theorem dX9_whyNot_36 : decode cX9_whyNot 36 = .ok (.goto 24, 3) := by decide +kernel
theorem dX9_whyNot_39 : decode cX9_whyNot 39 = .ok (.aload_n 0, 1) := by decide +kernel
theorem dX9_whyNot_40 : decode cX9_whyNot 40 = .ok (.getfield 62, 3) := by decide +kernel
theorem dX9_whyNot_43 : decode cX9_whyNot 43 = .ok (.bipush 10, 2) := by decide +kernel
theorem dX9_whyNot_45 : decode cX9_whyNot 45 = .ok (.iload_n 1, 1) := by decide +kernel
theorem dX9_whyNot_46 : decode cX9_whyNot 46 = .ok (.imul, 1) := by decide +kernel
theorem dX9_whyNot_47 : decode cX9_whyNot 47 = .ok (.iload_n 2, 1) := by decide +kernel
theorem dX9_whyNot_48 : decode cX9_whyNot 48 = .ok (.iadd, 1) := by decide +kernel
theorem dX9_whyNot_49 : decode cX9_whyNot 49 = .ok (.iaload, 1) := by decide +kernel
theorem dX9_whyNot_50 : decode cX9_whyNot 50 = .ok (.iconst 3, 1) := by decide +kernel
theorem dX9_whyNot_51 : decode cX9_whyNot 51 = .ok (.if_icmp .ne 8, 3) := by decide +kernel
theorem dX9_whyNot_54 : decode cX9_whyNot 54 = .ok (.bipush 7, 2) := by decide +kernel
theorem dX9_whyNot_56 : decode cX9_whyNot 56 = .ok (.goto 4, 3) := by decide +kernel
theorem dX9_whyNot_59 : decode cX9_whyNot 59 = .ok (.iconst 0, 1) := by decide +kernel
theorem dX9_whyNot_60 : decode cX9_whyNot 60 = .ok (.ireturn, 1) := by decide +kernel
theorem dX9_why_0 : decode cX9_why 0 = .ok (.aload_n 0, 1) := by decide +kernel
theorem dX9_why_1 : decode cX9_why 1 = .ok (.aload_n 0, 1) := by decide +kernel
theorem dX9_why_2 : decode cX9_why 2 = .ok (.iload_n 1, 1) := by decide +kernel
theorem dX9_why_3 : decode cX9_why 3 = .ok (.invokevirtual 208, 3) := by decide +kernel
