theorem dL_isDone_302 : decode cL_isDone 302 = .ok (.aload_n 1, 1) := by decide +kernel
theorem dL_isDone_303 : decode cL_isDone 303 = .ok (.bipush 6, 2) := by decide +kernel
theorem dL_isDone_305 : decode cL_isDone 305 = .ok (.aload_n 2, 1) := by decide +kernel
theorem dL_isDone_306 : decode cL_isDone 306 = .ok (.iload_n 3, 1) := by decide +kernel
theorem dL_isDone_307 : decode cL_isDone 307 = .ok (.iconst 3, 1) := by decide +kernel
theorem dL_isDone_308 : decode cL_isDone 308 = .ok (.iadd, 1) := by decide +kernel
theorem dL_isDone_309 : decode cL_isDone 309 = .ok (.iconst 4, 1) := by decide +kernel
theorem dL_isDone_310 : decode cL_isDone 310 = .ok (.invokestatic 136, 3) := by decide +kernel
theorem dL_isDone_313 : decode cL_isDone 313 = .ok (.iastore, 1) := by decide +kernel
theorem dL_isDone_314 : decode cL_isDone 314 = .ok (.aload_n 0, 1) := by decide +kernel
theorem dL_isDone_315 : decode cL_isDone 315 = .ok (.aload_n 1, 1) := by decide +kernel
theorem dL_isDone_316 : decode cL_isDone 316 = .ok (.iconst 5, 1) := by decide +kernel
theorem dL_isDone_317 : decode cL_isDone 317 = .ok (.iaload, 1) := by decide +kernel
theorem dL_isDone_318 : decode cL_isDone 318 = .ok (.invokestatic 262, 3) := by decide +kernel
theorem dL_isDone_321 : decode cL_isDone 321 = .ok (.iload 6, 2) := by decide +kernel
theorem dL_isDone_323 : decode cL_isDone 323 = .ok (.if_icmp .ne 20, 3) := by decide +kernel
theorem dL_isDone_326 : decode cL_isDone 326 = .ok (.aload_n 0, 1) := by decide +kernel
theorem dL_isDone_327 : decode cL_isDone 327 = .ok (.aload_n 1, 1) := by decide +kernel
theorem dL_isDone_328 : decode cL_isDone 328 = .ok (.bipush 6, 2) := by decide +kernel
theorem dL_isDone_330 : decode cL_isDone 330 = .ok (.iaload, 1) := by decide +kernel
theorem dL_isDone_331 : decode cL_isDone 331 = .ok (.invokestatic 264, 3) := by decide +kernel
theorem dL_isDone_334 : decode cL_isDone 334 = .ok (.iload 7, 2) := by decide +kernel
theorem dL_isDone_336 : decode cL_isDone 336 = .ok (.if_icmp .ne 7, 3) := by decide +kernel
theorem dL_isDone_339 : decode cL_isDone 339 = .ok (.iconst 1, 1) := by decide +kernel
theorem dL_isDone_340 : decode cL_isDone 340 = .ok (.goto 4, 3) := by decide +kernel
theorem dL_isDone_343 : decode cL_isDone 343 = .ok (.iconst 0, 1) := by decide +kernel
theorem dL_isDone_344 : decode cL_isDone 344 = .ok (.ireturn, 1) := by decide +kernel
theorem dL_isDone_345 : decode cL_isDone 345 = .ok (.aload_n 2, 1) := by decide +kernel
theorem dL_isDone_346 : decode cL_isDone 346 = .ok (.iload_n 3, 1) := by decide +kernel
theorem dL_isDone_347 : decode cL_isDone 347 = .ok (.iconst 1, 1) := by decide +kernel
theorem dL_isDone_348 : decode cL_isDone 348 = .ok (.iadd, 1) := by decide +kernel
theorem dL_isDone_349 : decode cL_isDone 349 = .ok (.aload_n 1, 1) := by decide +kernel
theorem dL_isDone_350 : decode cL_isDone 350 = .ok (.iconst 4, 1) := by decide +kernel
theorem dL_isDone_351 : decode cL_isDone 351 = .ok (.iaload, 1) := by decide +kernel
theorem dL_isDone_352 : decode cL_isDone 352 = .ok (.invokestatic 136, 3) := by decide +kernel
theorem dL_isDone_355 : decode cL_isDone 355 = .ok (.istore 6, 2) := by decide +kernel
theorem dL_isDone_357 : decode cL_isDone 357 = .ok (.aload_n 1, 1) := by decide +kernel
theorem dL_isDone_358 : decode cL_isDone 358 = .ok (.sipush 142, 3) := by decide +kernel
theorem dL_isDone_361 : decode cL_isDone 361 = .ok (.iconst 5, 1) := by decide +kernel
theorem dL_isDone_362 : decode cL_isDone 362 = .ok (.iload 6, 2) := by decide +kernel
theorem dL_isDone_364 : decode cL_isDone 364 = .ok (.imul, 1) := by decide +kernel
theorem dL_isDone_365 : decode cL_isDone 365 = .ok (.iadd, 1) := by decide +kernel
theorem dL_isDone_366 : decode cL_isDone 366 = .ok (.iaload, 1) := by decide +kernel
theorem dL_isDone_367 : decode cL_isDone 367 = .ok (.istore 7, 2) := by decide +kernel
theorem dL_isDone_369 : decode cL_isDone 369 = .ok (.aload_n 1, 1) := by decide +kernel
theorem dL_isDone_370 : decode cL_isDone 370 = .ok (.sipush 142, 3) := by decide +kernel
theorem dL_isDone_373 : decode cL_isDone 373 = .ok (.iconst 5, 1) := by decide +kernel
theorem dL_isDone_374 : decode cL_isDone 374 = .ok (.iload 6, 2) := by decide +kernel
theorem dL_isDone_376 : decode cL_isDone 376 = .ok (.imul, 1) := by decide +kernel
theorem dL_isDone_377 : decode cL_isDone 377 = .ok (.iadd, 1) := by decide +kernel
theorem dL_isDone_378 : decode cL_isDone 378 = .ok (.iconst 1, 1) := by decide +kernel
theorem dL_isDone_379 : decode cL_isDone 379 = .ok (.aload_n 2, 1) := by decide +kernel
theorem dL_isDone_380 : decode cL_isDone 380 = .ok (.iload_n 3, 1) := by decide +kernel
theorem dL_isDone_381 : decode cL_isDone 381 = .ok (.iconst 2, 1) := by decide +kernel
theorem dL_isDone_382 : decode cL_isDone 382 = .ok (.iadd, 1) := by decide +kernel
theorem dL_isDone_383 : decode cL_isDone 383 = .ok (.iconst 5, 1) := by decide +kernel
theorem dL_isDone_384 : decode cL_isDone 384 = .ok (.invokestatic 136, 3) := by decide +kernel
theorem dL_isDone_387 : decode cL_isDone 387 = .ok (.iadd, 1) := by decide +kernel
theorem dL_isDone_388 : decode cL_isDone 388 = .ok (.iastore, 1) := by decide +kernel
theorem dL_isDone_389 : decode cL_isDone 389 = .ok (.aload_n 0, 1) := by decide +kernel
theorem dL_isDone_390 : decode cL_isDone 390 = .ok (.iload 6, 2) := by decide +kernel
theorem dL_isDone_392 : decode cL_isDone 392 = .ok (.aload_n 1, 1) := by decide +kernel
theorem dL_isDone_393 : decode cL_isDone 393 = .ok (.sipush 142, 3) := by decide +kernel
theorem dL_isDone_396 : decode cL_isDone 396 = .ok (.iconst 5, 1) := by decide +kernel
theorem dL_isDone_397 : decode cL_isDone 397 = .ok (.iload 6, 2) := by decide +kernel
theorem dL_isDone_399 : decode cL_isDone 399 = .ok (.imul, 1) := by decide +kernel
theorem dL_isDone_400 : decode cL_isDone 400 = .ok (.iadd, 1) := by decide +kernel
theorem dL_isDone_401 : decode cL_isDone 401 = .ok (.iaload, 1) := by decide +kernel
theorem dL_isDone_402 : decode cL_isDone 402 = .ok (.invokestatic 266, 3) := by decide +kernel
theorem dL_isDone_405 : decode cL_isDone 405 = .ok (.iload 7, 2) := by decide +kernel
theorem dL_isDone_407 : decode cL_isDone 407 = .ok (.if_icmp .ne 7, 3) := by decide +kernel
theorem dL_isDone_410 : decode cL_isDone 410 = .ok (.iconst 1, 1) := by decide +kernel
theorem dL_isDone_411 : decode cL_isDone 411 = .ok (.goto 4, 3) := by decide +kernel
theorem dL_isDone_414 : decode cL_isDone 414 = .ok (.iconst 0, 1) := by decide +kernel
theorem dL_isDone_415 : decode cL_isDone 415 = .ok (.ireturn, 1) := by decide +kernel
theorem dL_isDone_416 : decode cL_isDone 416 = .ok (.aload_n 2, 1) := by decide +kernel
theorem dL_isDone_417 : decode cL_isDone 417 = .ok (.iload_n 3, 1) := by decide +kernel
theorem dL_isDone_418 : decode cL_isDone 418 = .ok (.iconst 1, 1) := by decide +kernel
theorem dL_isDone_419 : decode cL_isDone 419 = .ok (.iadd, 1) := by decide +kernel
theorem dL_isDone_420 : decode cL_isDone 420 = .ok (.iconst 2, 1) := by decide +kernel
theorem dL_isDone_421 : decode cL_isDone 421 = .ok (.invokestatic 136, 3) := by decide +kernel
theorem dL_isDone_424 : decode cL_isDone 424 = .ok (.ifCond .ne 15, 3) := by decide +kernel
theorem dL_isDone_427 : decode cL_isDone 427 = .ok (.aload_n 0, 1) := by decide +kernel
theorem dL_isDone_428 : decode cL_isDone 428 = .ok (.aload_n 1, 1) := by decide +kernel
theorem dL_isDone_429 : decode cL_isDone 429 = .ok (.aload_n 2, 1) := by decide +kernel
theorem dL_isDone_430 : decode cL_isDone 430 = .ok (.iload_n 3, 1) := by decide +kernel
theorem dL_isDone_431 : decode cL_isDone 431 = .ok (.iconst 2, 1) := by decide +kernel
theorem dL_isDone_432 : decode cL_isDone 432 = .ok (.iadd, 1) := by decide +kernel
theorem dL_isDone_433 : decode cL_isDone 433 = .ok (.invokestatic 178, 3) := by decide +kernel
theorem dL_isDone_436 : decode cL_isDone 436 = .ok (.goto 12, 3) := by decide +kernel
theorem dL_isDone_439 : decode cL_isDone 439 = .ok (.aload_n 0, 1) := by decide +kernel
theorem dL_isDone_440 : decode cL_isDone 440 = .ok (.aload_n 1, 1) := by decide +kernel
theorem dL_isDone_441 : decode cL_isDone 441 = .ok (.aload_n 2, 1) := by decide +kernel
theorem dL_isDone_442 : decode cL_isDone 442 = .ok (.iload_n 3, 1) := by decide +kernel
theorem dL_isDone_443 : decode cL_isDone 443 = .ok (.iconst 2, 1) := by decide +kernel
theorem dL_isDone_444 : decode cL_isDone 444 = .ok (.iadd, 1) := by decide +kernel
theorem dL_isDone_445 : decode cL_isDone 445 = .ok (.invokestatic 175, 3) := by decide +kernel
theorem dL_isDone_448 : decode cL_isDone 448 = .ok (.ireturn, 1) := by decide +kernel
theorem dL_isDone_449 : decode cL_isDone 449 = .ok (.aload_n 0, 1) := by decide +kernel
theorem dL_isDone_450 : decode cL_isDone 450 = .ok (.aload_n 1, 1) := by decide +kernel
theorem dL_isDone_451 : decode cL_isDone 451 = .ok (.iconst 1, 1) := by decide +kernel
theorem dL_isDone_452 : decode cL_isDone 452 = .ok (.aload_n 2, 1) := by decide +kernel
theorem dL_isDone_453 : decode cL_isDone 453 = .ok (.iload_n 3, 1) := by decide +kernel
theorem dL_isDone_454 : decode cL_isDone 454 = .ok (.iconst 1, 1) := by decide +kernel
theorem dL_isDone_455 : decode cL_isDone 455 = .ok (.iadd, 1) := by decide +kernel
theorem dL_isDone_456 : decode cL_isDone 456 = .ok (.iconst 3, 1) := by decide +kernel
theorem dL_isDone_457 : decode cL_isDone 457 = .ok (.invokestatic 136, 3) := by decide +kernel
theorem dL_isDone_460 : decode cL_isDone 460 = .ok (.iadd, 1) := by decide +kernel
theorem dL_isDone_461 : decode cL_isDone 461 = .ok (.invokestatic 268, 3) := by decide +kernel
theorem dL_isDone_464 : decode cL_isDone 464 = .ok (.ireturn, 1) := by decide +kernel
set_option maxRecDepth 20000 in
theorem ggL_isTold_L_state : GoodIn wsL_isTold wsL_state := goodIn_ca (goodIn_r _ [6, 7, 8, 9, 10, 11, 12, 13, 14, 15, 16, 17, 18, 19, 20, 21, 22, 23, 24, 25, 26, 246, 247, 248, 249, 250, 251, 252, 253, 254, 255, 256, 257, 258, 259, 260, 261, 262, 263, 264, 265, 266] (by decide +kernel) (by decide +kernel)) (goodIn_sub (fun _ h => List.mem_cons_of_mem _ (List.mem_append_left _ (List.mem_append_right _ h))) (by decide +kernel))
set_option maxRecDepth 20000 in
theorem gL_isTold_L_state : GoodIn wsL_isTold (va_wsS RL 271 yL_state wsL_state) := goodIn_app (goodIn_of _ (by decide +kernel)) ggL_isTold_L_state
set_option maxRecDepth 20000 in
theorem ggL_isTold_L_fuel : GoodIn wsL_isTold wsL_fuel := goodIn_ca (goodIn_r _ [29, 7, 8, 30, 31, 32, 12, 33, 34, 15, 16, 17, 18, 19, 20, 21, 22, 23, 24, 25, 26, 246, 247, 248, 249, 250, 251, 252, 253, 254, 255, 256, 257, 258, 259, 260, 261, 262, 263, 264, 265, 266] (by decide +kernel) (by decide +kernel)) (goodIn_sub (fun _ h => List.mem_cons_of_mem _ (List.mem_append_left _ (List.mem_append_right _ h))) (by decide +kernel))
set_option maxRecDepth 20000 in
theorem gL_isTold_L_fuel : GoodIn wsL_isTold (va_wsS RL 273 yL_fuel wsL_fuel) := goodIn_app (goodIn_of _ (by decide +kernel)) ggL_isTold_L_fuel
set_option maxRecDepth 20000 in
theorem ggL_isTold_L_given : GoodIn wsL_isTold wsL_given := goodIn_ca (goodIn_r _ [37, 7, 8, 38, 39, 40, 12, 41, 42, 15, 16, 17, 18, 19, 20, 21, 22, 23, 24, 25, 26, 246, 247, 248, 249, 250, 251, 252, 253, 254, 255, 256, 257, 258, 259, 260, 261, 262, 263, 264, 265, 266] (by decide +kernel) (by decide +kernel)) (goodIn_sub (fun _ h => List.mem_cons_of_mem _ (List.mem_append_left _ (List.mem_append_right _ h))) (by decide +kernel))
set_option maxRecDepth 20000 in
theorem gL_isTold_L_given : GoodIn wsL_isTold (va_wsS RL 275 yL_given wsL_given) := goodIn_app (goodIn_of _ (by decide +kernel)) ggL_isTold_L_given
set_option maxRecDepth 20000 in
theorem ggL_isTold_L_toGo : GoodIn wsL_isTold wsL_toGo := goodIn_ca (goodIn_ca (goodIn_r _ [45, 7, 46, 8, 1, 47, 48, 49, 12, 50, 51, 52, 14, 53, 15, 16, 17, 18, 19, 20, 21, 22, 23, 24, 25, 26, 246, 247, 248, 249, 250, 251, 252, 253, 254, 255, 256, 257, 258, 259, 260, 261, 262, 263, 264, 265, 266] (by decide +kernel) (by decide +kernel)) (goodIn_sub (fun _ h => List.mem_cons_of_mem _ (List.mem_append_right _ h)) (by decide +kernel))) (goodIn_sub (fun _ h => List.mem_cons_of_mem _ (List.mem_append_left _ (List.mem_append_right _ h))) (by decide +kernel))
set_option maxRecDepth 20000 in
theorem gL_isTold_L_toGo : GoodIn wsL_isTold (va_wsS RL 277 yL_toGo wsL_toGo) := goodIn_app (goodIn_of _ (by decide +kernel)) ggL_isTold_L_toGo
set_option maxRecDepth 20000 in
theorem ggL_isTold_L_charge : GoodIn wsL_isTold wsL_charge := goodIn_ca (goodIn_r _ [56, 7, 8, 57, 58, 59, 12, 60, 61, 62, 63, 64, 65, 66, 67, 68, 22, 23, 24, 25, 26, 267, 268, 269, 270, 271, 254, 255, 256, 257, 258, 259, 260, 261, 272, 273, 274] (by decide +kernel) (by decide +kernel)) (goodIn_sub (fun _ h => List.mem_cons_of_mem _ (List.mem_append_left _ (List.mem_append_right _ h))) (by decide +kernel))
set_option maxRecDepth 20000 in
theorem gL_isTold_L_charge : GoodIn wsL_isTold (va_wsS RL 279 yL_charge wsL_charge) := goodIn_app (goodIn_of _ (by decide +kernel)) ggL_isTold_L_charge
set_option maxRecDepth 20000 in
theorem ggL_isTold_L_flow : GoodIn wsL_isTold wsL_flow := goodIn_ca (goodIn_r _ [71, 7, 8, 72, 73, 74, 12, 75, 76, 62, 63, 64, 65, 66, 67, 68, 22, 23, 24, 25, 26, 267, 268, 269, 270, 271, 254, 255, 256, 257, 258, 259, 260, 261, 272, 273, 274] (by decide +kernel) (by decide +kernel)) (goodIn_sub (fun _ h => List.mem_cons_of_mem _ (List.mem_append_left _ (List.mem_append_right _ h))) (by decide +kernel))
set_option maxRecDepth 20000 in
theorem gL_isTold_L_flow : GoodIn wsL_isTold (va_wsS RL 281 yL_flow wsL_flow) := goodIn_app (goodIn_of _ (by decide +kernel)) ggL_isTold_L_flow
set_option maxRecDepth 20000 in
theorem ggL_isTold_L_isLit : GoodIn wsL_isTold wsL_isLit := goodIn_ca (goodIn_r _ [79, 7, 8, 80, 81, 82, 12, 83, 84, 85, 86, 87, 88, 89, 90, 91, 22, 23, 24, 25, 26, 275, 276, 277, 278, 279, 280, 254, 255, 256, 257, 258, 259, 260, 261, 281, 282, 283] (by decide +kernel) (by decide +kernel)) (goodIn_sub (fun _ h => List.mem_cons_of_mem _ (List.mem_append_left _ (List.mem_append_right _ h))) (by decide +kernel))
set_option maxRecDepth 20000 in
theorem gL_isTold_L_isLit : GoodIn wsL_isTold (va_wsS RL 283 yL_isLit wsL_isLit) := goodIn_app (goodIn_of _ (by decide +kernel)) ggL_isTold_L_isLit
set_option maxRecDepth 20000 in
theorem ggL_isTold_L_waits : GoodIn wsL_isTold wsL_waits := goodIn_ca (goodIn_ca (goodIn_r _ [94, 7, 46, 8, 1, 95, 96, 97, 12, 98, 51, 52, 84, 99, 85, 86, 87, 88, 89, 90, 91, 22, 23, 24, 25, 26, 275, 276, 277, 278, 279, 280, 254, 255, 256, 257, 258, 259, 260, 261, 281, 282, 283] (by decide +kernel) (by decide +kernel)) (goodIn_sub (fun _ h => List.mem_cons_of_mem _ (List.mem_append_right _ h)) (by decide +kernel))) (goodIn_sub (fun _ h => List.mem_cons_of_mem _ (List.mem_append_left _ (List.mem_append_right _ h))) (by decide +kernel))
set_option maxRecDepth 20000 in
theorem gL_isTold_L_waits : GoodIn wsL_isTold (va_wsS RL 285 yL_waits wsL_waits) := goodIn_app (goodIn_of _ (by decide +kernel)) ggL_isTold_L_waits
set_option maxRecDepth 20000 in
theorem ggL_isTold_L_island : GoodIn wsL_isTold wsL_island := goodIn_r _ [102] (by decide +kernel) (by decide +kernel)
set_option maxRecDepth 20000 in
theorem gL_isTold_L_island : GoodIn wsL_isTold (va_wsS RL 181 yL_island wsL_island) := goodIn_app (goodIn_of _ (by decide +kernel)) ggL_isTold_L_island
set_option maxRecDepth 20000 in
theorem ggL_isTold_L_bound_ : GoodIn wsL_isTold wsL_bound_ := goodIn_r _ [105, 106, 107, 108, 109, 2, 110, 111, 112, 113, 114, 5, 115, 100, 101, 102] (by decide +kernel) (by decide +kernel)
set_option maxRecDepth 20000 in
theorem gL_isTold_L_bound_ : GoodIn wsL_isTold (va_wsS RL 210 yL_bound_ wsL_bound_) := goodIn_app (goodIn_of _ (by decide +kernel)) ggL_isTold_L_bound_
set_option maxRecDepth 20000 in
theorem ggL_isTold_L_demand : GoodIn wsL_isTold wsL_demand := goodIn_ca (goodIn_r _ [118, 7, 8, 119, 120, 121, 12, 122, 89, 123, 124, 125, 126, 127, 128, 129, 22, 23, 24, 25, 26, 130, 131, 132, 133, 134, 135, 136, 137, 138, 139, 140, 141, 142, 143, 144, 145, 254, 255, 256, 257, 258, 259, 260, 261, 284, 285, 286, 287, 288, 289, 290, 291, 292, 293, 281, 282, 283, 275, 276, 277, 278, 279, 280] (by decide +kernel) (by decide +kernel)) (goodIn_sub (fun _ h => List.mem_cons_of_mem _ (List.mem_append_left _ (List.mem_append_right _ h))) (by decide +kernel))
set_option maxRecDepth 20000 in
theorem gL_isTold_L_demand : GoodIn wsL_isTold (va_wsS RL 287 yL_demand wsL_demand) := goodIn_app (goodIn_of _ (by decide +kernel)) ggL_isTold_L_demand
set_option maxRecDepth 20000 in
theorem ggL_isTold_L_demand_ : GoodIn wsL_isTold wsL_demand_ := goodIn_r _ [148, 100, 101, 5, 102] (by decide +kernel) (by decide +kernel)
set_option maxRecDepth 20000 in
theorem gL_isTold_L_demand_ : GoodIn wsL_isTold (va_wsS RL 220 yL_demand_ wsL_demand_) := goodIn_app (goodIn_of _ (by decide +kernel)) ggL_isTold_L_demand_
set_option maxRecDepth 20000 in
theorem ggL_isTold_L_bound : GoodIn wsL_isTold wsL_bound := goodIn_ca (goodIn_r _ [151, 7, 8, 152, 153, 154, 12, 155, 123, 124, 125, 126, 127, 128, 129, 22, 23, 24, 25, 26, 156, 157, 158, 159, 19, 66, 160, 161, 111, 108, 112, 162, 163, 164, 165, 166, 167, 168, 169, 170, 171, 172, 173, 174, 175, 176, 177, 178, 179, 180, 181, 182, 183, 184, 185, 186, 187, 188, 189, 190, 107, 109, 191, 192, 193, 194, 195, 196, 197, 198, 199, 200, 201, 202, 203, 204, 205, 206, 207, 208, 209, 210, 211, 212, 254, 255, 256, 257, 258, 259, 260, 261, 284, 285, 286, 287, 288, 289, 290, 291, 292, 293, 262, 263, 264, 265, 266, 246, 247, 248, 249, 250, 251, 252, 253, 272, 273, 274, 267, 268, 269, 270, 271] (by decide +kernel) (by decide +kernel)) (goodIn_sub (fun _ h => List.mem_cons_of_mem _ (List.mem_append_left _ (List.mem_append_right _ h))) (by decide +kernel))
set_option maxRecDepth 20000 in
theorem gL_isTold_L_bound : GoodIn wsL_isTold (va_wsS RL 289 yL_bound wsL_bound) := goodIn_app (goodIn_of _ (by decide +kernel)) ggL_isTold_L_bound
set_option maxRecDepth 20000 in
theorem ggL_isTold_X8_grid : GoodIn wsL_isTold wsX8_grid := goodIn_r _ [216, 217, 218, 254, 255, 256, 257, 258, 259, 260, 261, 294, 295, 296, 297, 298, 299] (by decide +kernel) (by decide +kernel)
set_option maxRecDepth 20000 in
theorem gL_isTold_X8_grid : GoodIn wsL_isTold (wsV RL 291 RX8 yX8_grid wsX8_grid) := goodIn_app (goodIn_of _ (by decide +kernel)) ggL_isTold_X8_grid
set_option maxRecDepth 20000 in
theorem ggL_isTold_X8_burnt : GoodIn wsL_isTold wsX8_burnt := goodIn_r _ [222, 217, 223, 254, 255, 256, 257, 258, 259, 260, 261, 294, 295, 296, 297, 298, 299] (by decide +kernel) (by decide +kernel)
set_option maxRecDepth 20000 in
theorem gL_isTold_X8_burnt : GoodIn wsL_isTold (wsV RL 294 RX8 yX8_burnt wsX8_burnt) := goodIn_app (goodIn_of _ (by decide +kernel)) ggL_isTold_X8_burnt
set_option maxRecDepth 20000 in
theorem ggL_isTold_X8_served : GoodIn wsL_isTold wsX8_served := goodIn_r _ [227, 217, 228, 254, 255, 256, 257, 258, 259, 260, 261, 294, 295, 296, 297, 298, 299] (by decide +kernel) (by decide +kernel)
set_option maxRecDepth 20000 in
theorem gL_isTold_X8_served : GoodIn wsL_isTold (wsV RL 298 RX8 yX8_served wsX8_served) := goodIn_app (goodIn_of _ (by decide +kernel)) ggL_isTold_X8_served
set_option maxRecDepth 20000 in
theorem ggL_isTold_X8_lost : GoodIn wsL_isTold wsX8_lost := goodIn_r _ [232, 217, 233, 254, 255, 256, 257, 258, 259, 260, 261, 294, 295, 296, 297, 298, 299] (by decide +kernel) (by decide +kernel)
set_option maxRecDepth 20000 in
theorem gL_isTold_X8_lost : GoodIn wsL_isTold (wsV RL 301 RX8 yX8_lost wsX8_lost) := goodIn_app (goodIn_of _ (by decide +kernel)) ggL_isTold_X8_lost
set_option maxRecDepth 20000 in
theorem ggL_isTold_L_litShare : GoodIn wsL_isTold wsL_litShare := goodIn_ca (goodIn_r _ [236, 46, 237, 238, 239, 240, 12, 241, 51, 52, 89, 90, 242, 243, 244, 133, 245, 135, 136, 137, 254, 255, 256, 257, 258, 259, 260, 261, 281, 282, 283, 275, 276, 277, 278, 279, 280] (by decide +kernel) (by decide +kernel)) (goodIn_sub (fun _ h => List.mem_cons_of_mem _ (List.mem_append_right _ h)) (by decide +kernel))
set_option maxRecDepth 20000 in
theorem gL_isTold_L_litShare : GoodIn wsL_isTold (va_wsS RL 159 yL_litShare wsL_litShare) := goodIn_app (goodIn_of _ (by decide +kernel)) ggL_isTold_L_litShare
theorem dL_isTold_0 : decode cL_isTold 0 = .ok (.iconst 0, 1) := by decide +kernel
theorem dL_isTold_1 : decode cL_isTold 1 = .ok (.istore_n 2, 1) := by decide +kernel
theorem dL_isTold_2 : decode cL_isTold 2 = .ok (.iconst 0, 1) := by decide +kernel
theorem dL_isTold_3 : decode cL_isTold 3 = .ok (.istore_n 3, 1) := by decide +kernel
theorem dL_isTold_4 : decode cL_isTold 4 = .ok (.iload_n 3, 1) := by decide +kernel
theorem dL_isTold_5 : decode cL_isTold 5 = .ok (.aload_n 1, 1) := by decide +kernel
theorem dL_isTold_6 : decode cL_isTold 6 = .ok (.iconst 2, 1) := by decide +kernel
theorem dL_isTold_7 : decode cL_isTold 7 = .ok (.iaload, 1) := by decide +kernel
theorem dL_isTold_8 : decode cL_isTold 8 = .ok (.if_icmp .ge 119, 3) := by decide +kernel
theorem dL_isTold_11 : decode cL_isTold 11 = .ok (.bipush 50, 2) := by decide +kernel
theorem dL_isTold_13 : decode cL_isTold 13 = .ok (.bipush 9, 2) := by decide +kernel
theorem dL_isTold_15 : decode cL_isTold 15 = .ok (.iload_n 3, 1) := by decide +kernel
theorem dL_isTold_16 : decode cL_isTold 16 = .ok (.imul, 1) := by decide +kernel
theorem dL_isTold_17 : decode cL_isTold 17 = .ok (.iadd, 1) := by decide +kernel
theorem dL_isTold_18 : decode cL_isTold 18 = .ok (.istore 4, 2) := by decide +kernel
theorem dL_isTold_20 : decode cL_isTold 20 = .ok (.aload_n 1, 1) := by decide +kernel
theorem dL_isTold_21 : decode cL_isTold 21 = .ok (.iload 4, 2) := by decide +kernel
theorem dL_isTold_23 : decode cL_isTold 23 = .ok (.iconst 5, 1) := by decide +kernel
theorem dL_isTold_24 : decode cL_isTold 24 = .ok (.iadd, 1) := by decide +kernel
theorem dL_isTold_25 : decode cL_isTold 25 = .ok (.iaload, 1) := by decide +kernel
theorem dL_isTold_26 : decode cL_isTold 26 = .ok (.ifCond .ne 8, 3) := by decide +kernel
theorem dL_isTold_29 : decode cL_isTold 29 = .ok (.bipush 111, 2) := by decide +kernel
theorem dL_isTold_31 : decode cL_isTold 31 = .ok (.goto 20, 3) := by decide +kernel
theorem dL_isTold_34 : decode cL_isTold 34 = .ok (.aload_n 1, 1) := by decide +kernel
theorem dL_isTold_35 : decode cL_isTold 35 = .ok (.iload 4, 2) := by decide +kernel
theorem dL_isTold_37 : decode cL_isTold 37 = .ok (.iconst 5, 1) := by decide +kernel
theorem dL_isTold_38 : decode cL_isTold 38 = .ok (.iadd, 1) := by decide +kernel
theorem dL_isTold_39 : decode cL_isTold 39 = .ok (.iaload, 1) := by decide +kernel
theorem dL_isTold_40 : decode cL_isTold 40 = .ok (.iconst 1, 1) := by decide +kernel
theorem dL_isTold_41 : decode cL_isTold 41 = .ok (.if_icmp .ne 8, 3) := by decide +kernel
theorem dL_isTold_44 : decode cL_isTold 44 = .ok (.bipush 119, 2) := by decide +kernel
theorem dL_isTold_46 : decode cL_isTold 46 = .ok (.goto 5, 3) := by decide +kernel
theorem dL_isTold_49 : decode cL_isTold 49 = .ok (.bipush 114, 2) := by decide +kernel
theorem dL_isTold_51 : decode cL_isTold 51 = .ok (.istore 5, 2) := by decide +kernel
theorem dL_isTold_53 : decode cL_isTold 53 = .ok (.aload_n 0, 1) := by decide +kernel
theorem dL_isTold_54 : decode cL_isTold 54 = .ok (.iload_n 3, 1) := by decide +kernel
theorem dL_isTold_55 : decode cL_isTold 55 = .ok (.invokestatic 271, 3) := by decide +kernel
theorem dL_isTold_58 : decode cL_isTold 58 = .ok (.iload 5, 2) := by decide +kernel
theorem dL_isTold_60 : decode cL_isTold 60 = .ok (.if_icmp .ne 59, 3) := by decide +kernel
theorem dL_isTold_63 : decode cL_isTold 63 = .ok (.aload_n 0, 1) := by decide +kernel
theorem dL_isTold_64 : decode cL_isTold 64 = .ok (.iload_n 3, 1) := by decide +kernel
theorem dL_isTold_65 : decode cL_isTold 65 = .ok (.invokestatic 273, 3) := by decide +kernel
theorem dL_isTold_68 : decode cL_isTold 68 = .ok (.aload_n 1, 1) := by decide +kernel
theorem dL_isTold_69 : decode cL_isTold 69 = .ok (.iload 4, 2) := by decide +kernel
theorem dL_isTold_71 : decode cL_isTold 71 = .ok (.iconst 4, 1) := by decide +kernel
theorem dL_isTold_72 : decode cL_isTold 72 = .ok (.iadd, 1) := by decide +kernel
theorem dL_isTold_73 : decode cL_isTold 73 = .ok (.iaload, 1) := by decide +kernel
theorem dL_isTold_74 : decode cL_isTold 74 = .ok (.if_icmp .ne 45, 3) := by decide +kernel
theorem dL_isTold_77 : decode cL_isTold 77 = .ok (.aload_n 0, 1) := by decide +kernel
theorem dL_isTold_78 : decode cL_isTold 78 = .ok (.iload_n 3, 1) := by decide +kernel
theorem dL_isTold_79 : decode cL_isTold 79 = .ok (.invokestatic 275, 3) := by decide +kernel
theorem dL_isTold_82 : decode cL_isTold 82 = .ok (.aload_n 1, 1) := by decide +kernel
theorem dL_isTold_83 : decode cL_isTold 83 = .ok (.iload 4, 2) := by decide +kernel
theorem dL_isTold_85 : decode cL_isTold 85 = .ok (.bipush 7, 2) := by decide +kernel
theorem dL_isTold_87 : decode cL_isTold 87 = .ok (.iadd, 1) := by decide +kernel
theorem dL_isTold_88 : decode cL_isTold 88 = .ok (.iaload, 1) := by decide +kernel
theorem dL_isTold_89 : decode cL_isTold 89 = .ok (.if_icmp .ne 30, 3) := by decide +kernel
theorem dL_isTold_92 : decode cL_isTold 92 = .ok (.aload_n 0, 1) := by decide +kernel
theorem dL_isTold_93 : decode cL_isTold 93 = .ok (.iload_n 3, 1) := by decide +kernel
theorem dL_isTold_94 : decode cL_isTold 94 = .ok (.invokestatic 277, 3) := by decide +kernel
theorem dL_isTold_97 : decode cL_isTold 97 = .ok (.iload 5, 2) := by decide +kernel
theorem dL_isTold_99 : decode cL_isTold 99 = .ok (.bipush 119, 2) := by decide +kernel
theorem dL_isTold_101 : decode cL_isTold 101 = .ok (.if_icmp .ne 13, 3) := by decide +kernel
theorem dL_isTold_104 : decode cL_isTold 104 = .ok (.aload_n 1, 1) := by decide +kernel
theorem dL_isTold_105 : decode cL_isTold 105 = .ok (.iload 4, 2) := by decide +kernel
theorem dL_isTold_107 : decode cL_isTold 107 = .ok (.bipush 6, 2) := by decide +kernel
theorem dL_isTold_109 : decode cL_isTold 109 = .ok (.iadd, 1) := by decide +kernel
theorem dL_isTold_110 : decode cL_isTold 110 = .ok (.iaload, 1) := by decide +kernel
theorem dL_isTold_111 : decode cL_isTold 111 = .ok (.goto 5, 3) := by decide +kernel
theorem dL_isTold_114 : decode cL_isTold 114 = .ok (.ldc 26, 2) := by decide +kernel
theorem dL_isTold_116 : decode cL_isTold 116 = .ok (.if_icmp .eq 5, 3) := by decide +kernel
theorem dL_isTold_119 : decode cL_isTold 119 = .ok (.iconst 0, 1) := by decide +kernel
theorem dL_isTold_120 : decode cL_isTold 120 = .ok (.ireturn, 1) := by decide +kernel
theorem dL_isTold_121 : decode cL_isTold 121 = .ok (.iinc 3 1, 3) := by decide +kernel
theorem dL_isTold_124 : decode cL_isTold 124 = .ok (.goto (-120), 3) := by decide +kernel
theorem dL_isTold_127 : decode cL_isTold 127 = .ok (.iconst 0, 1) := by decide +kernel
theorem dL_isTold_128 : decode cL_isTold 128 = .ok (.istore_n 3, 1) := by decide +kernel
theorem dL_isTold_129 : decode cL_isTold 129 = .ok (.iload_n 3, 1) := by decide +kernel
theorem dL_isTold_130 : decode cL_isTold 130 = .ok (.aload_n 1, 1) := by decide +kernel
theorem dL_isTold_131 : decode cL_isTold 131 = .ok (.iconst 3, 1) := by decide +kernel
theorem dL_isTold_132 : decode cL_isTold 132 = .ok (.iaload, 1) := by decide +kernel
theorem dL_isTold_133 : decode cL_isTold 133 = .ok (.if_icmp .ge 45, 3) := by decide +kernel
theorem dL_isTold_136 : decode cL_isTold 136 = .ok (.aload_n 0, 1) := by decide +kernel
theorem dL_isTold_137 : decode cL_isTold 137 = .ok (.iload_n 3, 1) := by decide +kernel
theorem dL_isTold_138 : decode cL_isTold 138 = .ok (.invokestatic 279, 3) := by decide +kernel
theorem dL_isTold_141 : decode cL_isTold 141 = .ok (.aload_n 1, 1) := by decide +kernel
theorem dL_isTold_142 : decode cL_isTold 142 = .ok (.bipush 113, 2) := by decide +kernel
theorem dL_isTold_144 : decode cL_isTold 144 = .ok (.bipush 6, 2) := by decide +kernel
theorem dL_isTold_146 : decode cL_isTold 146 = .ok (.iload_n 3, 1) := by decide +kernel
theorem dL_isTold_147 : decode cL_isTold 147 = .ok (.imul, 1) := by decide +kernel
theorem dL_isTold_148 : decode cL_isTold 148 = .ok (.iadd, 1) := by decide +kernel
theorem dL_isTold_149 : decode cL_isTold 149 = .ok (.iaload, 1) := by decide +kernel
theorem dL_isTold_150 : decode cL_isTold 150 = .ok (.if_icmp .ne 20, 3) := by decide +kernel
theorem dL_isTold_153 : decode cL_isTold 153 = .ok (.aload_n 0, 1) := by decide +kernel
theorem dL_isTold_154 : decode cL_isTold 154 = .ok (.iload_n 3, 1) := by decide +kernel
theorem dL_isTold_155 : decode cL_isTold 155 = .ok (.invokestatic 281, 3) := by decide +kernel
theorem dL_isTold_158 : decode cL_isTold 158 = .ok (.aload_n 1, 1) := by decide +kernel
theorem dL_isTold_159 : decode cL_isTold 159 = .ok (.bipush 114, 2) := by decide +kernel
theorem dL_isTold_161 : decode cL_isTold 161 = .ok (.bipush 6, 2) := by decide +kernel
theorem dL_isTold_163 : decode cL_isTold 163 = .ok (.iload_n 3, 1) := by decide +kernel
theorem dL_isTold_164 : decode cL_isTold 164 = .ok (.imul, 1) := by decide +kernel
theorem dL_isTold_165 : decode cL_isTold 165 = .ok (.iadd, 1) := by decide +kernel
theorem dL_isTold_166 : decode cL_isTold 166 = .ok (.iaload, 1) := by decide +kernel
theorem dL_isTold_167 : decode cL_isTold 167 = .ok (.if_icmp .eq 5, 3) := by decide +kernel
theorem dL_isTold_170 : decode cL_isTold 170 = .ok (.iconst 0, 1) := by decide +kernel
theorem dL_isTold_171 : decode cL_isTold 171 = .ok (.ireturn, 1) := by decide +kernel
theorem dL_isTold_172 : decode cL_isTold 172 = .ok (.iinc 3 1, 3) := by decide +kernel
theorem dL_isTold_175 : decode cL_isTold 175 = .ok (.goto (-46), 3) := by decide +kernel
theorem dL_isTold_178 : decode cL_isTold 178 = .ok (.iconst 0, 1) := by decide +kernel
theorem dL_isTold_179 : decode cL_isTold 179 = .ok (.istore_n 3, 1) := by decide +kernel
theorem dL_isTold_180 : decode cL_isTold 180 = .ok (.iload_n 3, 1) := by decide +kernel
theorem dL_isTold_181 : decode cL_isTold 181 = .ok (.aload_n 1, 1) := by decide +kernel
theorem dL_isTold_182 : decode cL_isTold 182 = .ok (.iconst 4, 1) := by decide +kernel
theorem dL_isTold_183 : decode cL_isTold 183 = .ok (.iaload, 1) := by decide +kernel
theorem dL_isTold_184 : decode cL_isTold 184 = .ok (.if_icmp .ge 76, 3) := by decide +kernel
theorem dL_isTold_187 : decode cL_isTold 187 = .ok (.sipush 140, 3) := by decide +kernel
theorem dL_isTold_190 : decode cL_isTold 190 = .ok (.iconst 5, 1) := by decide +kernel
theorem dL_isTold_191 : decode cL_isTold 191 = .ok (.iload_n 3, 1) := by decide +kernel
theorem dL_isTold_192 : decode cL_isTold 192 = .ok (.imul, 1) := by decide +kernel
theorem dL_isTold_193 : decode cL_isTold 193 = .ok (.iadd, 1) := by decide +kernel
theorem dL_isTold_194 : decode cL_isTold 194 = .ok (.istore 4, 2) := by decide +kernel
theorem dL_isTold_196 : decode cL_isTold 196 = .ok (.iload_n 2, 1) := by decide +kernel
theorem dL_isTold_197 : decode cL_isTold 197 = .ok (.iconst 1, 1) := by decide +kernel
theorem dL_isTold_198 : decode cL_isTold 198 = .ok (.aload_n 1, 1) := by decide +kernel
theorem dL_isTold_199 : decode cL_isTold 199 = .ok (.iload 4, 2) := by decide +kernel
theorem dL_isTold_201 : decode cL_isTold 201 = .ok (.iconst 3, 1) := by decide +kernel
theorem dL_isTold_202 : decode cL_isTold 202 = .ok (.iadd, 1) := by decide +kernel
theorem dL_isTold_203 : decode cL_isTold 203 = .ok (.iaload, 1) := by decide +kernel
theorem dL_isTold_204 : decode cL_isTold 204 = .ok (.isub, 1) := by decide +kernel
theorem dL_isTold_205 : decode cL_isTold 205 = .ok (.iadd, 1) := by decide +kernel
theorem dL_isTold_206 : decode cL_isTold 206 = .ok (.istore_n 2, 1) := by decide +kernel
theorem dL_isTold_207 : decode cL_isTold 207 = .ok (.aload_n 0, 1) := by decide +kernel
theorem dL_isTold_208 : decode cL_isTold 208 = .ok (.iload_n 3, 1) := by decide +kernel
theorem dL_isTold_209 : decode cL_isTold 209 = .ok (.invokestatic 283, 3) := by decide +kernel
theorem dL_isTold_212 : decode cL_isTold 212 = .ok (.iconst 1, 1) := by decide +kernel
theorem dL_isTold_213 : decode cL_isTold 213 = .ok (.aload_n 1, 1) := by decide +kernel
theorem dL_isTold_214 : decode cL_isTold 214 = .ok (.iload 4, 2) := by decide +kernel
theorem dL_isTold_216 : decode cL_isTold 216 = .ok (.iconst 3, 1) := by decide +kernel
theorem dL_isTold_217 : decode cL_isTold 217 = .ok (.iadd, 1) := by decide +kernel
theorem dL_isTold_218 : decode cL_isTold 218 = .ok (.iaload, 1) := by decide +kernel
theorem dL_isTold_219 : decode cL_isTold 219 = .ok (.isub, 1) := by decide +kernel
theorem dL_isTold_220 : decode cL_isTold 220 = .ok (.if_icmp .ne 32, 3) := by decide +kernel
theorem dL_isTold_223 : decode cL_isTold 223 = .ok (.aload_n 0, 1) := by decide +kernel
theorem dL_isTold_224 : decode cL_isTold 224 = .ok (.iload_n 3, 1) := by decide +kernel
theorem dL_isTold_225 : decode cL_isTold 225 = .ok (.invokestatic 285, 3) := by decide +kernel
theorem dL_isTold_228 : decode cL_isTold 228 = .ok (.aload_n 1, 1) := by decide +kernel
theorem dL_isTold_229 : decode cL_isTold 229 = .ok (.iload 4, 2) := by decide +kernel
theorem dL_isTold_231 : decode cL_isTold 231 = .ok (.iconst 3, 1) := by decide +kernel
theorem dL_isTold_232 : decode cL_isTold 232 = .ok (.iadd, 1) := by decide +kernel
theorem dL_isTold_233 : decode cL_isTold 233 = .ok (.iaload, 1) := by decide +kernel
theorem dL_isTold_234 : decode cL_isTold 234 = .ok (.iconst 1, 1) := by decide +kernel
theorem dL_isTold_235 : decode cL_isTold 235 = .ok (.if_icmp .ne 12, 3) := by decide +kernel
theorem dL_isTold_238 : decode cL_isTold 238 = .ok (.aload_n 1, 1) := by decide +kernel
theorem dL_isTold_239 : decode cL_isTold 239 = .ok (.iload 4, 2) := by decide +kernel
theorem dL_isTold_241 : decode cL_isTold 241 = .ok (.iconst 4, 1) := by decide +kernel
theorem dL_isTold_242 : decode cL_isTold 242 = .ok (.iadd, 1) := by decide +kernel
theorem dL_isTold_243 : decode cL_isTold 243 = .ok (.iaload, 1) := by decide +kernel
theorem dL_isTold_244 : decode cL_isTold 244 = .ok (.goto 5, 3) := by decide +kernel
theorem dL_isTold_247 : decode cL_isTold 247 = .ok (.ldc 26, 2) := by decide +kernel
theorem dL_isTold_249 : decode cL_isTold 249 = .ok (.if_icmp .eq 5, 3) := by decide +kernel
theorem dL_isTold_252 : decode cL_isTold 252 = .ok (.iconst 0, 1) := by decide +kernel
theorem dL_isTold_253 : decode cL_isTold 253 = .ok (.ireturn, 1) := by decide +kernel
theorem dL_isTold_254 : decode cL_isTold 254 = .ok (.iinc 3 1, 3) := by decide +kernel
theorem dL_isTold_257 : decode cL_isTold 257 = .ok (.goto (-77), 3) := by decide +kernel
theorem dL_isTold_260 : decode cL_isTold 260 = .ok (.iconst 0, 1) := by decide +kernel
theorem dL_isTold_261 : decode cL_isTold 261 = .ok (.istore_n 3, 1) := by decide +kernel
theorem dL_isTold_262 : decode cL_isTold 262 = .ok (.iload_n 3, 1) := by decide +kernel
theorem dL_isTold_263 : decode cL_isTold 263 = .ok (.aload_n 1, 1) := by decide +kernel
theorem dL_isTold_264 : decode cL_isTold 264 = .ok (.iconst 0, 1) := by decide +kernel
theorem dL_isTold_265 : decode cL_isTold 265 = .ok (.iaload, 1) := by decide +kernel
theorem dL_isTold_266 : decode cL_isTold 266 = .ok (.if_icmp .ge 61, 3) := by decide +kernel
theorem dL_isTold_269 : decode cL_isTold 269 = .ok (.aload_n 1, 1) := by decide +kernel
theorem dL_isTold_270 : decode cL_isTold 270 = .ok (.iload_n 3, 1) := by decide +kernel
theorem dL_isTold_271 : decode cL_isTold 271 = .ok (.invokestatic 181, 3) := by decide +kernel
theorem dL_isTold_274 : decode cL_isTold 274 = .ok (.istore 4, 2) := by decide +kernel
theorem dL_isTold_276 : decode cL_isTold 276 = .ok (.aload_n 1, 1) := by decide +kernel
theorem dL_isTold_277 : decode cL_isTold 277 = .ok (.iload 4, 2) := by decide +kernel
theorem dL_isTold_279 : decode cL_isTold 279 = .ok (.invokestatic 210, 3) := by decide +kernel
theorem dL_isTold_282 : decode cL_isTold 282 = .ok (.istore 5, 2) := by decide +kernel
theorem dL_isTold_284 : decode cL_isTold 284 = .ok (.aload_n 0, 1) := by decide +kernel
theorem dL_isTold_285 : decode cL_isTold 285 = .ok (.iload_n 3, 1) := by decide +kernel
theorem dL_isTold_286 : decode cL_isTold 286 = .ok (.invokestatic 287, 3) := by decide +kernel
theorem dL_isTold_289 : decode cL_isTold 289 = .ok (.aload_n 1, 1) := by decide +kernel
theorem dL_isTold_290 : decode cL_isTold 290 = .ok (.iload 4, 2) := by decide +kernel
theorem dL_isTold_292 : decode cL_isTold 292 = .ok (.invokestatic 220, 3) := by decide +kernel
theorem dL_isTold_295 : decode cL_isTold 295 = .ok (.if_icmp .ne 24, 3) := by decide +kernel
theorem dL_isTold_298 : decode cL_isTold 298 = .ok (.aload_n 0, 1) := by decide +kernel
theorem dL_isTold_299 : decode cL_isTold 299 = .ok (.iload_n 3, 1) := by decide +kernel
theorem dL_isTold_300 : decode cL_isTold 300 = .ok (.invokestatic 289, 3) := by decide +kernel
theorem dL_isTold_303 : decode cL_isTold 303 = .ok (.iload 5, 2) := by decide +kernel
theorem dL_isTold_305 : decode cL_isTold 305 = .ok (.ldc 205, 2) := by decide +kernel
theorem dL_isTold_307 : decode cL_isTold 307 = .ok (.if_icmp .ne 7, 3) := by decide +kernel
theorem dL_isTold_310 : decode cL_isTold 310 = .ok (.iconst (-1), 1) := by decide +kernel
theorem dL_isTold_311 : decode cL_isTold 311 = .ok (.goto 5, 3) := by decide +kernel
theorem dL_isTold_314 : decode cL_isTold 314 = .ok (.iload 5, 2) := by decide +kernel
theorem dL_isTold_316 : decode cL_isTold 316 = .ok (.if_icmp .eq 5, 3) := by decide +kernel
theorem dL_isTold_319 : decode cL_isTold 319 = .ok (.iconst 0, 1) := by decide +kernel
theorem dL_isTold_320 : decode cL_isTold 320 = .ok (.ireturn, 1) := by decide +kernel
theorem dL_isTold_321 : decode cL_isTold 321 = .ok (.iinc 3 1, 3) := by decide +kernel
theorem dL_isTold_324 : decode cL_isTold 324 = .ok (.goto (-62), 3) := by decide +kernel
theorem dL_isTold_327 : decode cL_isTold 327 = .ok (.aload_n 0, 1) := by decide +kernel
theorem dL_isTold_328 : decode cL_isTold 328 = .ok (.invokevirtual 291, 3) := by decide +kernel
theorem dL_isTold_331 : decode cL_isTold 331 = .ok (.aload_n 1, 1) := by decide +kernel
theorem dL_isTold_332 : decode cL_isTold 332 = .ok (.bipush 9, 2) := by decide +kernel
theorem dL_isTold_334 : decode cL_isTold 334 = .ok (.iaload, 1) := by decide +kernel
theorem dL_isTold_335 : decode cL_isTold 335 = .ok (.if_icmp .ne 64, 3) := by decide +kernel
theorem dL_isTold_338 : decode cL_isTold 338 = .ok (.aload_n 0, 1) := by decide +kernel
theorem dL_isTold_339 : decode cL_isTold 339 = .ok (.invokevirtual 294, 3) := by decide +kernel
theorem dL_isTold_342 : decode cL_isTold 342 = .ok (.aload_n 1, 1) := by decide +kernel
theorem dL_isTold_343 : decode cL_isTold 343 = .ok (.sipush 200, 3) := by decide +kernel
theorem dL_isTold_346 : decode cL_isTold 346 = .ok (.iaload, 1) := by decide +kernel
theorem dL_isTold_347 : decode cL_isTold 347 = .ok (.i2l, 1) := by decide +kernel
theorem dL_isTold_348 : decode cL_isTold 348 = .ok (.lcmp, 1) := by decide +kernel
theorem dL_isTold_349 : decode cL_isTold 349 = .ok (.ifCond .ne 50, 3) := by decide +kernel
theorem dL_isTold_352 : decode cL_isTold 352 = .ok (.aload_n 0, 1) := by decide +kernel
theorem dL_isTold_353 : decode cL_isTold 353 = .ok (.invokevirtual 298, 3) := by decide +kernel
theorem dL_isTold_356 : decode cL_isTold 356 = .ok (.aload_n 1, 1) := by decide +kernel
theorem dL_isTold_357 : decode cL_isTold 357 = .ok (.sipush 201, 3) := by decide +kernel
theorem dL_isTold_360 : decode cL_isTold 360 = .ok (.iaload, 1) := by decide +kernel
theorem dL_isTold_361 : decode cL_isTold 361 = .ok (.i2l, 1) := by decide +kernel
theorem dL_isTold_362 : decode cL_isTold 362 = .ok (.lcmp, 1) := by decide +kernel
theorem dL_isTold_363 : decode cL_isTold 363 = .ok (.ifCond .ne 36, 3) := by decide +kernel
theorem dL_isTold_366 : decode cL_isTold 366 = .ok (.aload_n 0, 1) := by decide +kernel
theorem dL_isTold_367 : decode cL_isTold 367 = .ok (.invokevirtual 301, 3) := by decide +kernel
theorem dL_isTold_370 : decode cL_isTold 370 = .ok (.aload_n 1, 1) := by decide +kernel
theorem dL_isTold_371 : decode cL_isTold 371 = .ok (.sipush 202, 3) := by decide +kernel
theorem dL_isTold_374 : decode cL_isTold 374 = .ok (.iaload, 1) := by decide +kernel
theorem dL_isTold_375 : decode cL_isTold 375 = .ok (.i2l, 1) := by decide +kernel
theorem dL_isTold_376 : decode cL_isTold 376 = .ok (.lcmp, 1) := by decide +kernel
theorem dL_isTold_377 : decode cL_isTold 377 = .ok (.ifCond .ne 22, 3) := by decide +kernel
theorem dL_isTold_380 : decode cL_isTold 380 = .ok (.aload_n 0, 1) := by decide +kernel
theorem dL_isTold_381 : decode cL_isTold 381 = .ok (.invokestatic 159, 3) := by decide +kernel
theorem dL_isTold_384 : decode cL_isTold 384 = .ok (.iload_n 2, 1) := by decide +kernel
theorem dL_isTold_385 : decode cL_isTold 385 = .ok (.i2f, 1) := by decide +kernel
theorem dL_isTold_386 : decode cL_isTold 386 = .ok (.aload_n 1, 1) := by decide +kernel
theorem dL_isTold_387 : decode cL_isTold 387 = .ok (.iconst 4, 1) := by decide +kernel
theorem dL_isTold_388 : decode cL_isTold 388 = .ok (.iaload, 1) := by decide +kernel
theorem dL_isTold_389 : decode cL_isTold 389 = .ok (.i2f, 1) := by decide +kernel
theorem dL_isTold_390 : decode cL_isTold 390 = .ok (.fdiv, 1) := by decide +kernel
theorem dL_isTold_391 : decode cL_isTold 391 = .ok (.fcmp .l, 1) := by decide +kernel
theorem dL_isTold_392 : decode cL_isTold 392 = .ok (.ifCond .ne 7, 3) := by decide +kernel
theorem dL_isTold_395 : decode cL_isTold 395 = .ok (.iconst 1, 1) := by decide +kernel
theorem dL_isTold_396 : decode cL_isTold 396 = .ok (.goto 4, 3) := by decide +kernel
theorem dL_isTold_399 : decode cL_isTold 399 = .ok (.iconst 0, 1) := by decide +kernel
theorem dL_isTold_400 : decode cL_isTold 400 = .ok (.ireturn, 1) := by decide +kernel
