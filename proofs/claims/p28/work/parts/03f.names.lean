theorem dL_works_269 : decode cL_works 269 = .ok (.iconst 1, 1) := by decide +kernel
theorem dL_works_270 : decode cL_works 270 = .ok (.iload 4, 2) := by decide +kernel
theorem dL_works_272 : decode cL_works 272 = .ok (.iconst 3, 1) := by decide +kernel
theorem dL_works_273 : decode cL_works 273 = .ok (.ishr, 1) := by decide +kernel
theorem dL_works_274 : decode cL_works 274 = .ok (.bipush 60, 2) := by decide +kernel
theorem dL_works_276 : decode cL_works 276 = .ok (.invokestatic 123, 3) := by decide +kernel
theorem dL_works_279 : decode cL_works 279 = .ok (.iadd, 1) := by decide +kernel
theorem dL_works_280 : decode cL_works 280 = .ok (.istore 10, 2) := by decide +kernel
theorem dL_works_282 : decode cL_works 282 = .ok (.aload_n 0, 1) := by decide +kernel
theorem dL_works_283 : decode cL_works 283 = .ok (.iload 4, 2) := by decide +kernel
theorem dL_works_285 : decode cL_works 285 = .ok (.bipush 9, 2) := by decide +kernel
theorem dL_works_287 : decode cL_works 287 = .ok (.ishr, 1) := by decide +kernel
theorem dL_works_288 : decode cL_works 288 = .ok (.aload_n 1, 1) := by decide +kernel
theorem dL_works_289 : decode cL_works 289 = .ok (.iconst 2, 1) := by decide +kernel
theorem dL_works_290 : decode cL_works 290 = .ok (.iaload, 1) := by decide +kernel
theorem dL_works_291 : decode cL_works 291 = .ok (.invokestatic 123, 3) := by decide +kernel
theorem dL_works_294 : decode cL_works 294 = .ok (.iload 6, 2) := by decide +kernel
theorem dL_works_296 : decode cL_works 296 = .ok (.iload 10, 2) := by decide +kernel
theorem dL_works_298 : decode cL_works 298 = .ok (.invokestatic 145, 3) := by decide +kernel
theorem dL_works_301 : decode cL_works 301 = .ok (.istore 11, 2) := by decide +kernel
theorem dL_works_303 : decode cL_works 303 = .ok (.iload 11, 2) := by decide +kernel
theorem dL_works_305 : decode cL_works 305 = .ok (.ifCond .le 39, 3) := by decide +kernel
theorem dL_works_308 : decode cL_works 308 = .ok (.iload 11, 2) := by decide +kernel
theorem dL_works_310 : decode cL_works 310 = .ok (.sipush 400, 3) := by decide +kernel
theorem dL_works_313 : decode cL_works 313 = .ok (.if_icmp .gt 31, 3) := by decide +kernel
theorem dL_works_316 : decode cL_works 316 = .ok (.aload_n 0, 1) := by decide +kernel
theorem dL_works_317 : decode cL_works 317 = .ok (.iload 4, 2) := by decide +kernel
theorem dL_works_319 : decode cL_works 319 = .ok (.bipush 9, 2) := by decide +kernel
theorem dL_works_321 : decode cL_works 321 = .ok (.ishr, 1) := by decide +kernel
theorem dL_works_322 : decode cL_works 322 = .ok (.aload_n 1, 1) := by decide +kernel
theorem dL_works_323 : decode cL_works 323 = .ok (.iconst 2, 1) := by decide +kernel
theorem dL_works_324 : decode cL_works 324 = .ok (.iaload, 1) := by decide +kernel
theorem dL_works_325 : decode cL_works 325 = .ok (.invokestatic 123, 3) := by decide +kernel
theorem dL_works_328 : decode cL_works 328 = .ok (.iload 6, 2) := by decide +kernel
theorem dL_works_330 : decode cL_works 330 = .ok (.iload 10, 2) := by decide +kernel
theorem dL_works_332 : decode cL_works 332 = .ok (.invokestatic 145, 3) := by decide +kernel
theorem dL_works_335 : decode cL_works 335 = .ok (.iload 10, 2) := by decide +kernel
theorem dL_works_337 : decode cL_works 337 = .ok (.if_icmp .ne 7, 3) := by decide +kernel
theorem dL_works_340 : decode cL_works 340 = .ok (.iconst 1, 1) := by decide +kernel
theorem dL_works_341 : decode cL_works 341 = .ok (.goto 4, 3) := by decide +kernel
theorem dL_works_344 : decode cL_works 344 = .ok (.iconst 0, 1) := by decide +kernel
theorem dL_works_345 : decode cL_works 345 = .ok (.ireturn, 1) := by decide +kernel
theorem dL_works_346 : decode cL_works 346 = .ok (.aload_n 1, 1) := by decide +kernel
theorem dL_works_347 : decode cL_works 347 = .ok (.iconst 2, 1) := by decide +kernel
theorem dL_works_348 : decode cL_works 348 = .ok (.iaload, 1) := by decide +kernel
theorem dL_works_349 : decode cL_works 349 = .ok (.ifCond .ne 21, 3) := by decide +kernel
theorem dL_works_352 : decode cL_works 352 = .ok (.aload_n 0, 1) := by decide +kernel
theorem dL_works_353 : decode cL_works 353 = .ok (.iload_n 2, 1) := by decide +kernel
theorem dL_works_354 : decode cL_works 354 = .ok (.iconst 0, 1) := by decide +kernel
theorem dL_works_355 : decode cL_works 355 = .ok (.iconst 1, 1) := by decide +kernel
theorem dL_works_356 : decode cL_works 356 = .ok (.invokestatic 147, 3) := by decide +kernel
theorem dL_works_359 : decode cL_works 359 = .ok (.ldc 18, 2) := by decide +kernel
theorem dL_works_361 : decode cL_works 361 = .ok (.if_icmp .ne 7, 3) := by decide +kernel
theorem dL_works_364 : decode cL_works 364 = .ok (.iconst 1, 1) := by decide +kernel
theorem dL_works_365 : decode cL_works 365 = .ok (.goto 4, 3) := by decide +kernel
theorem dL_works_368 : decode cL_works 368 = .ok (.iconst 0, 1) := by decide +kernel
theorem dL_works_369 : decode cL_works 369 = .ok (.ireturn, 1) := by decide +kernel
theorem dL_works_370 : decode cL_works 370 = .ok (.iload 4, 2) := by decide +kernel
theorem dL_works_372 : decode cL_works 372 = .ok (.aload_n 1, 1) := by decide +kernel
theorem dL_works_373 : decode cL_works 373 = .ok (.iconst 2, 1) := by decide +kernel
theorem dL_works_374 : decode cL_works 374 = .ok (.iaload, 1) := by decide +kernel
theorem dL_works_375 : decode cL_works 375 = .ok (.invokestatic 123, 3) := by decide +kernel
theorem dL_works_378 : decode cL_works 378 = .ok (.istore 10, 2) := by decide +kernel
theorem dL_works_380 : decode cL_works 380 = .ok (.aload_n 0, 1) := by decide +kernel
theorem dL_works_381 : decode cL_works 381 = .ok (.iload_n 2, 1) := by decide +kernel
theorem dL_works_382 : decode cL_works 382 = .ok (.iload 10, 2) := by decide +kernel
theorem dL_works_384 : decode cL_works 384 = .ok (.iconst 1, 1) := by decide +kernel
theorem dL_works_385 : decode cL_works 385 = .ok (.iload 4, 2) := by decide +kernel
theorem dL_works_387 : decode cL_works 387 = .ok (.iconst 3, 1) := by decide +kernel
theorem dL_works_388 : decode cL_works 388 = .ok (.ishr, 1) := by decide +kernel
theorem dL_works_389 : decode cL_works 389 = .ok (.bipush 50, 2) := by decide +kernel
theorem dL_works_391 : decode cL_works 391 = .ok (.invokestatic 123, 3) := by decide +kernel
theorem dL_works_394 : decode cL_works 394 = .ok (.iadd, 1) := by decide +kernel
theorem dL_works_395 : decode cL_works 395 = .ok (.invokestatic 147, 3) := by decide +kernel
theorem dL_works_398 : decode cL_works 398 = .ok (.istore 11, 2) := by decide +kernel
theorem dL_works_400 : decode cL_works 400 = .ok (.iload 11, 2) := by decide +kernel
theorem dL_works_402 : decode cL_works 402 = .ok (.ifCond .ge 70, 3) := by decide +kernel
theorem dL_works_405 : decode cL_works 405 = .ok (.iload 11, 2) := by decide +kernel
theorem dL_works_407 : decode cL_works 407 = .ok (.iconst (-1), 1) := by decide +kernel
theorem dL_works_408 : decode cL_works 408 = .ok (.if_icmp .ne 25, 3) := by decide +kernel
theorem dL_works_411 : decode cL_works 411 = .ok (.iload 9, 2) := by decide +kernel
theorem dL_works_413 : decode cL_works 413 = .ok (.sipush 700, 3) := by decide +kernel
theorem dL_works_416 : decode cL_works 416 = .ok (.if_icmp .ge 54, 3) := by decide +kernel
theorem dL_works_419 : decode cL_works 419 = .ok (.aload_n 0, 1) := by decide +kernel
theorem dL_works_420 : decode cL_works 420 = .ok (.iload_n 2, 1) := by decide +kernel
theorem dL_works_421 : decode cL_works 421 = .ok (.bipush 6, 2) := by decide +kernel
theorem dL_works_423 : decode cL_works 423 = .ok (.invokestatic 100, 3) := by decide +kernel
theorem dL_works_426 : decode cL_works 426 = .ok (.iconst 1, 1) := by decide +kernel
theorem dL_works_427 : decode cL_works 427 = .ok (.if_icmp .ne 43, 3) := by decide +kernel
theorem dL_works_430 : decode cL_works 430 = .ok (.goto 25, 3) := by decide +kernel
theorem dL_works_433 : decode cL_works 433 = .ok (.iload 11, 2) := by decide +kernel
theorem dL_works_435 : decode cL_works 435 = .ok (.ldc 28, 2) := by decide +kernel
theorem dL_works_437 : decode cL_works 437 = .ok (.if_icmp .ne 33, 3) := by decide +kernel
theorem dL_works_440 : decode cL_works 440 = .ok (.iload 8, 2) := by decide +kernel
theorem dL_works_442 : decode cL_works 442 = .ok (.iconst 1, 1) := by decide +kernel
theorem dL_works_443 : decode cL_works 443 = .ok (.if_icmp .eq 12, 3) := by decide +kernel
theorem dL_works_446 : decode cL_works 446 = .ok (.aload_n 0, 1) := by decide +kernel
theorem dL_works_447 : decode cL_works 447 = .ok (.iload 10, 2) := by decide +kernel
theorem dL_works_449 : decode cL_works 449 = .ok (.invokestatic 149, 3) := by decide +kernel
theorem dL_works_452 : decode cL_works 452 = .ok (.ifCond .ne 18, 3) := by decide +kernel
theorem dL_works_455 : decode cL_works 455 = .ok (.aload_n 0, 1) := by decide +kernel
theorem dL_works_456 : decode cL_works 456 = .ok (.iload_n 2, 1) := by decide +kernel
theorem dL_works_457 : decode cL_works 457 = .ok (.iconst 2, 1) := by decide +kernel
theorem dL_works_458 : decode cL_works 458 = .ok (.invokestatic 100, 3) := by decide +kernel
theorem dL_works_461 : decode cL_works 461 = .ok (.iload 7, 2) := by decide +kernel
theorem dL_works_463 : decode cL_works 463 = .ok (.if_icmp .ne 7, 3) := by decide +kernel
theorem dL_works_466 : decode cL_works 466 = .ok (.iconst 1, 1) := by decide +kernel
theorem dL_works_467 : decode cL_works 467 = .ok (.goto 4, 3) := by decide +kernel
theorem dL_works_470 : decode cL_works 470 = .ok (.iconst 0, 1) := by decide +kernel
theorem dL_works_471 : decode cL_works 471 = .ok (.ireturn, 1) := by decide +kernel
theorem dL_works_472 : decode cL_works 472 = .ok (.aload_n 0, 1) := by decide +kernel
theorem dL_works_473 : decode cL_works 473 = .ok (.iload 10, 2) := by decide +kernel
theorem dL_works_475 : decode cL_works 475 = .ok (.invokestatic 149, 3) := by decide +kernel
theorem dL_works_478 : decode cL_works 478 = .ok (.istore 12, 2) := by decide +kernel
theorem dL_works_480 : decode cL_works 480 = .ok (.iload 8, 2) := by decide +kernel
theorem dL_works_482 : decode cL_works 482 = .ok (.ifCond .ne 64, 3) := by decide +kernel
theorem dL_works_485 : decode cL_works 485 = .ok (.iload 9, 2) := by decide +kernel
theorem dL_works_487 : decode cL_works 487 = .ok (.sipush 700, 3) := by decide +kernel
theorem dL_works_490 : decode cL_works 490 = .ok (.if_icmp .lt 56, 3) := by decide +kernel
theorem dL_works_493 : decode cL_works 493 = .ok (.iload 11, 2) := by decide +kernel
theorem dL_works_495 : decode cL_works 495 = .ok (.bipush 9, 2) := by decide +kernel
theorem dL_works_497 : decode cL_works 497 = .ok (.if_icmp .ge 49, 3) := by decide +kernel
theorem dL_works_500 : decode cL_works 500 = .ok (.iload 12, 2) := by decide +kernel
theorem dL_works_502 : decode cL_works 502 = .ok (.ifCond .lt 44, 3) := by decide +kernel
theorem dL_works_505 : decode cL_works 505 = .ok (.iload 12, 2) := by decide +kernel
theorem dL_works_507 : decode cL_works 507 = .ok (.bipush 100, 2) := by decide +kernel
theorem dL_works_509 : decode cL_works 509 = .ok (.if_icmp .ge 37, 3) := by decide +kernel
theorem dL_works_512 : decode cL_works 512 = .ok (.iload 11, 2) := by decide +kernel
theorem dL_works_514 : decode cL_works 514 = .ok (.ifCond .ne 17, 3) := by decide +kernel
theorem dL_works_517 : decode cL_works 517 = .ok (.aload_n 0, 1) := by decide +kernel
theorem dL_works_518 : decode cL_works 518 = .ok (.iload_n 2, 1) := by decide +kernel
theorem dL_works_519 : decode cL_works 519 = .ok (.iconst 2, 1) := by decide +kernel
theorem dL_works_520 : decode cL_works 520 = .ok (.invokestatic 100, 3) := by decide +kernel
theorem dL_works_523 : decode cL_works 523 = .ok (.iload 7, 2) := by decide +kernel
theorem dL_works_525 : decode cL_works 525 = .ok (.if_icmp .gt 21, 3) := by decide +kernel
theorem dL_works_528 : decode cL_works 528 = .ok (.goto 14, 3) := by decide +kernel
theorem dL_works_531 : decode cL_works 531 = .ok (.aload_n 0, 1) := by decide +kernel
theorem dL_works_532 : decode cL_works 532 = .ok (.iload_n 2, 1) := by decide +kernel
theorem dL_works_533 : decode cL_works 533 = .ok (.iconst 2, 1) := by decide +kernel
theorem dL_works_534 : decode cL_works 534 = .ok (.invokestatic 100, 3) := by decide +kernel
theorem dL_works_537 : decode cL_works 537 = .ok (.iload 7, 2) := by decide +kernel
theorem dL_works_539 : decode cL_works 539 = .ok (.if_icmp .ne 7, 3) := by decide +kernel
theorem dL_works_542 : decode cL_works 542 = .ok (.iconst 1, 1) := by decide +kernel
theorem dL_works_543 : decode cL_works 543 = .ok (.goto 4, 3) := by decide +kernel
theorem dL_works_546 : decode cL_works 546 = .ok (.iconst 0, 1) := by decide +kernel
theorem dL_works_547 : decode cL_works 547 = .ok (.ireturn, 1) := by decide +kernel
set_option maxRecDepth 20000 in
theorem ggL_quenches_L_low : GoodIn wsL_quenches wsL_low := goodIn_r _ [5, 6] (by decide +kernel) (by decide +kernel)
set_option maxRecDepth 20000 in
theorem gL_quenches_L_low : GoodIn wsL_quenches (va_wsS RL 123 yL_low wsL_low) := goodIn_app (goodIn_of _ (by decide +kernel)) ggL_quenches_L_low
set_option maxRecDepth 20000 in
theorem ggL_quenches_L_billetIs : GoodIn wsL_quenches wsL_billetIs := goodIn_ca (goodIn_ca (goodIn_r _ [9, 10, 11, 12, 13, 14, 15, 16, 17, 18, 19, 20, 21, 22, 23, 24, 25, 26, 27, 28, 29, 30, 31, 32, 33, 34, 35, 36, 37, 38, 39, 40, 41, 42, 43, 44, 45, 46, 47, 48, 49, 50, 51, 52, 53, 54, 55, 56, 57, 58, 59, 60, 61, 62, 63, 64, 65, 161, 162, 163, 164, 165, 166, 167, 168, 169, 170, 171, 172, 173, 174, 175, 176, 177, 178, 179, 180, 181, 182, 183, 184, 185, 186, 187, 188, 189] (by decide +kernel) (by decide +kernel)) (goodIn_sub (fun _ h => List.mem_cons_of_mem _ (List.mem_append_left _ (List.mem_append_left _ (List.mem_append_right _ h)))) (by decide +kernel))) (goodIn_sub (fun _ h => List.mem_cons_of_mem _ (List.mem_append_left _ (List.mem_append_right _ h))) (by decide +kernel))
set_option maxRecDepth 20000 in
theorem gL_quenches_L_billetIs : GoodIn wsL_quenches (va_wsS RL 100 yL_billetIs wsL_billetIs) := goodIn_app (goodIn_of _ (by decide +kernel)) ggL_quenches_L_billetIs
set_option maxRecDepth 20000 in
theorem ggL_quenches_L_quench : GoodIn wsL_quenches wsL_quench := goodIn_ca (goodIn_ca (goodIn_r _ [68, 11, 69, 13, 1, 70, 71, 72, 17, 73, 19, 20, 74, 75, 35, 76, 36, 37, 38, 39, 40, 41, 42, 77, 78, 79, 80, 22, 26, 43, 44, 45, 46, 47, 48, 49, 50, 51, 52, 53, 54, 55, 56, 57, 58, 59, 81, 82, 83, 84, 85, 86, 63, 87, 65, 88, 89, 90, 91, 92, 93, 94, 95, 96, 97, 98, 99, 100, 101, 102, 103, 104, 105, 106, 107, 108, 109, 110, 111, 179, 180, 181, 182, 183, 184, 185, 186, 187, 188, 189, 161, 162, 163, 164, 165, 166, 167, 168, 169, 170, 171, 172, 173, 174, 175, 176, 177, 178, 190, 191, 192] (by decide +kernel) (by decide +kernel)) (goodIn_sub (fun _ h => List.mem_cons_of_mem _ (List.mem_append_left _ (List.mem_append_left _ (List.mem_append_right _ h)))) (by decide +kernel))) (goodIn_sub (fun _ h => List.mem_cons_of_mem _ (List.mem_append_right _ h)) (by decide +kernel))
set_option maxRecDepth 20000 in
theorem gL_quenches_L_quench : GoodIn wsL_quenches (va_wsS RL 151 yL_quench wsL_quench) := goodIn_app (goodIn_of _ (by decide +kernel)) ggL_quenches_L_quench
set_option maxRecDepth 20000 in
theorem ggL_quenches_L_hardness : GoodIn wsL_quenches wsL_hardness := goodIn_ca (goodIn_r _ [114, 10, 12, 115, 116, 117, 17, 118, 29, 30, 31, 32, 33, 34, 35, 36, 37, 38, 39, 40, 41, 42, 43, 44, 45, 46, 47, 48, 49, 50, 51, 52, 53, 54, 55, 56, 57, 58, 59, 119, 120, 121, 122, 123, 124, 63, 125, 103, 92, 102, 96, 97, 90, 98, 179, 180, 181, 182, 183, 184, 185, 186, 187, 188, 189, 161, 162, 163, 164, 165, 166, 167, 168, 169, 170, 171, 172, 173, 174, 175, 176, 177, 178] (by decide +kernel) (by decide +kernel)) (goodIn_sub (fun _ h => List.mem_cons_of_mem _ (List.mem_append_left _ (List.mem_append_right _ h))) (by decide +kernel))
set_option maxRecDepth 20000 in
theorem gL_quenches_L_hardness : GoodIn wsL_quenches (va_wsS RL 110 yL_hardness wsL_hardness) := goodIn_app (goodIn_of _ (by decide +kernel)) ggL_quenches_L_hardness
set_option maxRecDepth 20000 in
theorem ggL_quenches_L_temper : GoodIn wsL_quenches wsL_temper := goodIn_ca (goodIn_ca (goodIn_ca (goodIn_r _ [128, 10, 11, 69, 12, 13, 1, 129, 130, 131, 17, 132, 19, 20, 74, 75, 28, 133, 134, 97, 90, 98, 29, 30, 31, 32, 33, 34, 35, 36, 37, 38, 39, 40, 41, 42, 43, 44, 45, 46, 47, 48, 49, 50, 51, 52, 53, 54, 55, 56, 57, 58, 59, 135, 136, 137, 138, 139, 140, 141, 142, 63, 143, 88, 89, 91, 144, 123, 124, 125, 103, 92, 102, 96, 161, 162, 163, 164, 165, 166, 167, 168, 169, 170, 171, 172, 173, 174, 175, 176, 177, 178, 179, 180, 181, 182, 183, 184, 185, 186, 187, 188, 189] (by decide +kernel) (by decide +kernel)) (goodIn_sub (fun _ h => List.mem_cons_of_mem _ (List.mem_append_left _ (List.mem_append_left _ (List.mem_append_right _ h)))) (by decide +kernel))) (goodIn_sub (fun _ h => List.mem_cons_of_mem _ (List.mem_append_right _ h)) (by decide +kernel))) (goodIn_sub (fun _ h => List.mem_cons_of_mem _ (List.mem_append_left _ (List.mem_append_right _ h))) (by decide +kernel))
set_option maxRecDepth 20000 in
theorem gL_quenches_L_temper : GoodIn wsL_quenches (va_wsS RL 136 yL_temper wsL_temper) := goodIn_app (goodIn_of _ (by decide +kernel)) ggL_quenches_L_temper
set_option maxRecDepth 20000 in
theorem ggL_quenches_L_test : GoodIn wsL_quenches wsL_test := goodIn_ca (goodIn_ca (goodIn_r _ [147, 10, 69, 12, 1, 148, 149, 150, 17, 151, 74, 75, 28, 139, 152, 153, 29, 30, 31, 32, 33, 34, 35, 36, 37, 38, 39, 40, 41, 42, 43, 44, 45, 46, 47, 48, 49, 50, 51, 52, 53, 54, 55, 56, 57, 58, 59, 135, 136, 137, 138, 140, 141, 142, 63, 143, 88, 89, 90, 91, 144, 123, 124, 125, 103, 92, 102, 96, 97, 98, 161, 162, 163, 164, 165, 166, 167, 168, 169, 170, 171, 172, 173, 174, 175, 176, 177, 178, 179, 180, 181, 182, 183, 184, 185, 186, 187, 188, 189] (by decide +kernel) (by decide +kernel)) (goodIn_sub (fun _ h => List.mem_cons_of_mem _ (List.mem_append_right _ h)) (by decide +kernel))) (goodIn_sub (fun _ h => List.mem_cons_of_mem _ (List.mem_append_left _ (List.mem_append_right _ h))) (by decide +kernel))
set_option maxRecDepth 20000 in
theorem gL_quenches_L_test : GoodIn wsL_quenches (va_wsS RL 138 yL_test wsL_test) := goodIn_app (goodIn_of _ (by decide +kernel)) ggL_quenches_L_test
set_option maxRecDepth 20000 in
theorem ggL_quenches_L_paper : GoodIn wsL_quenches wsL_paper := goodIn_ca (goodIn_ca (goodIn_r _ [156, 10, 11, 12, 13, 157, 158, 159, 17, 160, 19, 20, 153, 26, 25, 28, 139, 152, 29, 30, 31, 32, 33, 34, 35, 36, 37, 38, 39, 40, 41, 42, 43, 44, 45, 46, 47, 48, 49, 50, 51, 52, 53, 54, 55, 56, 57, 58, 59, 135, 136, 137, 138, 140, 141, 142, 63, 143, 88, 89, 90, 91, 144, 123, 124, 125, 103, 92, 102, 96, 97, 98, 161, 162, 163, 164, 165, 166, 167, 168, 169, 170, 171, 172, 173, 174, 175, 176, 177, 178, 179, 180, 181, 182, 183, 184, 185, 186, 187, 188, 189] (by decide +kernel) (by decide +kernel)) (goodIn_sub (fun _ h => List.mem_cons_of_mem _ (List.mem_append_left _ (List.mem_append_left _ (List.mem_append_right _ h)))) (by decide +kernel))) (goodIn_sub (fun _ h => List.mem_cons_of_mem _ (List.mem_append_left _ (List.mem_append_right _ h))) (by decide +kernel))
set_option maxRecDepth 20000 in
theorem gL_quenches_L_paper : GoodIn wsL_quenches (va_wsS RL 112 yL_paper wsL_paper) := goodIn_app (goodIn_of _ (by decide +kernel)) ggL_quenches_L_paper
theorem dL_quenches_0 : decode cL_quenches 0 = .ok (.iconst 1, 1) := by decide +kernel
theorem dL_quenches_1 : decode cL_quenches 1 = .ok (.iload_n 3, 1) := by decide +kernel
theorem dL_quenches_2 : decode cL_quenches 2 = .ok (.ishl, 1) := by decide +kernel
theorem dL_quenches_3 : decode cL_quenches 3 = .ok (.iload 4, 2) := by decide +kernel
theorem dL_quenches_5 : decode cL_quenches 5 = .ok (.iconst 3, 1) := by decide +kernel
theorem dL_quenches_6 : decode cL_quenches 6 = .ok (.invokestatic 123, 3) := by decide +kernel
theorem dL_quenches_9 : decode cL_quenches 9 = .ok (.ifCond .ne 18, 3) := by decide +kernel
theorem dL_quenches_12 : decode cL_quenches 12 = .ok (.iconst 1, 1) := by decide +kernel
theorem dL_quenches_13 : decode cL_quenches 13 = .ok (.iload 4, 2) := by decide +kernel
theorem dL_quenches_15 : decode cL_quenches 15 = .ok (.iconst 2, 1) := by decide +kernel
theorem dL_quenches_16 : decode cL_quenches 16 = .ok (.ishr, 1) := by decide +kernel
theorem dL_quenches_17 : decode cL_quenches 17 = .ok (.aload_n 1, 1) := by decide +kernel
theorem dL_quenches_18 : decode cL_quenches 18 = .ok (.iconst 1, 1) := by decide +kernel
theorem dL_quenches_19 : decode cL_quenches 19 = .ok (.iaload, 1) := by decide +kernel
theorem dL_quenches_20 : decode cL_quenches 20 = .ok (.invokestatic 123, 3) := by decide +kernel
theorem dL_quenches_23 : decode cL_quenches 23 = .ok (.ishl, 1) := by decide +kernel
theorem dL_quenches_24 : decode cL_quenches 24 = .ok (.goto 4, 3) := by decide +kernel
theorem dL_quenches_27 : decode cL_quenches 27 = .ok (.iconst 0, 1) := by decide +kernel
theorem dL_quenches_28 : decode cL_quenches 28 = .ok (.ior, 1) := by decide +kernel
theorem dL_quenches_29 : decode cL_quenches 29 = .ok (.istore 5, 2) := by decide +kernel
theorem dL_quenches_31 : decode cL_quenches 31 = .ok (.aload_n 1, 1) := by decide +kernel
theorem dL_quenches_32 : decode cL_quenches 32 = .ok (.iconst 3, 1) := by decide +kernel
theorem dL_quenches_33 : decode cL_quenches 33 = .ok (.iaload, 1) := by decide +kernel
theorem dL_quenches_34 : decode cL_quenches 34 = .ok (.bipush 20, 2) := by decide +kernel
theorem dL_quenches_36 : decode cL_quenches 36 = .ok (.if_icmp .ge 7, 3) := by decide +kernel
theorem dL_quenches_39 : decode cL_quenches 39 = .ok (.iconst 1, 1) := by decide +kernel
theorem dL_quenches_40 : decode cL_quenches 40 = .ok (.goto 4, 3) := by decide +kernel
theorem dL_quenches_43 : decode cL_quenches 43 = .ok (.iconst 0, 1) := by decide +kernel
theorem dL_quenches_44 : decode cL_quenches 44 = .ok (.istore 6, 2) := by decide +kernel
theorem dL_quenches_46 : decode cL_quenches 46 = .ok (.iconst 0, 1) := by decide +kernel
theorem dL_quenches_47 : decode cL_quenches 47 = .ok (.istore 7, 2) := by decide +kernel
theorem dL_quenches_49 : decode cL_quenches 49 = .ok (.iload 7, 2) := by decide +kernel
theorem dL_quenches_51 : decode cL_quenches 51 = .ok (.aload_n 1, 1) := by decide +kernel
theorem dL_quenches_52 : decode cL_quenches 52 = .ok (.iconst 1, 1) := by decide +kernel
theorem dL_quenches_53 : decode cL_quenches 53 = .ok (.iaload, 1) := by decide +kernel
theorem dL_quenches_54 : decode cL_quenches 54 = .ok (.if_icmp .ge 55, 3) := by decide +kernel
theorem dL_quenches_57 : decode cL_quenches 57 = .ok (.iload 6, 2) := by decide +kernel
theorem dL_quenches_59 : decode cL_quenches 59 = .ok (.ifCond .eq 41, 3) := by decide +kernel
theorem dL_quenches_62 : decode cL_quenches 62 = .ok (.iload 5, 2) := by decide +kernel
theorem dL_quenches_64 : decode cL_quenches 64 = .ok (.iload 7, 2) := by decide +kernel
theorem dL_quenches_66 : decode cL_quenches 66 = .ok (.ishr, 1) := by decide +kernel
theorem dL_quenches_67 : decode cL_quenches 67 = .ok (.iconst 1, 1) := by decide +kernel
theorem dL_quenches_68 : decode cL_quenches 68 = .ok (.iand, 1) := by decide +kernel
theorem dL_quenches_69 : decode cL_quenches 69 = .ok (.ifCond .eq 27, 3) := by decide +kernel
theorem dL_quenches_72 : decode cL_quenches 72 = .ok (.aload_n 0, 1) := by decide +kernel
theorem dL_quenches_73 : decode cL_quenches 73 = .ok (.iload 7, 2) := by decide +kernel
theorem dL_quenches_75 : decode cL_quenches 75 = .ok (.iconst 1, 1) := by decide +kernel
theorem dL_quenches_76 : decode cL_quenches 76 = .ok (.invokestatic 100, 3) := by decide +kernel
theorem dL_quenches_79 : decode cL_quenches 79 = .ok (.sipush 800, 3) := by decide +kernel
theorem dL_quenches_82 : decode cL_quenches 82 = .ok (.if_icmp .lt 18, 3) := by decide +kernel
theorem dL_quenches_85 : decode cL_quenches 85 = .ok (.aload_n 0, 1) := by decide +kernel
theorem dL_quenches_86 : decode cL_quenches 86 = .ok (.iload 7, 2) := by decide +kernel
theorem dL_quenches_88 : decode cL_quenches 88 = .ok (.bipush 6, 2) := by decide +kernel
theorem dL_quenches_90 : decode cL_quenches 90 = .ok (.invokestatic 100, 3) := by decide +kernel
theorem dL_quenches_93 : decode cL_quenches 93 = .ok (.ifCond .ne 7, 3) := by decide +kernel
theorem dL_quenches_96 : decode cL_quenches 96 = .ok (.iconst 1, 1) := by decide +kernel
theorem dL_quenches_97 : decode cL_quenches 97 = .ok (.goto 4, 3) := by decide +kernel
theorem dL_quenches_100 : decode cL_quenches 100 = .ok (.iconst 0, 1) := by decide +kernel
theorem dL_quenches_101 : decode cL_quenches 101 = .ok (.istore 6, 2) := by decide +kernel
theorem dL_quenches_103 : decode cL_quenches 103 = .ok (.iinc 7 1, 3) := by decide +kernel
theorem dL_quenches_106 : decode cL_quenches 106 = .ok (.goto (-57), 3) := by decide +kernel
theorem dL_quenches_109 : decode cL_quenches 109 = .ok (.aload_n 0, 1) := by decide +kernel
theorem dL_quenches_110 : decode cL_quenches 110 = .ok (.iload 5, 2) := by decide +kernel
theorem dL_quenches_112 : decode cL_quenches 112 = .ok (.iload 4, 2) := by decide +kernel
theorem dL_quenches_114 : decode cL_quenches 114 = .ok (.bipush 6, 2) := by decide +kernel
theorem dL_quenches_116 : decode cL_quenches 116 = .ok (.ishr, 1) := by decide +kernel
theorem dL_quenches_117 : decode cL_quenches 117 = .ok (.iconst 2, 1) := by decide +kernel
theorem dL_quenches_118 : decode cL_quenches 118 = .ok (.invokestatic 123, 3) := by decide +kernel
theorem dL_quenches_121 : decode cL_quenches 121 = .ok (.invokestatic 151, 3) := by decide +kernel
theorem dL_quenches_124 : decode cL_quenches 124 = .ok (.istore 7, 2) := by decide +kernel
theorem dL_quenches_126 : decode cL_quenches 126 = .ok (.iload 6, 2) := by decide +kernel
theorem dL_quenches_128 : decode cL_quenches 128 = .ok (.ifCond .ne 16, 3) := by decide +kernel
theorem dL_quenches_131 : decode cL_quenches 131 = .ok (.iload 7, 2) := by decide +kernel
theorem dL_quenches_133 : decode cL_quenches 133 = .ok (.ldc 28, 2) := by decide +kernel
theorem dL_quenches_135 : decode cL_quenches 135 = .ok (.if_icmp .ne 7, 3) := by decide +kernel
theorem dL_quenches_138 : decode cL_quenches 138 = .ok (.iconst 1, 1) := by decide +kernel
theorem dL_quenches_139 : decode cL_quenches 139 = .ok (.goto 4, 3) := by decide +kernel
theorem dL_quenches_142 : decode cL_quenches 142 = .ok (.iconst 0, 1) := by decide +kernel
theorem dL_quenches_143 : decode cL_quenches 143 = .ok (.ireturn, 1) := by decide +kernel
theorem dL_quenches_144 : decode cL_quenches 144 = .ok (.aload_n 1, 1) := by decide +kernel
theorem dL_quenches_145 : decode cL_quenches 145 = .ok (.iconst 3, 1) := by decide +kernel
theorem dL_quenches_146 : decode cL_quenches 146 = .ok (.dup2, 1) := by decide +kernel
theorem dL_quenches_147 : decode cL_quenches 147 = .ok (.iaload, 1) := by decide +kernel
theorem dL_quenches_148 : decode cL_quenches 148 = .ok (.iconst 1, 1) := by decide +kernel
theorem dL_quenches_149 : decode cL_quenches 149 = .ok (.iadd, 1) := by decide +kernel
theorem dL_quenches_150 : decode cL_quenches 150 = .ok (.iastore, 1) := by decide +kernel
theorem dL_quenches_151 : decode cL_quenches 151 = .ok (.aload_n 0, 1) := by decide +kernel
theorem dL_quenches_152 : decode cL_quenches 152 = .ok (.iload_n 3, 1) := by decide +kernel
theorem dL_quenches_153 : decode cL_quenches 153 = .ok (.iconst 0, 1) := by decide +kernel
theorem dL_quenches_154 : decode cL_quenches 154 = .ok (.invokestatic 110, 3) := by decide +kernel
theorem dL_quenches_157 : decode cL_quenches 157 = .ok (.istore 8, 2) := by decide +kernel
theorem dL_quenches_159 : decode cL_quenches 159 = .ok (.aload_n 0, 1) := by decide +kernel
theorem dL_quenches_160 : decode cL_quenches 160 = .ok (.iload_n 3, 1) := by decide +kernel
theorem dL_quenches_161 : decode cL_quenches 161 = .ok (.bipush 100, 2) := by decide +kernel
theorem dL_quenches_163 : decode cL_quenches 163 = .ok (.iload 4, 2) := by decide +kernel
theorem dL_quenches_165 : decode cL_quenches 165 = .ok (.bipush 7, 2) := by decide +kernel
theorem dL_quenches_167 : decode cL_quenches 167 = .ok (.ishr, 1) := by decide +kernel
theorem dL_quenches_168 : decode cL_quenches 168 = .ok (.sipush 601, 3) := by decide +kernel
theorem dL_quenches_171 : decode cL_quenches 171 = .ok (.invokestatic 123, 3) := by decide +kernel
theorem dL_quenches_174 : decode cL_quenches 174 = .ok (.iadd, 1) := by decide +kernel
theorem dL_quenches_175 : decode cL_quenches 175 = .ok (.invokestatic 136, 3) := by decide +kernel
theorem dL_quenches_178 : decode cL_quenches 178 = .ok (.istore 9, 2) := by decide +kernel
theorem dL_quenches_180 : decode cL_quenches 180 = .ok (.iload 7, 2) := by decide +kernel
theorem dL_quenches_182 : decode cL_quenches 182 = .ok (.aload_n 1, 1) := by decide +kernel
theorem dL_quenches_183 : decode cL_quenches 183 = .ok (.iconst 3, 1) := by decide +kernel
theorem dL_quenches_184 : decode cL_quenches 184 = .ok (.iaload, 1) := by decide +kernel
theorem dL_quenches_185 : decode cL_quenches 185 = .ok (.iconst 1, 1) := by decide +kernel
theorem dL_quenches_186 : decode cL_quenches 186 = .ok (.isub, 1) := by decide +kernel
theorem dL_quenches_187 : decode cL_quenches 187 = .ok (.if_icmp .ne 97, 3) := by decide +kernel
theorem dL_quenches_190 : decode cL_quenches 190 = .ok (.aload_n 0, 1) := by decide +kernel
theorem dL_quenches_191 : decode cL_quenches 191 = .ok (.iload_n 3, 1) := by decide +kernel
theorem dL_quenches_192 : decode cL_quenches 192 = .ok (.bipush 8, 2) := by decide +kernel
theorem dL_quenches_194 : decode cL_quenches 194 = .ok (.invokestatic 100, 3) := by decide +kernel
theorem dL_quenches_197 : decode cL_quenches 197 = .ok (.iload 7, 2) := by decide +kernel
theorem dL_quenches_199 : decode cL_quenches 199 = .ok (.if_icmp .ne 85, 3) := by decide +kernel
theorem dL_quenches_202 : decode cL_quenches 202 = .ok (.aload_n 0, 1) := by decide +kernel
theorem dL_quenches_203 : decode cL_quenches 203 = .ok (.iload_n 3, 1) := by decide +kernel
theorem dL_quenches_204 : decode cL_quenches 204 = .ok (.iconst 0, 1) := by decide +kernel
theorem dL_quenches_205 : decode cL_quenches 205 = .ok (.invokestatic 100, 3) := by decide +kernel
theorem dL_quenches_208 : decode cL_quenches 208 = .ok (.bipush 20, 2) := by decide +kernel
theorem dL_quenches_210 : decode cL_quenches 210 = .ok (.if_icmp .ne 74, 3) := by decide +kernel
theorem dL_quenches_213 : decode cL_quenches 213 = .ok (.aload_n 0, 1) := by decide +kernel
theorem dL_quenches_214 : decode cL_quenches 214 = .ok (.iload_n 3, 1) := by decide +kernel
theorem dL_quenches_215 : decode cL_quenches 215 = .ok (.iconst 1, 1) := by decide +kernel
theorem dL_quenches_216 : decode cL_quenches 216 = .ok (.invokestatic 100, 3) := by decide +kernel
theorem dL_quenches_219 : decode cL_quenches 219 = .ok (.bipush 20, 2) := by decide +kernel
theorem dL_quenches_221 : decode cL_quenches 221 = .ok (.if_icmp .ne 63, 3) := by decide +kernel
theorem dL_quenches_224 : decode cL_quenches 224 = .ok (.iload 9, 2) := by decide +kernel
theorem dL_quenches_226 : decode cL_quenches 226 = .ok (.ifCond .lt 58, 3) := by decide +kernel
theorem dL_quenches_229 : decode cL_quenches 229 = .ok (.iload 9, 2) := by decide +kernel
theorem dL_quenches_231 : decode cL_quenches 231 = .ok (.iload 8, 2) := by decide +kernel
theorem dL_quenches_233 : decode cL_quenches 233 = .ok (.if_icmp .gt 51, 3) := by decide +kernel
theorem dL_quenches_236 : decode cL_quenches 236 = .ok (.aload_n 0, 1) := by decide +kernel
theorem dL_quenches_237 : decode cL_quenches 237 = .ok (.iload_n 3, 1) := by decide +kernel
theorem dL_quenches_238 : decode cL_quenches 238 = .ok (.bipush 100, 2) := by decide +kernel
theorem dL_quenches_240 : decode cL_quenches 240 = .ok (.invokestatic 136, 3) := by decide +kernel
theorem dL_quenches_243 : decode cL_quenches 243 = .ok (.iload 9, 2) := by decide +kernel
theorem dL_quenches_245 : decode cL_quenches 245 = .ok (.if_icmp .ne 39, 3) := by decide +kernel
theorem dL_quenches_248 : decode cL_quenches 248 = .ok (.iload 4, 2) := by decide +kernel
theorem dL_quenches_250 : decode cL_quenches 250 = .ok (.bipush 16, 2) := by decide +kernel
theorem dL_quenches_252 : decode cL_quenches 252 = .ok (.ishr, 1) := by decide +kernel
theorem dL_quenches_253 : decode cL_quenches 253 = .ok (.iconst 2, 1) := by decide +kernel
theorem dL_quenches_254 : decode cL_quenches 254 = .ok (.invokestatic 123, 3) := by decide +kernel
theorem dL_quenches_257 : decode cL_quenches 257 = .ok (.ifCond .eq 23, 3) := by decide +kernel
theorem dL_quenches_260 : decode cL_quenches 260 = .ok (.aload_n 0, 1) := by decide +kernel
theorem dL_quenches_261 : decode cL_quenches 261 = .ok (.iload_n 3, 1) := by decide +kernel
theorem dL_quenches_262 : decode cL_quenches 262 = .ok (.invokestatic 138, 3) := by decide +kernel
theorem dL_quenches_265 : decode cL_quenches 265 = .ok (.iload 9, 2) := by decide +kernel
theorem dL_quenches_267 : decode cL_quenches 267 = .ok (.if_icmp .ne 17, 3) := by decide +kernel
theorem dL_quenches_270 : decode cL_quenches 270 = .ok (.aload_n 0, 1) := by decide +kernel
theorem dL_quenches_271 : decode cL_quenches 271 = .ok (.iload_n 3, 1) := by decide +kernel
theorem dL_quenches_272 : decode cL_quenches 272 = .ok (.iconst 0, 1) := by decide +kernel
theorem dL_quenches_273 : decode cL_quenches 273 = .ok (.invokestatic 112, 3) := by decide +kernel
theorem dL_quenches_276 : decode cL_quenches 276 = .ok (.iconst (-1), 1) := by decide +kernel
theorem dL_quenches_277 : decode cL_quenches 277 = .ok (.if_icmp .ne 7, 3) := by decide +kernel
theorem dL_quenches_280 : decode cL_quenches 280 = .ok (.iconst 1, 1) := by decide +kernel
theorem dL_quenches_281 : decode cL_quenches 281 = .ok (.goto 4, 3) := by decide +kernel
theorem dL_quenches_284 : decode cL_quenches 284 = .ok (.iconst 0, 1) := by decide +kernel
theorem dL_quenches_285 : decode cL_quenches 285 = .ok (.ireturn, 1) := by decide +kernel
set_option maxRecDepth 20000 in
theorem ggL_plans_L_low : GoodIn wsL_plans wsL_low := goodIn_r _ [5, 6] (by decide +kernel) (by decide +kernel)
set_option maxRecDepth 20000 in
theorem gL_plans_L_low : GoodIn wsL_plans (va_wsS RL 123 yL_low wsL_low) := goodIn_app (goodIn_of _ (by decide +kernel)) ggL_plans_L_low
set_option maxRecDepth 20000 in
theorem ggL_plans_L_job : GoodIn wsL_plans wsL_job := goodIn_ca (goodIn_ca (goodIn_r _ [9, 10, 11, 12, 1, 13, 14, 15, 16, 17, 18, 19, 20, 21, 22, 23, 24, 25, 26, 27, 28, 29, 30, 64, 65, 66, 67, 68, 69, 70, 71, 72, 73, 74] (by decide +kernel) (by decide +kernel)) (goodIn_sub (fun _ h => List.mem_cons_of_mem _ (List.mem_append_left _ (List.mem_append_right _ h))) (by decide +kernel))) (goodIn_sub (fun _ h => List.mem_cons_of_mem _ (List.mem_append_right _ h)) (by decide +kernel))
set_option maxRecDepth 20000 in
theorem gL_plans_L_job : GoodIn wsL_plans (va_wsS RL 153 yL_job wsL_job) := goodIn_app (goodIn_of _ (by decide +kernel)) ggL_plans_L_job
set_option maxRecDepth 20000 in
theorem ggL_plans_L_planned : GoodIn wsL_plans wsL_planned := goodIn_ca (goodIn_r _ [33, 10, 12, 34, 35, 36, 16, 37, 18, 19, 22, 38, 39, 40, 27, 41, 29, 30, 42, 43, 44, 45, 46, 47, 48, 49, 50, 51, 52, 53, 54, 64, 65, 66, 67, 68, 69, 70, 71, 72, 73, 74] (by decide +kernel) (by decide +kernel)) (goodIn_sub (fun _ h => List.mem_cons_of_mem _ (List.mem_append_left _ (List.mem_append_right _ h))) (by decide +kernel))
set_option maxRecDepth 20000 in
theorem gL_plans_L_planned : GoodIn wsL_plans (va_wsS RL 155 yL_planned wsL_planned) := goodIn_app (goodIn_of _ (by decide +kernel)) ggL_plans_L_planned
set_option maxRecDepth 20000 in
theorem ggL_plans_X5_run : GoodIn wsL_plans wsX5_run := goodIn_r _ [58, 22, 59, 60, 61, 27, 62, 29, 51, 52, 53, 54, 50, 63, 39, 40, 41, 30, 42, 43, 44, 45, 46, 47, 48, 49, 64, 65, 66, 67, 68, 69, 70, 71, 72, 73, 74] (by decide +kernel) (by decide +kernel)
set_option maxRecDepth 20000 in
theorem gL_plans_X5_run : GoodIn wsL_plans (wsV RL 157 RX5 yX5_run wsX5_run) := goodIn_app (goodIn_of _ (by decide +kernel)) ggL_plans_X5_run
theorem dL_plans_0 : decode cL_plans 0 = .ok (.iload_n 2, 1) := by decide +kernel
theorem dL_plans_1 : decode cL_plans 1 = .ok (.iconst 4, 1) := by decide +kernel
theorem dL_plans_2 : decode cL_plans 2 = .ok (.invokestatic 123, 3) := by decide +kernel
theorem dL_plans_5 : decode cL_plans 5 = .ok (.ifCond .le 72, 3) := by decide +kernel
theorem dL_plans_8 : decode cL_plans 8 = .ok (.sipush 200, 3) := by decide +kernel
theorem dL_plans_11 : decode cL_plans 11 = .ok (.iload_n 3, 1) := by decide +kernel
theorem dL_plans_12 : decode cL_plans 12 = .ok (.sipush 1101, 3) := by decide +kernel
theorem dL_plans_15 : decode cL_plans 15 = .ok (.invokestatic 123, 3) := by decide +kernel
theorem dL_plans_18 : decode cL_plans 18 = .ok (.iadd, 1) := by decide +kernel
theorem dL_plans_19 : decode cL_plans 19 = .ok (.istore 4, 2) := by decide +kernel
theorem dL_plans_21 : decode cL_plans 21 = .ok (.aload_n 0, 1) := by decide +kernel
theorem dL_plans_22 : decode cL_plans 22 = .ok (.iload 4, 2) := by decide +kernel
theorem dL_plans_24 : decode cL_plans 24 = .ok (.invokestatic 153, 3) := by decide +kernel
theorem dL_plans_27 : decode cL_plans 27 = .ok (.istore 5, 2) := by decide +kernel
theorem dL_plans_29 : decode cL_plans 29 = .ok (.aload_n 1, 1) := by decide +kernel
theorem dL_plans_30 : decode cL_plans 30 = .ok (.iconst 4, 1) := by decide +kernel
theorem dL_plans_31 : decode cL_plans 31 = .ok (.dup2, 1) := by decide +kernel
theorem dL_plans_32 : decode cL_plans 32 = .ok (.iaload, 1) := by decide +kernel
theorem dL_plans_33 : decode cL_plans 33 = .ok (.aload_n 1, 1) := by decide +kernel
theorem dL_plans_34 : decode cL_plans 34 = .ok (.iconst 4, 1) := by decide +kernel
theorem dL_plans_35 : decode cL_plans 35 = .ok (.iaload, 1) := by decide +kernel
theorem dL_plans_36 : decode cL_plans 36 = .ok (.bipush 12, 2) := by decide +kernel
theorem dL_plans_38 : decode cL_plans 38 = .ok (.if_icmp .ge 7, 3) := by decide +kernel
theorem dL_plans_41 : decode cL_plans 41 = .ok (.iconst 1, 1) := by decide +kernel
theorem dL_plans_42 : decode cL_plans 42 = .ok (.goto 4, 3) := by decide +kernel
theorem dL_plans_45 : decode cL_plans 45 = .ok (.iconst 0, 1) := by decide +kernel
theorem dL_plans_46 : decode cL_plans 46 = .ok (.iadd, 1) := by decide +kernel
theorem dL_plans_47 : decode cL_plans 47 = .ok (.iastore, 1) := by decide +kernel
theorem dL_plans_48 : decode cL_plans 48 = .ok (.iload 5, 2) := by decide +kernel
theorem dL_plans_50 : decode cL_plans 50 = .ok (.aload_n 1, 1) := by decide +kernel
theorem dL_plans_51 : decode cL_plans 51 = .ok (.iconst 4, 1) := by decide +kernel
theorem dL_plans_52 : decode cL_plans 52 = .ok (.iaload, 1) := by decide +kernel
theorem dL_plans_53 : decode cL_plans 53 = .ok (.if_icmp .eq 18, 3) := by decide +kernel
theorem dL_plans_56 : decode cL_plans 56 = .ok (.iload 5, 2) := by decide +kernel
theorem dL_plans_58 : decode cL_plans 58 = .ok (.ldc 28, 2) := by decide +kernel
theorem dL_plans_60 : decode cL_plans 60 = .ok (.if_icmp .ne 15, 3) := by decide +kernel
theorem dL_plans_63 : decode cL_plans 63 = .ok (.aload_n 1, 1) := by decide +kernel
theorem dL_plans_64 : decode cL_plans 64 = .ok (.iconst 4, 1) := by decide +kernel
theorem dL_plans_65 : decode cL_plans 65 = .ok (.iaload, 1) := by decide +kernel
theorem dL_plans_66 : decode cL_plans 66 = .ok (.bipush 12, 2) := by decide +kernel
theorem dL_plans_68 : decode cL_plans 68 = .ok (.if_icmp .ne 7, 3) := by decide +kernel
theorem dL_plans_71 : decode cL_plans 71 = .ok (.iconst 1, 1) := by decide +kernel
theorem dL_plans_72 : decode cL_plans 72 = .ok (.goto 4, 3) := by decide +kernel
theorem dL_plans_75 : decode cL_plans 75 = .ok (.iconst 0, 1) := by decide +kernel
theorem dL_plans_76 : decode cL_plans 76 = .ok (.ireturn, 1) := by decide +kernel
theorem dL_plans_77 : decode cL_plans 77 = .ok (.iconst 0, 1) := by decide +kernel
theorem dL_plans_78 : decode cL_plans 78 = .ok (.istore 4, 2) := by decide +kernel
theorem dL_plans_80 : decode cL_plans 80 = .ok (.aload_n 0, 1) := by decide +kernel
theorem dL_plans_81 : decode cL_plans 81 = .ok (.aload_n 1, 1) := by decide +kernel
theorem dL_plans_82 : decode cL_plans 82 = .ok (.iconst 4, 1) := by decide +kernel
theorem dL_plans_83 : decode cL_plans 83 = .ok (.iaload, 1) := by decide +kernel
theorem dL_plans_84 : decode cL_plans 84 = .ok (.invokestatic 155, 3) := by decide +kernel
theorem dL_plans_87 : decode cL_plans 87 = .ok (.iconst (-1), 1) := by decide +kernel
theorem dL_plans_88 : decode cL_plans 88 = .ok (.if_icmp .ne 7, 3) := by decide +kernel
theorem dL_plans_91 : decode cL_plans 91 = .ok (.iconst 1, 1) := by decide +kernel
theorem dL_plans_92 : decode cL_plans 92 = .ok (.goto 4, 3) := by decide +kernel
theorem dL_plans_95 : decode cL_plans 95 = .ok (.iconst 0, 1) := by decide +kernel
theorem dL_plans_96 : decode cL_plans 96 = .ok (.istore 5, 2) := by decide +kernel
theorem dL_plans_98 : decode cL_plans 98 = .ok (.iconst 1, 1) := by decide +kernel
theorem dL_plans_99 : decode cL_plans 99 = .ok (.istore 6, 2) := by decide +kernel
theorem dL_plans_101 : decode cL_plans 101 = .ok (.iload 6, 2) := by decide +kernel
theorem dL_plans_103 : decode cL_plans 103 = .ok (.aload_n 1, 1) := by decide +kernel
theorem dL_plans_104 : decode cL_plans 104 = .ok (.iconst 4, 1) := by decide +kernel
theorem dL_plans_105 : decode cL_plans 105 = .ok (.iaload, 1) := by decide +kernel
theorem dL_plans_106 : decode cL_plans 106 = .ok (.if_icmp .ge 91, 3) := by decide +kernel
theorem dL_plans_109 : decode cL_plans 109 = .ok (.aload_n 0, 1) := by decide +kernel
theorem dL_plans_110 : decode cL_plans 110 = .ok (.iload 6, 2) := by decide +kernel
theorem dL_plans_112 : decode cL_plans 112 = .ok (.invokestatic 155, 3) := by decide +kernel
theorem dL_plans_115 : decode cL_plans 115 = .ok (.aload_n 0, 1) := by decide +kernel
theorem dL_plans_116 : decode cL_plans 116 = .ok (.iload 6, 2) := by decide +kernel
theorem dL_plans_118 : decode cL_plans 118 = .ok (.iconst 1, 1) := by decide +kernel
theorem dL_plans_119 : decode cL_plans 119 = .ok (.isub, 1) := by decide +kernel
theorem dL_plans_120 : decode cL_plans 120 = .ok (.invokestatic 155, 3) := by decide +kernel
theorem dL_plans_123 : decode cL_plans 123 = .ok (.isub, 1) := by decide +kernel
theorem dL_plans_124 : decode cL_plans 124 = .ok (.istore 7, 2) := by decide +kernel
theorem dL_plans_126 : decode cL_plans 126 = .ok (.aload_n 0, 1) := by decide +kernel
theorem dL_plans_127 : decode cL_plans 127 = .ok (.aload_n 1, 1) := by decide +kernel
theorem dL_plans_128 : decode cL_plans 128 = .ok (.iconst 4, 1) := by decide +kernel
theorem dL_plans_129 : decode cL_plans 129 = .ok (.iaload, 1) := by decide +kernel
theorem dL_plans_130 : decode cL_plans 130 = .ok (.iconst 1, 1) := by decide +kernel
theorem dL_plans_131 : decode cL_plans 131 = .ok (.isub, 1) := by decide +kernel
theorem dL_plans_132 : decode cL_plans 132 = .ok (.invokestatic 155, 3) := by decide +kernel
theorem dL_plans_135 : decode cL_plans 135 = .ok (.aload_n 0, 1) := by decide +kernel
theorem dL_plans_136 : decode cL_plans 136 = .ok (.iconst 0, 1) := by decide +kernel
theorem dL_plans_137 : decode cL_plans 137 = .ok (.invokestatic 155, 3) := by decide +kernel
theorem dL_plans_140 : decode cL_plans 140 = .ok (.isub, 1) := by decide +kernel
theorem dL_plans_141 : decode cL_plans 141 = .ok (.istore 8, 2) := by decide +kernel
theorem dL_plans_143 : decode cL_plans 143 = .ok (.iload 4, 2) := by decide +kernel
theorem dL_plans_145 : decode cL_plans 145 = .ok (.iload 7, 2) := by decide +kernel
theorem dL_plans_147 : decode cL_plans 147 = .ok (.ifCond .ge 9, 3) := by decide +kernel
theorem dL_plans_150 : decode cL_plans 150 = .ok (.iload 7, 2) := by decide +kernel
theorem dL_plans_152 : decode cL_plans 152 = .ok (.ineg, 1) := by decide +kernel
theorem dL_plans_153 : decode cL_plans 153 = .ok (.goto 5, 3) := by decide +kernel
theorem dL_plans_156 : decode cL_plans 156 = .ok (.iload 7, 2) := by decide +kernel
theorem dL_plans_158 : decode cL_plans 158 = .ok (.iadd, 1) := by decide +kernel
theorem dL_plans_159 : decode cL_plans 159 = .ok (.istore 4, 2) := by decide +kernel
theorem dL_plans_161 : decode cL_plans 161 = .ok (.iload 5, 2) := by decide +kernel
theorem dL_plans_163 : decode cL_plans 163 = .ok (.ifCond .eq 25, 3) := by decide +kernel
theorem dL_plans_166 : decode cL_plans 166 = .ok (.iload 8, 2) := by decide +kernel
theorem dL_plans_168 : decode cL_plans 168 = .ok (.ifCond .ge 11, 3) := by decide +kernel
theorem dL_plans_171 : decode cL_plans 171 = .ok (.iload 7, 2) := by decide +kernel
theorem dL_plans_173 : decode cL_plans 173 = .ok (.ifCond .gt 15, 3) := by decide +kernel
theorem dL_plans_176 : decode cL_plans 176 = .ok (.goto 8, 3) := by decide +kernel
theorem dL_plans_179 : decode cL_plans 179 = .ok (.iload 7, 2) := by decide +kernel
theorem dL_plans_181 : decode cL_plans 181 = .ok (.ifCond .lt 7, 3) := by decide +kernel
theorem dL_plans_184 : decode cL_plans 184 = .ok (.iconst 1, 1) := by decide +kernel
theorem dL_plans_185 : decode cL_plans 185 = .ok (.goto 4, 3) := by decide +kernel
theorem dL_plans_188 : decode cL_plans 188 = .ok (.iconst 0, 1) := by decide +kernel
theorem dL_plans_189 : decode cL_plans 189 = .ok (.istore 5, 2) := by decide +kernel
theorem dL_plans_191 : decode cL_plans 191 = .ok (.iinc 6 1, 3) := by decide +kernel
theorem dL_plans_194 : decode cL_plans 194 = .ok (.goto (-93), 3) := by decide +kernel
theorem dL_plans_197 : decode cL_plans 197 = .ok (.aload_n 0, 1) := by decide +kernel
theorem dL_plans_198 : decode cL_plans 198 = .ok (.invokevirtual 157, 3) := by decide +kernel
theorem dL_plans_201 : decode cL_plans 201 = .ok (.istore 6, 2) := by decide +kernel
theorem dL_plans_203 : decode cL_plans 203 = .ok (.aload_n 1, 1) := by decide +kernel
theorem dL_plans_204 : decode cL_plans 204 = .ok (.iconst 4, 1) := by decide +kernel
theorem dL_plans_205 : decode cL_plans 205 = .ok (.iconst 0, 1) := by decide +kernel
theorem dL_plans_206 : decode cL_plans 206 = .ok (.iastore, 1) := by decide +kernel
theorem dL_plans_207 : decode cL_plans 207 = .ok (.iload 5, 2) := by decide +kernel
theorem dL_plans_209 : decode cL_plans 209 = .ok (.ifCond .eq 41, 3) := by decide +kernel
theorem dL_plans_212 : decode cL_plans 212 = .ok (.iload 6, 2) := by decide +kernel
theorem dL_plans_214 : decode cL_plans 214 = .ok (.iload 4, 2) := by decide +kernel
theorem dL_plans_216 : decode cL_plans 216 = .ok (.if_icmp .lt 34, 3) := by decide +kernel
theorem dL_plans_219 : decode cL_plans 219 = .ok (.iload 6, 2) := by decide +kernel
theorem dL_plans_221 : decode cL_plans 221 = .ok (.iload 4, 2) := by decide +kernel
theorem dL_plans_223 : decode cL_plans 223 = .ok (.sipush 1100, 3) := by decide +kernel
theorem dL_plans_226 : decode cL_plans 226 = .ok (.iadd, 1) := by decide +kernel
theorem dL_plans_227 : decode cL_plans 227 = .ok (.if_icmp .gt 23, 3) := by decide +kernel
theorem dL_plans_230 : decode cL_plans 230 = .ok (.aload_n 0, 1) := by decide +kernel
theorem dL_plans_231 : decode cL_plans 231 = .ok (.iconst 0, 1) := by decide +kernel
theorem dL_plans_232 : decode cL_plans 232 = .ok (.invokestatic 155, 3) := by decide +kernel
theorem dL_plans_235 : decode cL_plans 235 = .ok (.iconst (-1), 1) := by decide +kernel
theorem dL_plans_236 : decode cL_plans 236 = .ok (.if_icmp .ne 14, 3) := by decide +kernel
theorem dL_plans_239 : decode cL_plans 239 = .ok (.aload_n 0, 1) := by decide +kernel
theorem dL_plans_240 : decode cL_plans 240 = .ok (.invokevirtual 157, 3) := by decide +kernel
theorem dL_plans_243 : decode cL_plans 243 = .ok (.ifCond .ne 7, 3) := by decide +kernel
theorem dL_plans_246 : decode cL_plans 246 = .ok (.iconst 1, 1) := by decide +kernel
theorem dL_plans_247 : decode cL_plans 247 = .ok (.goto 4, 3) := by decide +kernel
theorem dL_plans_250 : decode cL_plans 250 = .ok (.iconst 0, 1) := by decide +kernel
theorem dL_plans_251 : decode cL_plans 251 = .ok (.ireturn, 1) := by decide +kernel
set_option maxRecDepth 20000 in
theorem ggL_acts_L_low : GoodIn wsL_acts wsL_low := goodIn_r _ [5, 6] (by decide +kernel) (by decide +kernel)
set_option maxRecDepth 20000 in
theorem gL_acts_L_low : GoodIn wsL_acts (va_wsS RL 123 yL_low wsL_low) := goodIn_app (goodIn_of _ (by decide +kernel)) ggL_acts_L_low
